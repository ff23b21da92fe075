section
-- ===== PART A: goes FIRST, ahead of the names: the tables' words, and 'selects' of the private methods out of them =====
/-- a private method of a class that the tables say can be made, by its rows of tables_1 -/
def lw_okq (q : MethodName × Nat) : Prop := (q.1.cls ≠ "java/lang/invoke/MethodHandle" ∧ q.1.cls ≠ "java/lang/invoke/VarHandle") ∧ Cond.instantiable q.1.cls q.2 ∈ tables_1 ∧ Cond.privateMethod q.1 ∈ tables_1 ∧ Cond.instanceMethod q.1 ∈ tables_1
theorem lw_p0 : lw_okq (⟨"OneTuneNine", "refuse", "(I)I"⟩, 8) := ⟨⟨by decide +kernel, by decide +kernel⟩, List.mem_of_getElem? (i := 16) (by decide +kernel), List.mem_of_getElem? (i := 210) (by decide +kernel), List.mem_of_getElem? (i := 211) (by decide +kernel)⟩
theorem lw_p1 : lw_okq (⟨"OneTuneNine$Text", "formAt", "(I)Ljava/lang/String;"⟩, 1) := ⟨⟨by decide +kernel, by decide +kernel⟩, List.mem_of_getElem? (i := 152) (by decide +kernel), List.mem_of_getElem? (i := 235) (by decide +kernel), List.mem_of_getElem? (i := 236) (by decide +kernel)⟩
theorem lw_p2 : lw_okq (⟨"OneTuneNine$Text", "at", "(I)I"⟩, 1) := ⟨⟨by decide +kernel, by decide +kernel⟩, List.mem_of_getElem? (i := 152) (by decide +kernel), List.mem_of_getElem? (i := 239) (by decide +kernel), List.mem_of_getElem? (i := 240) (by decide +kernel)⟩
theorem lw_p3 : lw_okq (⟨"OneTuneNine$Text", "isDigit", "(I)Z"⟩, 1) := ⟨⟨by decide +kernel, by decide +kernel⟩, List.mem_of_getElem? (i := 152) (by decide +kernel), List.mem_of_getElem? (i := 248) (by decide +kernel), List.mem_of_getElem? (i := 249) (by decide +kernel)⟩
theorem lw_p4 : lw_okq (⟨"OneTuneNine$Text", "fits", "(CI)Z"⟩, 1) := ⟨⟨by decide +kernel, by decide +kernel⟩, List.mem_of_getElem? (i := 152) (by decide +kernel), List.mem_of_getElem? (i := 305) (by decide +kernel), List.mem_of_getElem? (i := 306) (by decide +kernel)⟩
theorem lw_p5 : lw_okq (⟨"OneTuneNine$Text", "kind", "(I)I"⟩, 1) := ⟨⟨by decide +kernel, by decide +kernel⟩, List.mem_of_getElem? (i := 152) (by decide +kernel), List.mem_of_getElem? (i := 309) (by decide +kernel), List.mem_of_getElem? (i := 310) (by decide +kernel)⟩
theorem lw_p6 : lw_okq (⟨"OneTuneNine$Text", "tell", "(LOneTuneNine$Canon;II)Z"⟩, 1) := ⟨⟨by decide +kernel, by decide +kernel⟩, List.mem_of_getElem? (i := 152) (by decide +kernel), List.mem_of_getElem? (i := 342) (by decide +kernel), List.mem_of_getElem? (i := 343) (by decide +kernel)⟩
theorem lw_p7 : lw_okq (⟨"OneTuneNine$Text", "digit", "(I)I"⟩, 1) := ⟨⟨by decide +kernel, by decide +kernel⟩, List.mem_of_getElem? (i := 152) (by decide +kernel), List.mem_of_getElem? (i := 346) (by decide +kernel), List.mem_of_getElem? (i := 347) (by decide +kernel)⟩
theorem lw_p8 : lw_okq (⟨"OneTuneNine$Text", "entry", "(I)I"⟩, 1) := ⟨⟨by decide +kernel, by decide +kernel⟩, List.mem_of_getElem? (i := 152) (by decide +kernel), List.mem_of_getElem? (i := 364) (by decide +kernel), List.mem_of_getElem? (i := 365) (by decide +kernel)⟩
theorem lw_p9 : lw_okq (⟨"OneTuneNine$Canon", "listen", "(I)V"⟩, 9) := ⟨⟨by decide +kernel, by decide +kernel⟩, List.mem_of_getElem? (i := 24) (by decide +kernel), List.mem_of_getElem? (i := 514) (by decide +kernel), List.mem_of_getElem? (i := 515) (by decide +kernel)⟩
theorem lw_p10 : lw_okq (⟨"OneTuneNine$Canon", "clash", "(II)Z"⟩, 9) := ⟨⟨by decide +kernel, by decide +kernel⟩, List.mem_of_getElem? (i := 24) (by decide +kernel), List.mem_of_getElem? (i := 520) (by decide +kernel), List.mem_of_getElem? (i := 521) (by decide +kernel)⟩
theorem lw_p11 : lw_okq (⟨"OneTuneNine$Meetings", "meet", "(II)V"⟩, 2) := ⟨⟨by decide +kernel, by decide +kernel⟩, List.mem_of_getElem? (i := 111) (by decide +kernel), List.mem_of_getElem? (i := 604) (by decide +kernel), List.mem_of_getElem? (i := 605) (by decide +kernel)⟩
theorem lw_p12 : lw_okq (⟨"OneTuneNine$Mind", "findMends", "()V"⟩, 3) := ⟨⟨by decide +kernel, by decide +kernel⟩, List.mem_of_getElem? (i := 103) (by decide +kernel), List.mem_of_getElem? (i := 637) (by decide +kernel), List.mem_of_getElem? (i := 638) (by decide +kernel)⟩
theorem lw_p13 : lw_okq (⟨"OneTuneNine$Mind", "keepMends", "(I)V"⟩, 3) := ⟨⟨by decide +kernel, by decide +kernel⟩, List.mem_of_getElem? (i := 103) (by decide +kernel), List.mem_of_getElem? (i := 652) (by decide +kernel), List.mem_of_getElem? (i := 653) (by decide +kernel)⟩
theorem lw_p14 : lw_okq (⟨"OneTuneNine$Mind", "firstSingle", "()I"⟩, 3) := ⟨⟨by decide +kernel, by decide +kernel⟩, List.mem_of_getElem? (i := 103) (by decide +kernel), List.mem_of_getElem? (i := 659) (by decide +kernel), List.mem_of_getElem? (i := 660) (by decide +kernel)⟩
theorem lw_p15 : lw_okq (⟨"OneTuneNine$Mind", "canMend", "(II)Z"⟩, 3) := ⟨⟨by decide +kernel, by decide +kernel⟩, List.mem_of_getElem? (i := 103) (by decide +kernel), List.mem_of_getElem? (i := 663) (by decide +kernel), List.mem_of_getElem? (i := 664) (by decide +kernel)⟩
def lw_privs_1 : List (MethodName × Nat) := [(⟨"OneTuneNine", "refuse", "(I)I"⟩, 8), (⟨"OneTuneNine$Text", "formAt", "(I)Ljava/lang/String;"⟩, 1), (⟨"OneTuneNine$Text", "at", "(I)I"⟩, 1), (⟨"OneTuneNine$Text", "isDigit", "(I)Z"⟩, 1), (⟨"OneTuneNine$Text", "fits", "(CI)Z"⟩, 1), (⟨"OneTuneNine$Text", "kind", "(I)I"⟩, 1), (⟨"OneTuneNine$Text", "tell", "(LOneTuneNine$Canon;II)Z"⟩, 1), (⟨"OneTuneNine$Text", "digit", "(I)I"⟩, 1), (⟨"OneTuneNine$Text", "entry", "(I)I"⟩, 1), (⟨"OneTuneNine$Canon", "listen", "(I)V"⟩, 9), (⟨"OneTuneNine$Canon", "clash", "(II)Z"⟩, 9), (⟨"OneTuneNine$Meetings", "meet", "(II)V"⟩, 2), (⟨"OneTuneNine$Mind", "findMends", "()V"⟩, 3), (⟨"OneTuneNine$Mind", "keepMends", "(I)V"⟩, 3), (⟨"OneTuneNine$Mind", "firstSingle", "()I"⟩, 3), (⟨"OneTuneNine$Mind", "canMend", "(II)Z"⟩, 3)]
theorem lw_r1 : ∀ q ∈ lw_privs_1, lw_okq q := List.forall_mem_cons.mpr ⟨lw_p0, List.forall_mem_cons.mpr ⟨lw_p1, List.forall_mem_cons.mpr ⟨lw_p2, List.forall_mem_cons.mpr ⟨lw_p3, List.forall_mem_cons.mpr ⟨lw_p4, List.forall_mem_cons.mpr ⟨lw_p5, List.forall_mem_cons.mpr ⟨lw_p6, List.forall_mem_cons.mpr ⟨lw_p7, List.forall_mem_cons.mpr ⟨lw_p8, List.forall_mem_cons.mpr ⟨lw_p9, List.forall_mem_cons.mpr ⟨lw_p10, List.forall_mem_cons.mpr ⟨lw_p11, List.forall_mem_cons.mpr ⟨lw_p12, List.forall_mem_cons.mpr ⟨lw_p13, List.forall_mem_cons.mpr ⟨lw_p14, List.forall_mem_cons.mpr ⟨lw_p15, fun _ h => absurd h List.not_mem_nil⟩⟩⟩⟩⟩⟩⟩⟩⟩⟩⟩⟩⟩⟩⟩⟩
theorem lw_p16 : lw_okq (⟨"OneTuneNine$Mind", "mendingPitch", "(I)I"⟩, 3) := ⟨⟨by decide +kernel, by decide +kernel⟩, List.mem_of_getElem? (i := 103) (by decide +kernel), List.mem_of_getElem? (i := 667) (by decide +kernel), List.mem_of_getElem? (i := 668) (by decide +kernel)⟩
theorem lw_p17 : lw_okq (⟨"OneTuneNine$Mind", "hasPair", "()Z"⟩, 3) := ⟨⟨by decide +kernel, by decide +kernel⟩, List.mem_of_getElem? (i := 103) (by decide +kernel), List.mem_of_getElem? (i := 672) (by decide +kernel), List.mem_of_getElem? (i := 673) (by decide +kernel)⟩
theorem lw_p18 : lw_okq (⟨"OneTuneNine$Walks", "chainsOf", "(II)J"⟩, 2) := ⟨⟨by decide +kernel, by decide +kernel⟩, List.mem_of_getElem? (i := 138) (by decide +kernel), List.mem_of_getElem? (i := 716) (by decide +kernel), List.mem_of_getElem? (i := 717) (by decide +kernel)⟩
theorem lw_p19 : lw_okq (⟨"OneTuneNine$Walks", "lengthen", "(I)V"⟩, 2) := ⟨⟨by decide +kernel, by decide +kernel⟩, List.mem_of_getElem? (i := 138) (by decide +kernel), List.mem_of_getElem? (i := 720) (by decide +kernel), List.mem_of_getElem? (i := 721) (by decide +kernel)⟩
theorem lw_p20 : lw_okq (⟨"OneTuneNine$Canon", "isUnison", "()Z"⟩, 9) := ⟨⟨by decide +kernel, by decide +kernel⟩, List.mem_of_getElem? (i := 24) (by decide +kernel), List.mem_of_getElem? (i := 750) (by decide +kernel), List.mem_of_getElem? (i := 751) (by decide +kernel)⟩
theorem lw_p21 : lw_okq (⟨"OneTuneNineModel", "no", "(I)I"⟩, 17) := ⟨⟨by decide +kernel, by decide +kernel⟩, List.mem_of_getElem? (i := 798) (by decide +kernel), List.mem_of_getElem? (i := 868) (by decide +kernel), List.mem_of_getElem? (i := 869) (by decide +kernel)⟩
theorem lw_p22 : lw_okq (⟨"OneTuneNineModel", "read", "()I"⟩, 17) := ⟨⟨by decide +kernel, by decide +kernel⟩, List.mem_of_getElem? (i := 798) (by decide +kernel), List.mem_of_getElem? (i := 880) (by decide +kernel), List.mem_of_getElem? (i := 881) (by decide +kernel)⟩
theorem lw_p23 : lw_okq (⟨"OneTuneNineModel", "statement", "()V"⟩, 17) := ⟨⟨by decide +kernel, by decide +kernel⟩, List.mem_of_getElem? (i := 798) (by decide +kernel), List.mem_of_getElem? (i := 884) (by decide +kernel), List.mem_of_getElem? (i := 885) (by decide +kernel)⟩
theorem lw_p24 : lw_okq (⟨"OneTuneNineModel", "oneOf", "([C)I"⟩, 17) := ⟨⟨by decide +kernel, by decide +kernel⟩, List.mem_of_getElem? (i := 798) (by decide +kernel), List.mem_of_getElem? (i := 888) (by decide +kernel), List.mem_of_getElem? (i := 889) (by decide +kernel)⟩
theorem lw_p25 : lw_okq (⟨"OneTuneNineModel", "figures", "(I)I"⟩, 17) := ⟨⟨by decide +kernel, by decide +kernel⟩, List.mem_of_getElem? (i := 798) (by decide +kernel), List.mem_of_getElem? (i := 892) (by decide +kernel), List.mem_of_getElem? (i := 893) (by decide +kernel)⟩
theorem lw_p26 : lw_okq (⟨"OneTuneNineModel", "expect", "(C)V"⟩, 17) := ⟨⟨by decide +kernel, by decide +kernel⟩, List.mem_of_getElem? (i := 798) (by decide +kernel), List.mem_of_getElem? (i := 896) (by decide +kernel), List.mem_of_getElem? (i := 897) (by decide +kernel)⟩
theorem lw_p27 : lw_okq (⟨"OneTuneNineModel", "isAsItMustBe", "(II)Z"⟩, 17) := ⟨⟨by decide +kernel, by decide +kernel⟩, List.mem_of_getElem? (i := 798) (by decide +kernel), List.mem_of_getElem? (i := 900) (by decide +kernel), List.mem_of_getElem? (i := 901) (by decide +kernel)⟩
theorem lw_p28 : lw_okq (⟨"OneTuneNineModel", "come", "()V"⟩, 17) := ⟨⟨by decide +kernel, by decide +kernel⟩, List.mem_of_getElem? (i := 798) (by decide +kernel), List.mem_of_getElem? (i := 904) (by decide +kernel), List.mem_of_getElem? (i := 905) (by decide +kernel)⟩
theorem lw_p29 : lw_okq (⟨"OneTuneNineModel", "isNoNote", "(I)Z"⟩, 17) := ⟨⟨by decide +kernel, by decide +kernel⟩, List.mem_of_getElem? (i := 798) (by decide +kernel), List.mem_of_getElem? (i := 912) (by decide +kernel), List.mem_of_getElem? (i := 913) (by decide +kernel)⟩
theorem lw_p30 : lw_okq (⟨"OneTuneNineModel", "firstBeat", "(I)I"⟩, 17) := ⟨⟨by decide +kernel, by decide +kernel⟩, List.mem_of_getElem? (i := 798) (by decide +kernel), List.mem_of_getElem? (i := 916) (by decide +kernel), List.mem_of_getElem? (i := 917) (by decide +kernel)⟩
theorem lw_p31 : lw_okq (⟨"OneTuneNineModel", "isNoVoice", "(I)Z"⟩, 17) := ⟨⟨by decide +kernel, by decide +kernel⟩, List.mem_of_getElem? (i := 798) (by decide +kernel), List.mem_of_getElem? (i := 924) (by decide +kernel), List.mem_of_getElem? (i := 925) (by decide +kernel)⟩
def lw_privs_2 : List (MethodName × Nat) := [(⟨"OneTuneNine$Mind", "mendingPitch", "(I)I"⟩, 3), (⟨"OneTuneNine$Mind", "hasPair", "()Z"⟩, 3), (⟨"OneTuneNine$Walks", "chainsOf", "(II)J"⟩, 2), (⟨"OneTuneNine$Walks", "lengthen", "(I)V"⟩, 2), (⟨"OneTuneNine$Canon", "isUnison", "()Z"⟩, 9), (⟨"OneTuneNineModel", "no", "(I)I"⟩, 17), (⟨"OneTuneNineModel", "read", "()I"⟩, 17), (⟨"OneTuneNineModel", "statement", "()V"⟩, 17), (⟨"OneTuneNineModel", "oneOf", "([C)I"⟩, 17), (⟨"OneTuneNineModel", "figures", "(I)I"⟩, 17), (⟨"OneTuneNineModel", "expect", "(C)V"⟩, 17), (⟨"OneTuneNineModel", "isAsItMustBe", "(II)Z"⟩, 17), (⟨"OneTuneNineModel", "come", "()V"⟩, 17), (⟨"OneTuneNineModel", "isNoNote", "(I)Z"⟩, 17), (⟨"OneTuneNineModel", "firstBeat", "(I)I"⟩, 17), (⟨"OneTuneNineModel", "isNoVoice", "(I)Z"⟩, 17)]
theorem lw_r2 : ∀ q ∈ lw_privs_2, lw_okq q := List.forall_mem_cons.mpr ⟨lw_p16, List.forall_mem_cons.mpr ⟨lw_p17, List.forall_mem_cons.mpr ⟨lw_p18, List.forall_mem_cons.mpr ⟨lw_p19, List.forall_mem_cons.mpr ⟨lw_p20, List.forall_mem_cons.mpr ⟨lw_p21, List.forall_mem_cons.mpr ⟨lw_p22, List.forall_mem_cons.mpr ⟨lw_p23, List.forall_mem_cons.mpr ⟨lw_p24, List.forall_mem_cons.mpr ⟨lw_p25, List.forall_mem_cons.mpr ⟨lw_p26, List.forall_mem_cons.mpr ⟨lw_p27, List.forall_mem_cons.mpr ⟨lw_p28, List.forall_mem_cons.mpr ⟨lw_p29, List.forall_mem_cons.mpr ⟨lw_p30, List.forall_mem_cons.mpr ⟨lw_p31, fun _ h => absurd h List.not_mem_nil⟩⟩⟩⟩⟩⟩⟩⟩⟩⟩⟩⟩⟩⟩⟩⟩
theorem lw_p32 : lw_okq (⟨"OneTuneNineModel", "roundOf", "(I)I"⟩, 17) := ⟨⟨by decide +kernel, by decide +kernel⟩, List.mem_of_getElem? (i := 798) (by decide +kernel), List.mem_of_getElem? (i := 928) (by decide +kernel), List.mem_of_getElem? (i := 929) (by decide +kernel)⟩
theorem lw_p33 : lw_okq (⟨"OneTuneNineModel", "beats", "()I"⟩, 17) := ⟨⟨by decide +kernel, by decide +kernel⟩, List.mem_of_getElem? (i := 798) (by decide +kernel), List.mem_of_getElem? (i := 932) (by decide +kernel), List.mem_of_getElem? (i := 933) (by decide +kernel)⟩
theorem lw_p34 : lw_okq (⟨"OneTuneNineModel", "endOf", "(I)I"⟩, 17) := ⟨⟨by decide +kernel, by decide +kernel⟩, List.mem_of_getElem? (i := 798) (by decide +kernel), List.mem_of_getElem? (i := 936) (by decide +kernel), List.mem_of_getElem? (i := 937) (by decide +kernel)⟩
theorem lw_p35 : lw_okq (⟨"OneTuneNineModel", "become", "(IIII)I"⟩, 17) := ⟨⟨by decide +kernel, by decide +kernel⟩, List.mem_of_getElem? (i := 798) (by decide +kernel), List.mem_of_getElem? (i := 944) (by decide +kernel), List.mem_of_getElem? (i := 945) (by decide +kernel)⟩
theorem lw_p36 : lw_okq (⟨"OneTuneNineModel", "soundAt", "(II)I"⟩, 17) := ⟨⟨by decide +kernel, by decide +kernel⟩, List.mem_of_getElem? (i := 798) (by decide +kernel), List.mem_of_getElem? (i := 972) (by decide +kernel), List.mem_of_getElem? (i := 973) (by decide +kernel)⟩
theorem lw_p37 : lw_okq (⟨"OneTuneNineModel", "soundOf", "(IIII)I"⟩, 17) := ⟨⟨by decide +kernel, by decide +kernel⟩, List.mem_of_getElem? (i := 798) (by decide +kernel), List.mem_of_getElem? (i := 976) (by decide +kernel), List.mem_of_getElem? (i := 977) (by decide +kernel)⟩
theorem lw_p38 : lw_okq (⟨"OneTuneNineModel", "said", "(II)I"⟩, 17) := ⟨⟨by decide +kernel, by decide +kernel⟩, List.mem_of_getElem? (i := 798) (by decide +kernel), List.mem_of_getElem? (i := 980) (by decide +kernel), List.mem_of_getElem? (i := 981) (by decide +kernel)⟩
theorem lw_p39 : lw_okq (⟨"OneTuneNineModel", "plain", "(I)I"⟩, 17) := ⟨⟨by decide +kernel, by decide +kernel⟩, List.mem_of_getElem? (i := 798) (by decide +kernel), List.mem_of_getElem? (i := 984) (by decide +kernel), List.mem_of_getElem? (i := 985) (by decide +kernel)⟩
theorem lw_p40 : lw_okq (⟨"OneTuneNineModel", "illAt", "(II)I"⟩, 17) := ⟨⟨by decide +kernel, by decide +kernel⟩, List.mem_of_getElem? (i := 798) (by decide +kernel), List.mem_of_getElem? (i := 992) (by decide +kernel), List.mem_of_getElem? (i := 993) (by decide +kernel)⟩
theorem lw_p41 : lw_okq (⟨"OneTuneNineModel", "agree", "(II)Z"⟩, 17) := ⟨⟨by decide +kernel, by decide +kernel⟩, List.mem_of_getElem? (i := 798) (by decide +kernel), List.mem_of_getElem? (i := 996) (by decide +kernel), List.mem_of_getElem? (i := 997) (by decide +kernel)⟩
theorem lw_p42 : lw_okq (⟨"OneTuneNineModel", "end", "()I"⟩, 17) := ⟨⟨by decide +kernel, by decide +kernel⟩, List.mem_of_getElem? (i := 798) (by decide +kernel), List.mem_of_getElem? (i := 1005) (by decide +kernel), List.mem_of_getElem? (i := 1006) (by decide +kernel)⟩
theorem lw_p43 : lw_okq (⟨"OneTuneNineModel", "illAll", "(I)I"⟩, 17) := ⟨⟨by decide +kernel, by decide +kernel⟩, List.mem_of_getElem? (i := 798) (by decide +kernel), List.mem_of_getElem? (i := 1014) (by decide +kernel), List.mem_of_getElem? (i := 1015) (by decide +kernel)⟩
theorem lw_p44 : lw_okq (⟨"OneTuneNineModel", "fitsAll", "(III)Z"⟩, 17) := ⟨⟨by decide +kernel, by decide +kernel⟩, List.mem_of_getElem? (i := 798) (by decide +kernel), List.mem_of_getElem? (i := 1022) (by decide +kernel), List.mem_of_getElem? (i := 1023) (by decide +kernel)⟩
theorem lw_p45 : lw_okq (⟨"OneTuneNineModel", "isWell", "()Z"⟩, 17) := ⟨⟨by decide +kernel, by decide +kernel⟩, List.mem_of_getElem? (i := 798) (by decide +kernel), List.mem_of_getElem? (i := 1030) (by decide +kernel), List.mem_of_getElem? (i := 1031) (by decide +kernel)⟩
theorem lw_p46 : lw_okq (⟨"OneTuneNineModel", "oneChange", "()I"⟩, 17) := ⟨⟨by decide +kernel, by decide +kernel⟩, List.mem_of_getElem? (i := 798) (by decide +kernel), List.mem_of_getElem? (i := 1042) (by decide +kernel), List.mem_of_getElem? (i := 1043) (by decide +kernel)⟩
theorem lw_p47 : lw_okq (⟨"OneTuneNineModel", "isTwoChanges", "()Z"⟩, 17) := ⟨⟨by decide +kernel, by decide +kernel⟩, List.mem_of_getElem? (i := 798) (by decide +kernel), List.mem_of_getElem? (i := 1046) (by decide +kernel), List.mem_of_getElem? (i := 1047) (by decide +kernel)⟩
def lw_privs_3 : List (MethodName × Nat) := [(⟨"OneTuneNineModel", "roundOf", "(I)I"⟩, 17), (⟨"OneTuneNineModel", "beats", "()I"⟩, 17), (⟨"OneTuneNineModel", "endOf", "(I)I"⟩, 17), (⟨"OneTuneNineModel", "become", "(IIII)I"⟩, 17), (⟨"OneTuneNineModel", "soundAt", "(II)I"⟩, 17), (⟨"OneTuneNineModel", "soundOf", "(IIII)I"⟩, 17), (⟨"OneTuneNineModel", "said", "(II)I"⟩, 17), (⟨"OneTuneNineModel", "plain", "(I)I"⟩, 17), (⟨"OneTuneNineModel", "illAt", "(II)I"⟩, 17), (⟨"OneTuneNineModel", "agree", "(II)Z"⟩, 17), (⟨"OneTuneNineModel", "end", "()I"⟩, 17), (⟨"OneTuneNineModel", "illAll", "(I)I"⟩, 17), (⟨"OneTuneNineModel", "fitsAll", "(III)Z"⟩, 17), (⟨"OneTuneNineModel", "isWell", "()Z"⟩, 17), (⟨"OneTuneNineModel", "oneChange", "()I"⟩, 17), (⟨"OneTuneNineModel", "isTwoChanges", "()Z"⟩, 17)]
theorem lw_r3 : ∀ q ∈ lw_privs_3, lw_okq q := List.forall_mem_cons.mpr ⟨lw_p32, List.forall_mem_cons.mpr ⟨lw_p33, List.forall_mem_cons.mpr ⟨lw_p34, List.forall_mem_cons.mpr ⟨lw_p35, List.forall_mem_cons.mpr ⟨lw_p36, List.forall_mem_cons.mpr ⟨lw_p37, List.forall_mem_cons.mpr ⟨lw_p38, List.forall_mem_cons.mpr ⟨lw_p39, List.forall_mem_cons.mpr ⟨lw_p40, List.forall_mem_cons.mpr ⟨lw_p41, List.forall_mem_cons.mpr ⟨lw_p42, List.forall_mem_cons.mpr ⟨lw_p43, List.forall_mem_cons.mpr ⟨lw_p44, List.forall_mem_cons.mpr ⟨lw_p45, List.forall_mem_cons.mpr ⟨lw_p46, List.forall_mem_cons.mpr ⟨lw_p47, fun _ h => absurd h List.not_mem_nil⟩⟩⟩⟩⟩⟩⟩⟩⟩⟩⟩⟩⟩⟩⟩⟩
theorem lw_p48 : lw_okq (⟨"OneTuneNineModel", "chains", "(I)J"⟩, 17) := ⟨⟨by decide +kernel, by decide +kernel⟩, List.mem_of_getElem? (i := 798) (by decide +kernel), List.mem_of_getElem? (i := 1064) (by decide +kernel), List.mem_of_getElem? (i := 1065) (by decide +kernel)⟩
theorem lw_p49 : lw_okq (⟨"OneTuneNineModel", "unlike", "(III)I"⟩, 17) := ⟨⟨by decide +kernel, by decide +kernel⟩, List.mem_of_getElem? (i := 798) (by decide +kernel), List.mem_of_getElem? (i := 1088) (by decide +kernel), List.mem_of_getElem? (i := 1089) (by decide +kernel)⟩
def lw_privs_4 : List (MethodName × Nat) := [(⟨"OneTuneNineModel", "chains", "(I)J"⟩, 17), (⟨"OneTuneNineModel", "unlike", "(III)I"⟩, 17)]
theorem lw_r4 : ∀ q ∈ lw_privs_4, lw_okq q := List.forall_mem_cons.mpr ⟨lw_p48, List.forall_mem_cons.mpr ⟨lw_p49, fun _ h => absurd h List.not_mem_nil⟩⟩
def lw_privs : List (MethodName × Nat) := lw_privs_1 ++ (lw_privs_2 ++ (lw_privs_3 ++ (lw_privs_4)))
def lw_tbl : List Cond := k2_sels lw_privs ++ tables_1
theorem lw_privs_ok : ∀ q ∈ lw_privs, lw_okq q := by
  show ∀ q ∈ lw_privs_1 ++ (lw_privs_2 ++ (lw_privs_3 ++ (lw_privs_4))), lw_okq q
  exact List.forall_mem_append.mpr ⟨lw_r1, List.forall_mem_append.mpr ⟨lw_r2, List.forall_mem_append.mpr ⟨lw_r3, lw_r4⟩⟩⟩
end
section
/-! abstract values, cells, heaps: numbers are mathematical integers, references are places of the law's own heap -/
abbrev AV : Type := Int ⊕ (Int ⊕ Option Nat)
abbrev aI (n : Int) : AV := Sum.inl n
abbrev aJ (n : Int) : AV := Sum.inr (Sum.inl n)
abbrev aR (a : Nat) : AV := Sum.inr (Sum.inr (some a))
abbrev aN : AV := Sum.inr (Sum.inr none)
abbrev AC : Type := (Nat × List AV) ⊕ (Nat × List Int)
abbrev aO (k : Nat) (fs : List AV) : AC := Sum.inl (k, fs)
abbrev aA (t : Nat) (xs : List Int) : AC := Sum.inr (t, xs)
abbrev AH : Type := Nat × (Nat → Option AC)
abbrev Gx : Type := Nat × Heap × va_G × (Nat → ClassId) × (Nat → Nat) × Nat × (Nat → Int32)
def gz (G : Gx) : Nat := G.1
def gH (G : Gx) : Heap := G.2.1
def gD (G : Gx) : va_G := G.2.2.1
def gA (G : Gx) : Nat → ClassId := G.2.2.2.1
def gS (G : Gx) : Nat → Nat := G.2.2.2.2.1
def gL (G : Gx) : Nat := G.2.2.2.2.2.1
def gX (G : Gx) : Nat → Int32 := G.2.2.2.2.2.2
/-- the address of a place: below 100 what stood before the law began, from 100 on the law's own cells in their order -/
def Ad (G : Gx) (a : Nat) : Nat := if a < 100 then gS G a else gz G + (a - 100)
theorem Ad_own {G : Gx} {a : Nat} (h : 100 ≤ a) : Ad G a = gz G + (a - 100) := by unfold Ad; rw [if_neg (by omega)]
def cv (G : Gx) : AV → Value
  | .inl n => .int (Int32.ofInt n)
  | .inr (.inl n) => .long (Int64.ofInt n)
  | .inr (.inr none) => .null
  | .inr (.inr (some a)) => .ref (Ad G a)
def cS (G : Gx) : List AV → List Value
  | [] => []
  | v :: t => cv G v :: cS G t
theorem cS_len (G : Gx) : ∀ l : List AV, (cS G l).length = l.length
  | [] => rfl
  | _ :: t => congrArg (· + 1) (cS_len G t)
theorem cS_get (G : Gx) : ∀ (l : List AV) (j : Nat), (cS G l)[j]? = (l[j]?).map (cv G)
  | [], j => by simp [cS]
  | v :: t, 0 => by simp [cS]
  | v :: t, j + 1 => by simp [cS, cS_get G t j]
theorem cS_set (G : Gx) : ∀ (l : List AV) (j : Nat) (v : AV), cS G (l.set j v) = (cS G l).set j (cv G v)
  | [], _, _ => rfl
  | _ :: _, 0, _ => rfl
  | a :: t, j + 1, v => by show cv G a :: cS G (t.set j v) = cv G a :: (cS G t).set j (cv G v); rw [cS_set G t j v]
theorem cS_app (G : Gx) : ∀ (l r : List AV), cS G (l ++ r) = cS G l ++ cS G r
  | [], _ => rfl
  | a :: t, r => by show cv G a :: cS G (t ++ r) = cv G a :: (cS G t ++ cS G r); rw [cS_app G t r]
theorem cS_rev (G : Gx) : ∀ (l : List AV), cS G l.reverse = (cS G l).reverse
  | [] => rfl
  | a :: t => by rw [List.reverse_cons, cS_app, cS_rev G t]; show _ = (cv G a :: cS G t).reverse; rw [List.reverse_cons]; rfl
theorem cS_map (G : Gx) : ∀ (l : List AV), cS G l = l.map (cv G)
  | [] => rfl
  | a :: t => by show cv G a :: cS G t = cv G a :: t.map (cv G); rw [cS_map G t]
/-- the room of a value on the stack -/
def cat1 : AV → Nat
  | .inr (.inl _) => 2
  | _ => 1
theorem cat_cv (G : Gx) : ∀ v : AV, (cv G v).category = cat1 v
  | .inl _ => rfl
  | .inr (.inl _) => rfl
  | .inr (.inr none) => rfl
  | .inr (.inr (some _)) => rfl
def catS : List AV → Nat
  | [] => 0
  | v :: t => cat1 v + catS t
theorem catS_cS (G : Gx) : ∀ l : List AV, ((cS G l).map fun v => v.category).sum = catS l
  | [] => rfl
  | v :: t => by show ((cv G v).category :: (cS G t).map fun v => v.category).sum = _; rw [List.sum_cons, cat_cv, catS_cS G t]; rfl
/-! numbers -/
def InR (n : Int) : Prop := -2147483648 ≤ n ∧ n ≤ 2147483647
theorem oi_toInt {n : Int} (h : InR n) : (Int32.ofInt n).toInt = n := Int32.toInt_ofInt_of_le (by have := h.1; omega) (by have := h.2; omega)
theorem oi_eq {x y : Int} (hx : InR x) (hy : InR y) : Int32.ofInt x = Int32.ofInt y ↔ x = y := by
  constructor
  · intro h
    have := congrArg Int32.toInt h
    rwa [oi_toInt hx, oi_toInt hy] at this
  · rintro rfl; rfl
theorem oi_lt {x y : Int} (hx : InR x) (hy : InR y) : Int32.ofInt x < Int32.ofInt y ↔ x < y := by rw [Int32.lt_iff_toInt_lt, oi_toInt hx, oi_toInt hy]
theorem oi_le {x y : Int} (hx : InR x) (hy : InR y) : Int32.ofInt x ≤ Int32.ofInt y ↔ x ≤ y := by rw [Int32.le_iff_toInt_le, oi_toInt hx, oi_toInt hy]
theorem oi_0 : Int32.ofInt 0 = 0 := rfl
theorem InR0 : InR 0 := ⟨by decide, by decide⟩
theorem oi_nat {n : Int} (h0 : 0 ≤ n) (h : n ≤ 2147483647) : (Int32.ofInt n).toNatClampNeg = n.toNat := by
  rw [Int32.toNatClampNeg_ofInt_of_le (by omega) (by omega)]
theorem oi_self (x : Int32) : Int32.ofInt x.toInt = x := Int32.ofInt_toInt x
theorem InR_toInt (x : Int32) : InR x.toInt := ⟨by have := x.le_toInt; omega, by have := x.toInt_lt; omega⟩
theorem oi_div {x y : Int} (hx : InR x) (hy0 : 0 < y) (hy : y ≤ 2147483647) : Int32.ofInt x / Int32.ofInt y = Int32.ofInt (x.tdiv y) := by
  have h2 : -2147483648 ≤ x.tdiv y ∧ x.tdiv y ≤ 2147483647 := by
    have h1 := hx.1
    have h2 := hx.2
    rcases Int.le_total 0 x with h | h
    · have e1 := Int.tdiv_nonneg h (Int.le_of_lt hy0)
      have e2 : x.tdiv y ≤ x := by rw [Int.tdiv_eq_ediv_of_nonneg h]; exact Int.ediv_le_self y h
      omega
    · have e := Int.neg_tdiv (-x) y
      rw [Int.neg_neg] at e
      have e1 := Int.tdiv_nonneg (show 0 ≤ -x by omega) (Int.le_of_lt hy0)
      have e2 : (-x).tdiv y ≤ -x := by rw [Int.tdiv_eq_ediv_of_nonneg (by omega)]; exact Int.ediv_le_self y (by omega)
      omega
  apply Int32.toInt_inj.mp
  rw [Int32.toInt_div, oi_toInt hx, oi_toInt (show InR y from ⟨by omega, hy⟩), oi_toInt h2]
  rw [Int.bmod_eq_of_le (by omega) (by omega)]
theorem oi_rem {x y : Int} (hx : InR x) (hy0 : 0 < y) (hy : y ≤ 2147483647) : Int32.ofInt x - Int32.ofInt x / Int32.ofInt y * Int32.ofInt y = Int32.ofInt (x.tmod y) := by
  rw [oi_div hx hy0 hy, ← Int32.ofInt_mul, ← Int32.ofInt_sub]
  congr 1
  have := Int.mul_tdiv_add_tmod x y
  have e : x.tdiv y * y = y * x.tdiv y := Int.mul_comm _ _
  omega
end
section
/-! names of classes, their fields in the order of the slots; words; methods; links (written by wip/whole/tools/gen_names.py) -/
def R_Canon : String := "OneTuneNine$Canon"
def T_Canon : u_T := fun k => match k with
  | 0 => ("OneTuneNine$Canon", "tune", "LOneTuneNine$Tune;", true)
  | 1 => ("OneTuneNine$Canon", "kinds", "LOneTuneNine$Row;", true)
  | 2 => ("OneTuneNine$Canon", "starts", "LOneTuneNine$Row;", true)
  | 3 => ("OneTuneNine$Canon", "highs", "LOneTuneNine$Row;", true)
  | 4 => ("OneTuneNine$Canon", "singers", "LOneTuneNine$Row;", true)
  | 5 => ("OneTuneNine$Canon", "sounds", "LOneTuneNine$Row;", true)
  | 6 => ("OneTuneNine$Canon", "rounds", "I", false)
  | 7 => ("OneTuneNine$Canon", "step", "I", false)
  | _ => ("OneTuneNine$Canon", "law", "I", false)
def ty_Canon : Nat → FieldType := fun k => match k with
  | 0 => (.object "OneTuneNine$Tune")
  | 1 => (.object "OneTuneNine$Row")
  | 2 => (.object "OneTuneNine$Row")
  | 3 => (.object "OneTuneNine$Row")
  | 4 => (.object "OneTuneNine$Row")
  | 5 => (.object "OneTuneNine$Row")
  | 6 => .int
  | 7 => .int
  | _ => .int
def R_Meetings : String := "OneTuneNine$Meetings"
def T_Meetings : u_T := fun k => match k with
  | 0 => ("OneTuneNine$Meetings", "ways", "LOneTuneNine$Row;", true)
  | _ => ("OneTuneNine$Meetings", "times", "LOneTuneNine$Row;", true)
def ty_Meetings : Nat → FieldType := fun k => match k with
  | 0 => (.object "OneTuneNine$Row")
  | _ => (.object "OneTuneNine$Row")
def R_Mind : String := "OneTuneNine$Mind"
def T_Mind : u_T := fun k => match k with
  | 0 => ("OneTuneNine$Mind", "trial", "LOneTuneNine$Canon;", true)
  | 1 => ("OneTuneNine$Mind", "meetings", "LOneTuneNine$Meetings;", true)
  | _ => ("OneTuneNine$Mind", "mends", "LOneTuneNine$Row;", true)
def ty_Mind : Nat → FieldType := fun k => match k with
  | 0 => (.object "OneTuneNine$Canon")
  | 1 => (.object "OneTuneNine$Meetings")
  | _ => (.object "OneTuneNine$Row")
def R_Row : String := "OneTuneNine$Row"
def T_Row : u_T := fun k => match k with
  | 0 => ("OneTuneNine$Row", "cells", "[I", true)
  | _ => ("OneTuneNine$Row", "used", "I", false)
def ty_Row : Nat → FieldType := fun k => match k with
  | 0 => (.array .int)
  | _ => .int
def R_Text : String := "OneTuneNine$Text"
def T_Text : u_T := fun k => match k with
  | _ => ("OneTuneNine$Text", "letters", "LOneTuneNine$Row;", true)
def ty_Text : Nat → FieldType := fun k => match k with
  | _ => (.object "OneTuneNine$Row")
def R_Tune : String := "OneTuneNine$Tune"
def T_Tune : u_T := fun k => match k with
  | 0 => ("OneTuneNine$Tune", "pitches", "LOneTuneNine$Row;", true)
  | 1 => ("OneTuneNine$Tune", "lengths", "LOneTuneNine$Row;", true)
  | 2 => ("OneTuneNine$Tune", "noteOfBeat", "LOneTuneNine$Row;", true)
  | _ => ("OneTuneNine$Tune", "beats", "I", false)
def ty_Tune : Nat → FieldType := fun k => match k with
  | 0 => (.object "OneTuneNine$Row")
  | 1 => (.object "OneTuneNine$Row")
  | 2 => (.object "OneTuneNine$Row")
  | _ => .int
def R_Walks : String := "OneTuneNine$Walks"
def T_Walks : u_T := fun k => match k with
  | 0 => ("OneTuneNine$Walks", "ending", "[J", true)
  | _ => ("OneTuneNine$Walks", "longer", "[J", true)
def ty_Walks : Nat → FieldType := fun k => match k with
  | 0 => (.array .long)
  | _ => (.array .long)
def R_Main : String := "OneTuneNine"
def T_Main : u_T := fun k => match k with
  | 0 => ("OneTuneNine", "told", "LOneTuneNine$Canon;", true)
  | 1 => ("OneTuneNine", "kept", "LOneTuneNine$Canon;", true)
  | 2 => ("OneTuneNine", "isKept", "Z", false)
  | 3 => ("OneTuneNine", "mind", "LOneTuneNine$Mind;", true)
  | 4 => ("OneTuneNine", "walks", "LOneTuneNine$Walks;", true)
  | 5 => ("OneTuneNine", "text", "LOneTuneNine$Text;", true)
  | 6 => ("OneTuneNine", "heard", "LOneTuneNine$Row;", true)
  | _ => ("OneTuneNine", "refusals", "LOneTuneNine$Row;", true)
def ty_Main : Nat → FieldType := fun k => match k with
  | 0 => (.object "OneTuneNine$Canon")
  | 1 => (.object "OneTuneNine$Canon")
  | 2 => .boolean
  | 3 => (.object "OneTuneNine$Mind")
  | 4 => (.object "OneTuneNine$Walks")
  | 5 => (.object "OneTuneNine$Text")
  | 6 => (.object "OneTuneNine$Row")
  | _ => (.object "OneTuneNine$Row")
def R_Model : String := "OneTuneNineModel"
def T_Model : u_T := fun k => match k with
  | 0 => ("OneTuneNineModel", "refused", "[I", true)
  | 1 => ("OneTuneNineModel", "now", "[I", true)
  | 2 => ("OneTuneNineModel", "then", "[I", true)
  | 3 => ("OneTuneNineModel", "before", "[I", true)
  | 4 => ("OneTuneNineModel", "kept", "Z", false)
  | 5 => ("OneTuneNineModel", "tape", "[I", true)
  | 6 => ("OneTuneNineModel", "taped", "I", false)
  | 7 => ("OneTuneNineModel", "at", "I", false)
  | 8 => ("OneTuneNineModel", "well", "Z", false)
  | 9 => ("OneTuneNineModel", "begins", "[C", true)
  | 10 => ("OneTuneNineModel", "kinds", "[C", true)
  | 11 => ("OneTuneNineModel", "sort", "I", false)
  | 12 => ("OneTuneNineModel", "field", "[I", true)
  | 13 => ("OneTuneNineModel", "sounds", "[I", true)
  | 14 => ("OneTuneNineModel", "firstPair", "I", false)
  | 15 => ("OneTuneNineModel", "row", "[I", true)
  | _ => ("OneTuneNineModel", "rows", "I", false)
def ty_Model : Nat → FieldType := fun k => match k with
  | 0 => (.array .int)
  | 1 => (.array .int)
  | 2 => (.array .int)
  | 3 => (.array .int)
  | 4 => .boolean
  | 5 => (.array .int)
  | 6 => .int
  | 7 => .int
  | 8 => .boolean
  | 9 => (.array .char)
  | 10 => (.array .char)
  | 11 => .int
  | 12 => (.array .int)
  | 13 => (.array .int)
  | 14 => .int
  | 15 => (.array .int)
  | _ => .int
abbrev cl : List vw_C := [(R_Canon, T_Canon, 9), (R_Meetings, T_Meetings, 2), (R_Mind, T_Mind, 3), (R_Row, T_Row, 2), (R_Text, T_Text, 1), (R_Tune, T_Tune, 4), (R_Walks, T_Walks, 2), (R_Main, T_Main, 8), (R_Model, T_Model, 17)]
def tyA (k j : Nat) : FieldType := match k with
  | 0 => ty_Canon j
  | 1 => ty_Meetings j
  | 2 => ty_Mind j
  | 3 => ty_Row j
  | 4 => ty_Text j
  | 5 => ty_Tune j
  | 6 => ty_Walks j
  | 7 => ty_Main j
  | _ => ty_Model j
def wsAll : List Cond := lw_tbl.filter goodWord
def nestAll : List Cond := [(Jvm.Cond.methodLinkNest "OneTuneNine" (9 : Nat) ({ cls := "OneTuneNine$Canon", name := "<init>", desc := "()V" } : Jvm.MethodName) "OneTuneNine"), (Jvm.Cond.methodLinkNest "OneTuneNine$Canon" (11 : Nat) ({ cls := "OneTuneNine$Tune", name := "<init>", desc := "()V" } : Jvm.MethodName) "OneTuneNine"), (Jvm.Cond.fieldLinkNest "OneTuneNine$Meetings" (82 : Nat) "OneTuneNine$Tune" "pitches" "LOneTuneNine$Row;" "OneTuneNine"), (Jvm.Cond.fieldLinkNest "OneTuneNine$Canon" (87 : Nat) "OneTuneNine$Tune" "beats" "I" "OneTuneNine"), (Jvm.Cond.fieldLinkNest "OneTuneNine" (224 : Nat) "OneTuneNine$Tune" "beats" "I" "OneTuneNine"), (Jvm.Cond.fieldLinkNest "OneTuneNine" (91 : Nat) "OneTuneNine$Canon" "tune" "LOneTuneNine$Tune;" "OneTuneNine"), (Jvm.Cond.fieldLinkNest "OneTuneNine$Mind" (58 : Nat) "OneTuneNine$Canon" "tune" "LOneTuneNine$Tune;" "OneTuneNine"), (Jvm.Cond.fieldLinkNest "OneTuneNine$Meetings" (78 : Nat) "OneTuneNine$Canon" "tune" "LOneTuneNine$Tune;" "OneTuneNine"), (Jvm.Cond.fieldLinkNest "OneTuneNine" (135 : Nat) "OneTuneNine$Canon" "rounds" "I" "OneTuneNine"), (Jvm.Cond.fieldLinkNest "OneTuneNine" (139 : Nat) "OneTuneNine$Canon" "step" "I" "OneTuneNine"), (Jvm.Cond.fieldLinkNest "OneTuneNine$Meetings" (87 : Nat) "OneTuneNine$Canon" "law" "I" "OneTuneNine"), (Jvm.Cond.fieldLinkNest "OneTuneNine" (142 : Nat) "OneTuneNine$Canon" "law" "I" "OneTuneNine"), (Jvm.Cond.methodLinkNest "OneTuneNine" (25 : Nat) ({ cls := "OneTuneNine$Mind", name := "<init>", desc := "()V" } : Jvm.MethodName) "OneTuneNine"), (Jvm.Cond.methodLinkNest "OneTuneNine$Mind" (11 : Nat) ({ cls := "OneTuneNine$Canon", name := "<init>", desc := "()V" } : Jvm.MethodName) "OneTuneNine"), (Jvm.Cond.methodLinkNest "OneTuneNine$Mind" (20 : Nat) ({ cls := "OneTuneNine$Meetings", name := "<init>", desc := "()V" } : Jvm.MethodName) "OneTuneNine"), (Jvm.Cond.methodLinkNest "OneTuneNine" (32 : Nat) ({ cls := "OneTuneNine$Walks", name := "<init>", desc := "()V" } : Jvm.MethodName) "OneTuneNine"), (Jvm.Cond.methodLinkNest "OneTuneNine" (39 : Nat) ({ cls := "OneTuneNine$Text", name := "<init>", desc := "()V" } : Jvm.MethodName) "OneTuneNine"), (Jvm.Cond.methodLinkNest "OneTuneNine$Canon" (123 : Nat) ({ cls := "OneTuneNine", name := "soundsWell", desc := "(II)Z" } : Jvm.MethodName) "OneTuneNine"), (Jvm.Cond.methodLinkNest "OneTuneNine$Meetings" (91 : Nat) ({ cls := "OneTuneNine", name := "soundsWell", desc := "(II)Z" } : Jvm.MethodName) "OneTuneNine"), (Jvm.Cond.methodLinkNest "OneTuneNine$Walks" (26 : Nat) ({ cls := "OneTuneNine", name := "soundsWell", desc := "(II)Z" } : Jvm.MethodName) "OneTuneNine")]
theorem nest_tbl : ∀ w ∈ nestAll, w ∈ tables_1 := by decide +kernel
theorem nest_on : ∀ w ∈ nestAll, w.onTables = true := by decide +kernel
theorem wA {w : Cond} (i : Nat) (h : tables_1[i]? = some w) (g : goodWord w = true) : w ∈ wsAll := List.mem_filter.mpr ⟨List.mem_append_right _ (List.mem_of_getElem? h), g⟩
theorem wS {w : Cond} (i : Nat) (h : (k2_sels lw_privs)[i]? = some w) (g : goodWord w = true) : w ∈ wsAll := List.mem_filter.mpr ⟨List.mem_append_left _ (List.mem_of_getElem? h), g⟩
theorem in_Canon : ∀ w ∈ u_ws R_Canon T_Canon 9, w ∈ wsAll := by decide +kernel
theorem nm_Canon : ∀ a, a < 9 → ∀ b, b < 9 → a ≠ b → (T_Canon a).2.1 ≠ (T_Canon b).2.1 := by decide +kernel
theorem ty_Canon_ok : ∀ k, k < 9 → parseFieldDescriptor (T_Canon k).2.2.1 = some (ty_Canon k) := by decide +kernel
theorem in_Meetings : ∀ w ∈ u_ws R_Meetings T_Meetings 2, w ∈ wsAll := by decide +kernel
theorem nm_Meetings : ∀ a, a < 2 → ∀ b, b < 2 → a ≠ b → (T_Meetings a).2.1 ≠ (T_Meetings b).2.1 := by decide +kernel
theorem ty_Meetings_ok : ∀ k, k < 2 → parseFieldDescriptor (T_Meetings k).2.2.1 = some (ty_Meetings k) := by decide +kernel
theorem in_Mind : ∀ w ∈ u_ws R_Mind T_Mind 3, w ∈ wsAll := by decide +kernel
theorem nm_Mind : ∀ a, a < 3 → ∀ b, b < 3 → a ≠ b → (T_Mind a).2.1 ≠ (T_Mind b).2.1 := by decide +kernel
theorem ty_Mind_ok : ∀ k, k < 3 → parseFieldDescriptor (T_Mind k).2.2.1 = some (ty_Mind k) := by decide +kernel
theorem in_Row : ∀ w ∈ u_ws R_Row T_Row 2, w ∈ wsAll := by decide +kernel
theorem nm_Row : ∀ a, a < 2 → ∀ b, b < 2 → a ≠ b → (T_Row a).2.1 ≠ (T_Row b).2.1 := by decide +kernel
theorem ty_Row_ok : ∀ k, k < 2 → parseFieldDescriptor (T_Row k).2.2.1 = some (ty_Row k) := by decide +kernel
theorem in_Text : ∀ w ∈ u_ws R_Text T_Text 1, w ∈ wsAll := by decide +kernel
theorem nm_Text : ∀ a, a < 1 → ∀ b, b < 1 → a ≠ b → (T_Text a).2.1 ≠ (T_Text b).2.1 := by decide +kernel
theorem ty_Text_ok : ∀ k, k < 1 → parseFieldDescriptor (T_Text k).2.2.1 = some (ty_Text k) := by decide +kernel
theorem in_Tune : ∀ w ∈ u_ws R_Tune T_Tune 4, w ∈ wsAll := by decide +kernel
theorem nm_Tune : ∀ a, a < 4 → ∀ b, b < 4 → a ≠ b → (T_Tune a).2.1 ≠ (T_Tune b).2.1 := by decide +kernel
theorem ty_Tune_ok : ∀ k, k < 4 → parseFieldDescriptor (T_Tune k).2.2.1 = some (ty_Tune k) := by decide +kernel
theorem in_Walks : ∀ w ∈ u_ws R_Walks T_Walks 2, w ∈ wsAll := by decide +kernel
theorem nm_Walks : ∀ a, a < 2 → ∀ b, b < 2 → a ≠ b → (T_Walks a).2.1 ≠ (T_Walks b).2.1 := by decide +kernel
theorem ty_Walks_ok : ∀ k, k < 2 → parseFieldDescriptor (T_Walks k).2.2.1 = some (ty_Walks k) := by decide +kernel
theorem in_Main : ∀ w ∈ u_ws R_Main T_Main 8, w ∈ wsAll := by decide +kernel
theorem nm_Main : ∀ a, a < 8 → ∀ b, b < 8 → a ≠ b → (T_Main a).2.1 ≠ (T_Main b).2.1 := by decide +kernel
theorem ty_Main_ok : ∀ k, k < 8 → parseFieldDescriptor (T_Main k).2.2.1 = some (ty_Main k) := by decide +kernel
theorem in_Model : ∀ w ∈ u_ws R_Model T_Model 17, w ∈ wsAll := by decide +kernel
theorem nm_Model : ∀ a, a < 17 → ∀ b, b < 17 → a ≠ b → (T_Model a).2.1 ≠ (T_Model b).2.1 := by decide +kernel
theorem ty_Model_ok : ∀ k, k < 17 → parseFieldDescriptor (T_Model k).2.2.1 = some (ty_Model k) := by decide +kernel
abbrev Yx : Type := MethodName × ByteArray × Nat × Option FieldType
def MOK (Y : Yx) (n : Nat) : Prop := Cond.code Y.1 Y.2.1 Y.2.2.1 Y.2.2.2 ∈ wsAll ∧ Cond.initialized Y.1.cls ∈ wsAll ∧ (Y.1.cls ≠ "java/lang/invoke/MethodHandle" ∧ Y.1.cls ≠ "java/lang/invoke/VarHandle" ∧ (parseMethodDescriptor Y.1.desc).map (fun d => d.parameters.length) = some n) ∧ plainName Y.1.cls = true ∧ Y.2.2.1 ≤ 19
def MI (Y : Yx) : Prop := Cond.instanceMethod Y.1 ∈ wsAll
def MV (Y : Yx) : Prop := Cond.selects Y.1.cls Y.1 Y.1 ∈ wsAll
def MS (Y : Yx) : Prop := Cond.static Y.1 ∈ wsAll
def LK (own : String) (idx : Nat) (Y : Yx) : Prop := Cond.methodLink own idx Y.1 ∈ wsAll ∨ ∃ host, Cond.methodLinkNest own idx Y.1 host ∈ nestAll
def FL (own : String) (idx k j : Nat) : Prop := ∃ r : vw_C, cl[k]? = some r ∧ j < r.2.2 ∧ (r.2.1 j).1 = r.1 ∧ (Cond.fieldLink own idx r.1 (r.2.1 j).2.1 (r.2.1 j).2.2.1 ∈ wsAll ∨ ∃ host, Cond.fieldLinkNest own idx r.1 (r.2.1 j).2.1 (r.2.1 j).2.2.1 host ∈ nestAll)
def Y_Main_init : Yx := (⟨R_Main, "<init>", "()V"⟩, prog_1_method_1_code, 2, none)
theorem mo_Main_init : MOK Y_Main_init 0 := ⟨wA 19 (by decide +kernel) rfl, wA 1 (by decide +kernel) rfl, by decide +kernel, by decide +kernel, by decide⟩
theorem mi_Main_init : MI Y_Main_init := wA 18 (by decide +kernel) rfl
def Y_Canon_init : Yx := (⟨R_Canon, "<init>", "()V"⟩, prog_2_method_1_code, 1, none)
theorem mo_Canon_init : MOK Y_Canon_init 0 := ⟨wA 27 (by decide +kernel) rfl, wA 2 (by decide +kernel) rfl, by decide +kernel, by decide +kernel, by decide⟩
theorem mi_Canon_init : MI Y_Canon_init := wA 26 (by decide +kernel) rfl
def Y_Tune_init : Yx := (⟨R_Tune, "<init>", "()V"⟩, prog_7_method_1_code, 1, none)
theorem mo_Tune_init : MOK Y_Tune_init 0 := ⟨wA 33 (by decide +kernel) rfl, wA 3 (by decide +kernel) rfl, by decide +kernel, by decide +kernel, by decide⟩
theorem mi_Tune_init : MI Y_Tune_init := wA 32 (by decide +kernel) rfl
def Y_Row_init : Yx := (⟨R_Row, "<init>", "(I)V"⟩, prog_5_method_1_code, 2, none)
theorem mo_Row_init : MOK Y_Row_init 1 := ⟨wA 39 (by decide +kernel) rfl, wA 4 (by decide +kernel) rfl, by decide +kernel, by decide +kernel, by decide⟩
theorem mi_Row_init : MI Y_Row_init := wA 38 (by decide +kernel) rfl
def Y_Mind_init : Yx := (⟨R_Mind, "<init>", "()V"⟩, prog_4_method_1_code, 1, none)
theorem mo_Mind_init : MOK Y_Mind_init 0 := ⟨wA 106 (by decide +kernel) rfl, wA 5 (by decide +kernel) rfl, by decide +kernel, by decide +kernel, by decide⟩
theorem mi_Mind_init : MI Y_Mind_init := wA 105 (by decide +kernel) rfl
def Y_Meetings_init : Yx := (⟨R_Meetings, "<init>", "()V"⟩, prog_3_method_1_code, 1, none)
theorem mo_Meetings_init : MOK Y_Meetings_init 0 := ⟨wA 114 (by decide +kernel) rfl, wA 6 (by decide +kernel) rfl, by decide +kernel, by decide +kernel, by decide⟩
theorem mi_Meetings_init : MI Y_Meetings_init := wA 113 (by decide +kernel) rfl
def Y_Walks_init : Yx := (⟨R_Walks, "<init>", "()V"⟩, prog_8_method_1_code, 1, none)
theorem mo_Walks_init : MOK Y_Walks_init 0 := ⟨wA 141 (by decide +kernel) rfl, wA 7 (by decide +kernel) rfl, by decide +kernel, by decide +kernel, by decide⟩
theorem mi_Walks_init : MI Y_Walks_init := wA 140 (by decide +kernel) rfl
def Y_Text_init : Yx := (⟨R_Text, "<init>", "()V"⟩, prog_6_method_1_code, 1, none)
theorem mo_Text_init : MOK Y_Text_init 0 := ⟨wA 155 (by decide +kernel) rfl, wA 8 (by decide +kernel) rfl, by decide +kernel, by decide +kernel, by decide⟩
theorem mi_Text_init : MI Y_Text_init := wA 154 (by decide +kernel) rfl
def Y_Row_add : Yx := (⟨R_Row, "add", "(I)V"⟩, prog_5_method_6_code, 2, none)
theorem mo_Row_add : MOK Y_Row_add 1 := ⟨wA 168 (by decide +kernel) rfl, wA 4 (by decide +kernel) rfl, by decide +kernel, by decide +kernel, by decide⟩
theorem mi_Row_add : MI Y_Row_add := wA 166 (by decide +kernel) rfl
theorem mv_Row_add : MV Y_Row_add := wA 167 (by decide +kernel) rfl
def Y_Main_letter : Yx := (⟨R_Main, "letter", "(I)I"⟩, prog_1_method_2_code, 3, (some Jvm.ClassFile.FieldType.int))
theorem mo_Main_letter : MOK Y_Main_letter 1 := ⟨wA 197 (by decide +kernel) rfl, wA 1 (by decide +kernel) rfl, by decide +kernel, by decide +kernel, by decide⟩
theorem mi_Main_letter : MI Y_Main_letter := wA 195 (by decide +kernel) rfl
theorem mv_Main_letter : MV Y_Main_letter := wA 196 (by decide +kernel) rfl
def Y_Main_outside : Yx := (⟨R_Main, "outside", "(III)I"⟩, prog_1_method_32_code, 3, (some Jvm.ClassFile.FieldType.int))
theorem mo_Main_outside : MOK Y_Main_outside 3 := ⟨wA 200 (by decide +kernel) rfl, wA 1 (by decide +kernel) rfl, by decide +kernel, by decide +kernel, by decide⟩
theorem ms_Main_outside : MS Y_Main_outside := wA 199 (by decide +kernel) rfl
def Y_Text_size : Yx := (⟨R_Text, "size", "()I"⟩, prog_6_method_2_code, 1, (some Jvm.ClassFile.FieldType.int))
theorem mo_Text_size : MOK Y_Text_size 0 := ⟨wA 204 (by decide +kernel) rfl, wA 8 (by decide +kernel) rfl, by decide +kernel, by decide +kernel, by decide⟩
theorem mi_Text_size : MI Y_Text_size := wA 202 (by decide +kernel) rfl
theorem mv_Text_size : MV Y_Text_size := wA 203 (by decide +kernel) rfl
def Y_Row_size : Yx := (⟨R_Row, "size", "()I"⟩, prog_5_method_2_code, 1, (some Jvm.ClassFile.FieldType.int))
theorem mo_Row_size : MOK Y_Row_size 0 := ⟨wA 208 (by decide +kernel) rfl, wA 4 (by decide +kernel) rfl, by decide +kernel, by decide +kernel, by decide⟩
theorem mi_Row_size : MI Y_Row_size := wA 206 (by decide +kernel) rfl
theorem mv_Row_size : MV Y_Row_size := wA 207 (by decide +kernel) rfl
def Y_Main_refuse : Yx := (⟨R_Main, "refuse", "(I)I"⟩, prog_1_method_34_code, 3, (some Jvm.ClassFile.FieldType.int))
theorem mo_Main_refuse : MOK Y_Main_refuse 1 := ⟨wA 212 (by decide +kernel) rfl, wA 1 (by decide +kernel) rfl, by decide +kernel, by decide +kernel, by decide⟩
theorem mi_Main_refuse : MI Y_Main_refuse := wA 211 (by decide +kernel) rfl
theorem mv_Main_refuse : MV Y_Main_refuse := wS 0 (by decide +kernel) rfl
def Y_Row_get : Yx := (⟨R_Row, "get", "(I)I"⟩, prog_5_method_4_code, 2, (some Jvm.ClassFile.FieldType.int))
theorem mo_Row_get : MOK Y_Row_get 1 := ⟨wA 216 (by decide +kernel) rfl, wA 4 (by decide +kernel) rfl, by decide +kernel, by decide +kernel, by decide⟩
theorem mi_Row_get : MI Y_Row_get := wA 214 (by decide +kernel) rfl
theorem mv_Row_get : MV Y_Row_get := wA 215 (by decide +kernel) rfl
def Y_Row_set : Yx := (⟨R_Row, "set", "(II)V"⟩, prog_5_method_5_code, 3, none)
theorem mo_Row_set : MOK Y_Row_set 2 := ⟨wA 220 (by decide +kernel) rfl, wA 4 (by decide +kernel) rfl, by decide +kernel, by decide +kernel, by decide⟩
theorem mi_Row_set : MI Y_Row_set := wA 218 (by decide +kernel) rfl
theorem mv_Row_set : MV Y_Row_set := wA 219 (by decide +kernel) rfl
def Y_Text_add : Yx := (⟨R_Text, "add", "(I)I"⟩, prog_6_method_3_code, 2, (some Jvm.ClassFile.FieldType.int))
theorem mo_Text_add : MOK Y_Text_add 1 := ⟨wA 224 (by decide +kernel) rfl, wA 8 (by decide +kernel) rfl, by decide +kernel, by decide +kernel, by decide⟩
theorem mi_Text_add : MI Y_Text_add := wA 222 (by decide +kernel) rfl
theorem mv_Text_add : MV Y_Text_add := wA 223 (by decide +kernel) rfl
def Y_Main_canon : Yx := (⟨R_Main, "canon", "()I"⟩, prog_1_method_3_code, 3, (some Jvm.ClassFile.FieldType.int))
theorem mo_Main_canon : MOK Y_Main_canon 0 := ⟨wA 229 (by decide +kernel) rfl, wA 1 (by decide +kernel) rfl, by decide +kernel, by decide +kernel, by decide⟩
theorem mi_Main_canon : MI Y_Main_canon := wA 227 (by decide +kernel) rfl
theorem mv_Main_canon : MV Y_Main_canon := wA 228 (by decide +kernel) rfl
def Y_Text_formFault : Yx := (⟨R_Text, "formFault", "()I"⟩, prog_6_method_11_code, 5, (some Jvm.ClassFile.FieldType.int))
theorem mo_Text_formFault : MOK Y_Text_formFault 0 := ⟨wA 233 (by decide +kernel) rfl, wA 8 (by decide +kernel) rfl, by decide +kernel, by decide +kernel, by decide⟩
theorem mi_Text_formFault : MI Y_Text_formFault := wA 231 (by decide +kernel) rfl
theorem mv_Text_formFault : MV Y_Text_formFault := wA 232 (by decide +kernel) rfl
def Y_Text_formAt : Yx := (⟨R_Text, "formAt", "(I)Ljava/lang/String;"⟩, prog_6_method_9_code, 2, (some (Jvm.ClassFile.FieldType.object "java/lang/String")))
theorem mo_Text_formAt : MOK Y_Text_formAt 1 := ⟨wA 237 (by decide +kernel) rfl, wA 8 (by decide +kernel) rfl, by decide +kernel, by decide +kernel, by decide⟩
theorem mi_Text_formAt : MI Y_Text_formAt := wA 236 (by decide +kernel) rfl
theorem mv_Text_formAt : MV Y_Text_formAt := wS 1 (by decide +kernel) rfl
def Y_Text_at : Yx := (⟨R_Text, "at", "(I)I"⟩, prog_6_method_5_code, 2, (some Jvm.ClassFile.FieldType.int))
theorem mo_Text_at : MOK Y_Text_at 1 := ⟨wA 241 (by decide +kernel) rfl, wA 8 (by decide +kernel) rfl, by decide +kernel, by decide +kernel, by decide⟩
theorem mi_Text_at : MI Y_Text_at := wA 240 (by decide +kernel) rfl
theorem mv_Text_at : MV Y_Text_at := wS 2 (by decide +kernel) rfl
def Y_Row_has : Yx := (⟨R_Row, "has", "(I)Z"⟩, prog_5_method_3_code, 2, (some Jvm.ClassFile.FieldType.boolean))
theorem mo_Row_has : MOK Y_Row_has 1 := ⟨wA 245 (by decide +kernel) rfl, wA 4 (by decide +kernel) rfl, by decide +kernel, by decide +kernel, by decide⟩
theorem mi_Row_has : MI Y_Row_has := wA 243 (by decide +kernel) rfl
theorem mv_Row_has : MV Y_Row_has := wA 244 (by decide +kernel) rfl
def Y_Text_isDigit : Yx := (⟨R_Text, "isDigit", "(I)Z"⟩, prog_6_method_6_code, 2, (some Jvm.ClassFile.FieldType.boolean))
theorem mo_Text_isDigit : MOK Y_Text_isDigit 1 := ⟨wA 250 (by decide +kernel) rfl, wA 8 (by decide +kernel) rfl, by decide +kernel, by decide +kernel, by decide⟩
theorem mi_Text_isDigit : MI Y_Text_isDigit := wA 249 (by decide +kernel) rfl
theorem mv_Text_isDigit : MV Y_Text_isDigit := wS 3 (by decide +kernel) rfl
def Y_String_length : Yx := (⟨"java/lang/String", "length", "()I"⟩, prog_12_method_54_code, 1, (some Jvm.ClassFile.FieldType.int))
theorem mo_String_length : MOK Y_String_length 0 := ⟨wA 259 (by decide +kernel) rfl, wA 10 (by decide +kernel) rfl, by decide +kernel, by decide +kernel, by decide⟩
theorem mi_String_length : MI Y_String_length := wA 257 (by decide +kernel) rfl
theorem mv_String_length : MV Y_String_length := wA 258 (by decide +kernel) rfl
def Y_String_coder : Yx := (⟨"java/lang/String", "coder", "()B"⟩, prog_12_method_152_code, 1, (some Jvm.ClassFile.FieldType.byte))
theorem mo_String_coder : MOK Y_String_coder 0 := ⟨wA 263 (by decide +kernel) rfl, wA 10 (by decide +kernel) rfl, by decide +kernel, by decide +kernel, by decide⟩
theorem mi_String_coder : MI Y_String_coder := wA 261 (by decide +kernel) rfl
theorem mv_String_coder : MV Y_String_coder := wA 262 (by decide +kernel) rfl
def Y_String_charAt : Yx := (⟨"java/lang/String", "charAt", "(I)C"⟩, prog_12_method_56_code, 2, (some Jvm.ClassFile.FieldType.char))
theorem mo_String_charAt : MOK Y_String_charAt 1 := ⟨wA 269 (by decide +kernel) rfl, wA 10 (by decide +kernel) rfl, by decide +kernel, by decide +kernel, by decide⟩
theorem mi_String_charAt : MI Y_String_charAt := wA 267 (by decide +kernel) rfl
theorem mv_String_charAt : MV Y_String_charAt := wA 268 (by decide +kernel) rfl
def Y_String_isLatin1 : Yx := (⟨"java/lang/String", "isLatin1", "()Z"⟩, prog_12_method_154_code, 1, (some Jvm.ClassFile.FieldType.boolean))
theorem mo_String_isLatin1 : MOK Y_String_isLatin1 0 := ⟨wA 273 (by decide +kernel) rfl, wA 10 (by decide +kernel) rfl, by decide +kernel, by decide +kernel, by decide⟩
theorem mi_String_isLatin1 : MI Y_String_isLatin1 := wA 271 (by decide +kernel) rfl
theorem mv_String_isLatin1 : MV Y_String_isLatin1 := wA 272 (by decide +kernel) rfl
def Y_Latin1_charAt : Yx := (⟨"java/lang/StringLatin1", "charAt", "([BI)C"⟩, prog_13_method_2_code, 2, (some Jvm.ClassFile.FieldType.char))
theorem mo_Latin1_charAt : MOK Y_Latin1_charAt 2 := ⟨wA 276 (by decide +kernel) rfl, wA 11 (by decide +kernel) rfl, by decide +kernel, by decide +kernel, by decide⟩
theorem ms_Latin1_charAt : MS Y_Latin1_charAt := wA 275 (by decide +kernel) rfl
def Y_String_checkIndex : Yx := (⟨"java/lang/String", "checkIndex", "(II)V"⟩, prog_12_method_155_code, 2, none)
theorem mo_String_checkIndex : MOK Y_String_checkIndex 2 := ⟨wA 279 (by decide +kernel) rfl, wA 10 (by decide +kernel) rfl, by decide +kernel, by decide +kernel, by decide⟩
theorem ms_String_checkIndex : MS Y_String_checkIndex := wA 278 (by decide +kernel) rfl
def Y_Precond_checkIndex : Yx := (⟨"jdk/internal/util/Preconditions", "checkIndex", "(IILjava/util/function/BiFunction;)I"⟩, prog_15_method_11_code, 3, (some Jvm.ClassFile.FieldType.int))
theorem mo_Precond_checkIndex : MOK Y_Precond_checkIndex 3 := ⟨wA 284 (by decide +kernel) rfl, wA 12 (by decide +kernel) rfl, by decide +kernel, by decide +kernel, by decide⟩
theorem ms_Precond_checkIndex : MS Y_Precond_checkIndex := wA 283 (by decide +kernel) rfl
def Y_UTF16_charAt : Yx := (⟨"java/lang/StringUTF16", "charAt", "([BI)C"⟩, prog_14_method_83_code, 2, (some Jvm.ClassFile.FieldType.char))
theorem mo_UTF16_charAt : MOK Y_UTF16_charAt 2 := ⟨wA 287 (by decide +kernel) rfl, wA 13 (by decide +kernel) rfl, by decide +kernel, by decide +kernel, by decide⟩
theorem ms_UTF16_charAt : MS Y_UTF16_charAt := wA 286 (by decide +kernel) rfl
def Y_UTF16_checkIndex : Yx := (⟨"java/lang/StringUTF16", "checkIndex", "(I[B)V"⟩, prog_14_method_91_code, 2, none)
theorem mo_UTF16_checkIndex : MOK Y_UTF16_checkIndex 2 := ⟨wA 290 (by decide +kernel) rfl, wA 13 (by decide +kernel) rfl, by decide +kernel, by decide +kernel, by decide⟩
theorem ms_UTF16_checkIndex : MS Y_UTF16_checkIndex := wA 289 (by decide +kernel) rfl
def Y_UTF16_length : Yx := (⟨"java/lang/StringUTF16", "length", "([B)I"⟩, prog_14_method_6_code, 1, (some Jvm.ClassFile.FieldType.int))
theorem mo_UTF16_length : MOK Y_UTF16_length 1 := ⟨wA 293 (by decide +kernel) rfl, wA 13 (by decide +kernel) rfl, by decide +kernel, by decide +kernel, by decide⟩
theorem ms_UTF16_length : MS Y_UTF16_length := wA 292 (by decide +kernel) rfl
def Y_UTF16_getChar : Yx := (⟨"java/lang/StringUTF16", "getChar", "([BI)C"⟩, prog_14_method_5_code, 2, (some Jvm.ClassFile.FieldType.char))
theorem mo_UTF16_getChar : MOK Y_UTF16_getChar 2 := ⟨wA 297 (by decide +kernel) rfl, wA 13 (by decide +kernel) rfl, by decide +kernel, by decide +kernel, by decide⟩
theorem ms_UTF16_getChar : MS Y_UTF16_getChar := wA 296 (by decide +kernel) rfl
def Y_Text_fits : Yx := (⟨R_Text, "fits", "(CI)Z"⟩, prog_6_method_10_code, 3, (some Jvm.ClassFile.FieldType.boolean))
theorem mo_Text_fits : MOK Y_Text_fits 2 := ⟨wA 307 (by decide +kernel) rfl, wA 8 (by decide +kernel) rfl, by decide +kernel, by decide +kernel, by decide⟩
theorem mi_Text_fits : MI Y_Text_fits := wA 306 (by decide +kernel) rfl
theorem mv_Text_fits : MV Y_Text_fits := wS 4 (by decide +kernel) rfl
def Y_Text_kind : Yx := (⟨R_Text, "kind", "(I)I"⟩, prog_6_method_8_code, 3, (some Jvm.ClassFile.FieldType.int))
theorem mo_Text_kind : MOK Y_Text_kind 1 := ⟨wA 311 (by decide +kernel) rfl, wA 8 (by decide +kernel) rfl, by decide +kernel, by decide +kernel, by decide⟩
theorem mi_Text_kind : MI Y_Text_kind := wA 310 (by decide +kernel) rfl
theorem mv_Text_kind : MV Y_Text_kind := wS 5 (by decide +kernel) rfl
def Y_Mind_take : Yx := (⟨R_Mind, "take", "(LOneTuneNine$Canon;)LOneTuneNine$Canon;"⟩, prog_4_method_2_code, 2, (some (Jvm.ClassFile.FieldType.object "OneTuneNine$Canon")))
theorem mo_Mind_take : MOK Y_Mind_take 1 := ⟨wA 316 (by decide +kernel) rfl, wA 5 (by decide +kernel) rfl, by decide +kernel, by decide +kernel, by decide⟩
theorem mi_Mind_take : MI Y_Mind_take := wA 314 (by decide +kernel) rfl
theorem mv_Mind_take : MV Y_Mind_take := wA 315 (by decide +kernel) rfl
def Y_Canon_copyFrom : Yx := (⟨R_Canon, "copyFrom", "(LOneTuneNine$Canon;)V"⟩, prog_2_method_2_code, 2, none)
theorem mo_Canon_copyFrom : MOK Y_Canon_copyFrom 1 := ⟨wA 320 (by decide +kernel) rfl, wA 2 (by decide +kernel) rfl, by decide +kernel, by decide +kernel, by decide⟩
theorem mi_Canon_copyFrom : MI Y_Canon_copyFrom := wA 318 (by decide +kernel) rfl
theorem mv_Canon_copyFrom : MV Y_Canon_copyFrom := wA 319 (by decide +kernel) rfl
def Y_Tune_copyFrom : Yx := (⟨R_Tune, "copyFrom", "(LOneTuneNine$Tune;)V"⟩, prog_7_method_12_code, 2, none)
theorem mo_Tune_copyFrom : MOK Y_Tune_copyFrom 1 := ⟨wA 324 (by decide +kernel) rfl, wA 3 (by decide +kernel) rfl, by decide +kernel, by decide +kernel, by decide⟩
theorem mi_Tune_copyFrom : MI Y_Tune_copyFrom := wA 322 (by decide +kernel) rfl
theorem mv_Tune_copyFrom : MV Y_Tune_copyFrom := wA 323 (by decide +kernel) rfl
def Y_Row_copyFrom : Yx := (⟨R_Row, "copyFrom", "(LOneTuneNine$Row;)V"⟩, prog_5_method_8_code, 3, none)
theorem mo_Row_copyFrom : MOK Y_Row_copyFrom 1 := ⟨wA 328 (by decide +kernel) rfl, wA 4 (by decide +kernel) rfl, by decide +kernel, by decide +kernel, by decide⟩
theorem mi_Row_copyFrom : MI Y_Row_copyFrom := wA 326 (by decide +kernel) rfl
theorem mv_Row_copyFrom : MV Y_Row_copyFrom := wA 327 (by decide +kernel) rfl
def Y_Row_clear : Yx := (⟨R_Row, "clear", "()V"⟩, prog_5_method_7_code, 1, none)
theorem mo_Row_clear : MOK Y_Row_clear 0 := ⟨wA 332 (by decide +kernel) rfl, wA 4 (by decide +kernel) rfl, by decide +kernel, by decide +kernel, by decide⟩
theorem mi_Row_clear : MI Y_Row_clear := wA 330 (by decide +kernel) rfl
theorem mv_Row_clear : MV Y_Row_clear := wA 331 (by decide +kernel) rfl
def Y_Text_tellAll : Yx := (⟨R_Text, "tellAll", "(LOneTuneNine$Canon;)I"⟩, prog_6_method_12_code, 5, (some Jvm.ClassFile.FieldType.int))
theorem mo_Text_tellAll : MOK Y_Text_tellAll 1 := ⟨wA 340 (by decide +kernel) rfl, wA 8 (by decide +kernel) rfl, by decide +kernel, by decide +kernel, by decide⟩
theorem mi_Text_tellAll : MI Y_Text_tellAll := wA 338 (by decide +kernel) rfl
theorem mv_Text_tellAll : MV Y_Text_tellAll := wA 339 (by decide +kernel) rfl
def Y_Text_tell : Yx := (⟨R_Text, "tell", "(LOneTuneNine$Canon;II)Z"⟩, prog_6_method_13_code, 4, (some Jvm.ClassFile.FieldType.boolean))
theorem mo_Text_tell : MOK Y_Text_tell 3 := ⟨wA 344 (by decide +kernel) rfl, wA 8 (by decide +kernel) rfl, by decide +kernel, by decide +kernel, by decide⟩
theorem mi_Text_tell : MI Y_Text_tell := wA 343 (by decide +kernel) rfl
theorem mv_Text_tell : MV Y_Text_tell := wS 6 (by decide +kernel) rfl
def Y_Text_digit : Yx := (⟨R_Text, "digit", "(I)I"⟩, prog_6_method_7_code, 2, (some Jvm.ClassFile.FieldType.int))
theorem mo_Text_digit : MOK Y_Text_digit 1 := ⟨wA 348 (by decide +kernel) rfl, wA 8 (by decide +kernel) rfl, by decide +kernel, by decide +kernel, by decide⟩
theorem mi_Text_digit : MI Y_Text_digit := wA 347 (by decide +kernel) rfl
theorem mv_Text_digit : MV Y_Text_digit := wS 7 (by decide +kernel) rfl
def Y_Canon_tellNote : Yx := (⟨R_Canon, "tellNote", "(II)Z"⟩, prog_2_method_10_code, 3, (some Jvm.ClassFile.FieldType.boolean))
theorem mo_Canon_tellNote : MOK Y_Canon_tellNote 2 := ⟨wA 352 (by decide +kernel) rfl, wA 2 (by decide +kernel) rfl, by decide +kernel, by decide +kernel, by decide⟩
theorem mi_Canon_tellNote : MI Y_Canon_tellNote := wA 350 (by decide +kernel) rfl
theorem mv_Canon_tellNote : MV Y_Canon_tellNote := wA 351 (by decide +kernel) rfl
def Y_Tune_notes : Yx := (⟨R_Tune, "notes", "()I"⟩, prog_7_method_2_code, 1, (some Jvm.ClassFile.FieldType.int))
theorem mo_Tune_notes : MOK Y_Tune_notes 0 := ⟨wA 356 (by decide +kernel) rfl, wA 3 (by decide +kernel) rfl, by decide +kernel, by decide +kernel, by decide⟩
theorem mi_Tune_notes : MI Y_Tune_notes := wA 354 (by decide +kernel) rfl
theorem mv_Tune_notes : MV Y_Tune_notes := wA 355 (by decide +kernel) rfl
def Y_Tune_add : Yx := (⟨R_Tune, "add", "(II)V"⟩, prog_7_method_10_code, 5, none)
theorem mo_Tune_add : MOK Y_Tune_add 2 := ⟨wA 361 (by decide +kernel) rfl, wA 3 (by decide +kernel) rfl, by decide +kernel, by decide +kernel, by decide⟩
theorem mi_Tune_add : MI Y_Tune_add := wA 359 (by decide +kernel) rfl
theorem mv_Tune_add : MV Y_Tune_add := wA 360 (by decide +kernel) rfl
def Y_Text_entry : Yx := (⟨R_Text, "entry", "(I)I"⟩, prog_6_method_14_code, 2, (some Jvm.ClassFile.FieldType.int))
theorem mo_Text_entry : MOK Y_Text_entry 1 := ⟨wA 366 (by decide +kernel) rfl, wA 8 (by decide +kernel) rfl, by decide +kernel, by decide +kernel, by decide⟩
theorem mi_Text_entry : MI Y_Text_entry := wA 365 (by decide +kernel) rfl
theorem mv_Text_entry : MV Y_Text_entry := wS 8 (by decide +kernel) rfl
def Y_Canon_tellVoice : Yx := (⟨R_Canon, "tellVoice", "(III)Z"⟩, prog_2_method_11_code, 4, (some Jvm.ClassFile.FieldType.boolean))
theorem mo_Canon_tellVoice : MOK Y_Canon_tellVoice 3 := ⟨wA 370 (by decide +kernel) rfl, wA 2 (by decide +kernel) rfl, by decide +kernel, by decide +kernel, by decide⟩
theorem mi_Canon_tellVoice : MI Y_Canon_tellVoice := wA 368 (by decide +kernel) rfl
theorem mv_Canon_tellVoice : MV Y_Canon_tellVoice := wA 369 (by decide +kernel) rfl
def Y_Canon_voices : Yx := (⟨R_Canon, "voices", "()I"⟩, prog_2_method_3_code, 1, (some Jvm.ClassFile.FieldType.int))
theorem mo_Canon_voices : MOK Y_Canon_voices 0 := ⟨wA 374 (by decide +kernel) rfl, wA 2 (by decide +kernel) rfl, by decide +kernel, by decide +kernel, by decide⟩
theorem mi_Canon_voices : MI Y_Canon_voices := wA 372 (by decide +kernel) rfl
theorem mv_Canon_voices : MV Y_Canon_voices := wA 373 (by decide +kernel) rfl
def Y_Canon_addVoice : Yx := (⟨R_Canon, "addVoice", "(III)V"⟩, prog_2_method_9_code, 4, none)
theorem mo_Canon_addVoice : MOK Y_Canon_addVoice 3 := ⟨wA 379 (by decide +kernel) rfl, wA 2 (by decide +kernel) rfl, by decide +kernel, by decide +kernel, by decide⟩
theorem mi_Canon_addVoice : MI Y_Canon_addVoice := wA 377 (by decide +kernel) rfl
theorem mv_Canon_addVoice : MV Y_Canon_addVoice := wA 378 (by decide +kernel) rfl
def Y_Canon_tellRounds : Yx := (⟨R_Canon, "tellRounds", "(II)Z"⟩, prog_2_method_12_code, 3, (some Jvm.ClassFile.FieldType.boolean))
theorem mo_Canon_tellRounds : MOK Y_Canon_tellRounds 2 := ⟨wA 384 (by decide +kernel) rfl, wA 2 (by decide +kernel) rfl, by decide +kernel, by decide +kernel, by decide⟩
theorem mi_Canon_tellRounds : MI Y_Canon_tellRounds := wA 382 (by decide +kernel) rfl
theorem mv_Canon_tellRounds : MV Y_Canon_tellRounds := wA 383 (by decide +kernel) rfl
def Y_Canon_tellWell : Yx := (⟨R_Canon, "tellWell", "(I)Z"⟩, prog_2_method_13_code, 2, (some Jvm.ClassFile.FieldType.boolean))
theorem mo_Canon_tellWell : MOK Y_Canon_tellWell 1 := ⟨wA 388 (by decide +kernel) rfl, wA 2 (by decide +kernel) rfl, by decide +kernel, by decide +kernel, by decide⟩
theorem mi_Canon_tellWell : MI Y_Canon_tellWell := wA 386 (by decide +kernel) rfl
theorem mv_Canon_tellWell : MV Y_Canon_tellWell := wA 387 (by decide +kernel) rfl
def Y_Text_clear : Yx := (⟨R_Text, "clear", "()V"⟩, prog_6_method_4_code, 1, none)
theorem mo_Text_clear : MOK Y_Text_clear 0 := ⟨wA 393 (by decide +kernel) rfl, wA 8 (by decide +kernel) rfl, by decide +kernel, by decide +kernel, by decide⟩
theorem mi_Text_clear : MI Y_Text_clear := wA 391 (by decide +kernel) rfl
theorem mv_Text_clear : MV Y_Text_clear := wA 392 (by decide +kernel) rfl
def Y_Main_note : Yx := (⟨R_Main, "note", "(II)I"⟩, prog_1_method_4_code, 3, (some Jvm.ClassFile.FieldType.int))
theorem mo_Main_note : MOK Y_Main_note 2 := ⟨wA 399 (by decide +kernel) rfl, wA 1 (by decide +kernel) rfl, by decide +kernel, by decide +kernel, by decide⟩
theorem mi_Main_note : MI Y_Main_note := wA 397 (by decide +kernel) rfl
theorem mv_Main_note : MV Y_Main_note := wA 398 (by decide +kernel) rfl
def Y_Tune_has : Yx := (⟨R_Tune, "has", "(I)Z"⟩, prog_7_method_3_code, 2, (some Jvm.ClassFile.FieldType.boolean))
theorem mo_Tune_has : MOK Y_Tune_has 1 := ⟨wA 403 (by decide +kernel) rfl, wA 3 (by decide +kernel) rfl, by decide +kernel, by decide +kernel, by decide⟩
theorem mi_Tune_has : MI Y_Tune_has := wA 401 (by decide +kernel) rfl
theorem mv_Tune_has : MV Y_Tune_has := wA 402 (by decide +kernel) rfl
def Y_Tune_pitchOf : Yx := (⟨R_Tune, "pitchOf", "(I)I"⟩, prog_7_method_4_code, 2, (some Jvm.ClassFile.FieldType.int))
theorem mo_Tune_pitchOf : MOK Y_Tune_pitchOf 1 := ⟨wA 408 (by decide +kernel) rfl, wA 3 (by decide +kernel) rfl, by decide +kernel, by decide +kernel, by decide⟩
theorem mi_Tune_pitchOf : MI Y_Tune_pitchOf := wA 406 (by decide +kernel) rfl
theorem mv_Tune_pitchOf : MV Y_Tune_pitchOf := wA 407 (by decide +kernel) rfl
def Y_Tune_lengthOf : Yx := (⟨R_Tune, "lengthOf", "(I)I"⟩, prog_7_method_5_code, 2, (some Jvm.ClassFile.FieldType.int))
theorem mo_Tune_lengthOf : MOK Y_Tune_lengthOf 1 := ⟨wA 413 (by decide +kernel) rfl, wA 3 (by decide +kernel) rfl, by decide +kernel, by decide +kernel, by decide⟩
theorem mi_Tune_lengthOf : MI Y_Tune_lengthOf := wA 411 (by decide +kernel) rfl
theorem mv_Tune_lengthOf : MV Y_Tune_lengthOf := wA 412 (by decide +kernel) rfl
def Y_Tune_startOf : Yx := (⟨R_Tune, "startOf", "(I)I"⟩, prog_7_method_6_code, 4, (some Jvm.ClassFile.FieldType.int))
theorem mo_Tune_startOf : MOK Y_Tune_startOf 1 := ⟨wA 417 (by decide +kernel) rfl, wA 3 (by decide +kernel) rfl, by decide +kernel, by decide +kernel, by decide⟩
theorem mi_Tune_startOf : MI Y_Tune_startOf := wA 415 (by decide +kernel) rfl
theorem mv_Tune_startOf : MV Y_Tune_startOf := wA 416 (by decide +kernel) rfl
def Y_Main_voice : Yx := (⟨R_Main, "voice", "(II)I"⟩, prog_1_method_5_code, 3, (some Jvm.ClassFile.FieldType.int))
theorem mo_Main_voice : MOK Y_Main_voice 2 := ⟨wA 421 (by decide +kernel) rfl, wA 1 (by decide +kernel) rfl, by decide +kernel, by decide +kernel, by decide⟩
theorem mi_Main_voice : MI Y_Main_voice := wA 419 (by decide +kernel) rfl
theorem mv_Main_voice : MV Y_Main_voice := wA 420 (by decide +kernel) rfl
def Y_Canon_hasVoice : Yx := (⟨R_Canon, "hasVoice", "(I)Z"⟩, prog_2_method_4_code, 2, (some Jvm.ClassFile.FieldType.boolean))
theorem mo_Canon_hasVoice : MOK Y_Canon_hasVoice 1 := ⟨wA 425 (by decide +kernel) rfl, wA 2 (by decide +kernel) rfl, by decide +kernel, by decide +kernel, by decide⟩
theorem mi_Canon_hasVoice : MI Y_Canon_hasVoice := wA 423 (by decide +kernel) rfl
theorem mv_Canon_hasVoice : MV Y_Canon_hasVoice := wA 424 (by decide +kernel) rfl
def Y_Canon_kindOf : Yx := (⟨R_Canon, "kindOf", "(I)I"⟩, prog_2_method_5_code, 2, (some Jvm.ClassFile.FieldType.int))
theorem mo_Canon_kindOf : MOK Y_Canon_kindOf 1 := ⟨wA 430 (by decide +kernel) rfl, wA 2 (by decide +kernel) rfl, by decide +kernel, by decide +kernel, by decide⟩
theorem mi_Canon_kindOf : MI Y_Canon_kindOf := wA 428 (by decide +kernel) rfl
theorem mv_Canon_kindOf : MV Y_Canon_kindOf := wA 429 (by decide +kernel) rfl
def Y_Canon_entryOf : Yx := (⟨R_Canon, "entryOf", "(I)I"⟩, prog_2_method_6_code, 2, (some Jvm.ClassFile.FieldType.int))
theorem mo_Canon_entryOf : MOK Y_Canon_entryOf 1 := ⟨wA 435 (by decide +kernel) rfl, wA 2 (by decide +kernel) rfl, by decide +kernel, by decide +kernel, by decide⟩
theorem mi_Canon_entryOf : MI Y_Canon_entryOf := wA 433 (by decide +kernel) rfl
theorem mv_Canon_entryOf : MV Y_Canon_entryOf := wA 434 (by decide +kernel) rfl
def Y_Canon_highOf : Yx := (⟨R_Canon, "highOf", "(I)I"⟩, prog_2_method_7_code, 2, (some Jvm.ClassFile.FieldType.int))
theorem mo_Canon_highOf : MOK Y_Canon_highOf 1 := ⟨wA 439 (by decide +kernel) rfl, wA 2 (by decide +kernel) rfl, by decide +kernel, by decide +kernel, by decide⟩
theorem mi_Canon_highOf : MI Y_Canon_highOf := wA 437 (by decide +kernel) rfl
theorem mv_Canon_highOf : MV Y_Canon_highOf := wA 438 (by decide +kernel) rfl
def Y_Canon_roundBeats : Yx := (⟨R_Canon, "roundBeats", "(I)I"⟩, prog_2_method_14_code, 2, (some Jvm.ClassFile.FieldType.int))
theorem mo_Canon_roundBeats : MOK Y_Canon_roundBeats 1 := ⟨wA 443 (by decide +kernel) rfl, wA 2 (by decide +kernel) rfl, by decide +kernel, by decide +kernel, by decide⟩
theorem mi_Canon_roundBeats : MI Y_Canon_roundBeats := wA 441 (by decide +kernel) rfl
theorem mv_Canon_roundBeats : MV Y_Canon_roundBeats := wA 442 (by decide +kernel) rfl
def Y_Canon_stillFrom : Yx := (⟨R_Canon, "stillFrom", "(I)I"⟩, prog_2_method_15_code, 2, (some Jvm.ClassFile.FieldType.int))
theorem mo_Canon_stillFrom : MOK Y_Canon_stillFrom 1 := ⟨wA 447 (by decide +kernel) rfl, wA 2 (by decide +kernel) rfl, by decide +kernel, by decide +kernel, by decide⟩
theorem mi_Canon_stillFrom : MI Y_Canon_stillFrom := wA 445 (by decide +kernel) rfl
theorem mv_Canon_stillFrom : MV Y_Canon_stillFrom := wA 446 (by decide +kernel) rfl
def Y_Main_pitch : Yx := (⟨R_Main, "pitch", "(II)I"⟩, prog_1_method_6_code, 5, (some Jvm.ClassFile.FieldType.int))
theorem mo_Main_pitch : MOK Y_Main_pitch 2 := ⟨wA 452 (by decide +kernel) rfl, wA 1 (by decide +kernel) rfl, by decide +kernel, by decide +kernel, by decide⟩
theorem mi_Main_pitch : MI Y_Main_pitch := wA 450 (by decide +kernel) rfl
theorem mv_Main_pitch : MV Y_Main_pitch := wA 451 (by decide +kernel) rfl
def Y_Tune_setPitch : Yx := (⟨R_Tune, "setPitch", "(II)V"⟩, prog_7_method_9_code, 3, none)
theorem mo_Tune_setPitch : MOK Y_Tune_setPitch 2 := ⟨wA 456 (by decide +kernel) rfl, wA 3 (by decide +kernel) rfl, by decide +kernel, by decide +kernel, by decide⟩
theorem mi_Tune_setPitch : MI Y_Tune_setPitch := wA 454 (by decide +kernel) rfl
theorem mv_Tune_setPitch : MV Y_Tune_setPitch := wA 455 (by decide +kernel) rfl
def Y_Main_enter : Yx := (⟨R_Main, "enter", "(II)I"⟩, prog_1_method_7_code, 5, (some Jvm.ClassFile.FieldType.int))
theorem mo_Main_enter : MOK Y_Main_enter 2 := ⟨wA 461 (by decide +kernel) rfl, wA 1 (by decide +kernel) rfl, by decide +kernel, by decide +kernel, by decide⟩
theorem mi_Main_enter : MI Y_Main_enter := wA 459 (by decide +kernel) rfl
theorem mv_Main_enter : MV Y_Main_enter := wA 460 (by decide +kernel) rfl
def Y_Canon_setEntry : Yx := (⟨R_Canon, "setEntry", "(II)V"⟩, prog_2_method_8_code, 3, none)
theorem mo_Canon_setEntry : MOK Y_Canon_setEntry 2 := ⟨wA 465 (by decide +kernel) rfl, wA 2 (by decide +kernel) rfl, by decide +kernel, by decide +kernel, by decide⟩
theorem mi_Canon_setEntry : MI Y_Canon_setEntry := wA 463 (by decide +kernel) rfl
theorem mv_Canon_setEntry : MV Y_Canon_setEntry := wA 464 (by decide +kernel) rfl
def Y_Main_rounds : Yx := (⟨R_Main, "rounds", "(I)I"⟩, prog_1_method_8_code, 4, (some Jvm.ClassFile.FieldType.int))
theorem mo_Main_rounds : MOK Y_Main_rounds 1 := ⟨wA 470 (by decide +kernel) rfl, wA 1 (by decide +kernel) rfl, by decide +kernel, by decide +kernel, by decide⟩
theorem mi_Main_rounds : MI Y_Main_rounds := wA 468 (by decide +kernel) rfl
theorem mv_Main_rounds : MV Y_Main_rounds := wA 469 (by decide +kernel) rfl
def Y_Main_step : Yx := (⟨R_Main, "step", "(I)I"⟩, prog_1_method_9_code, 4, (some Jvm.ClassFile.FieldType.int))
theorem mo_Main_step : MOK Y_Main_step 1 := ⟨wA 474 (by decide +kernel) rfl, wA 1 (by decide +kernel) rfl, by decide +kernel, by decide +kernel, by decide⟩
theorem mi_Main_step : MI Y_Main_step := wA 472 (by decide +kernel) rfl
theorem mv_Main_step : MV Y_Main_step := wA 473 (by decide +kernel) rfl
def Y_Main_law : Yx := (⟨R_Main, "law", "(I)I"⟩, prog_1_method_10_code, 4, (some Jvm.ClassFile.FieldType.int))
theorem mo_Main_law : MOK Y_Main_law 1 := ⟨wA 478 (by decide +kernel) rfl, wA 1 (by decide +kernel) rfl, by decide +kernel, by decide +kernel, by decide⟩
theorem mi_Main_law : MI Y_Main_law := wA 476 (by decide +kernel) rfl
theorem mv_Main_law : MV Y_Main_law := wA 477 (by decide +kernel) rfl
def Y_Main_sound : Yx := (⟨R_Main, "sound", "(II)I"⟩, prog_1_method_11_code, 4, (some Jvm.ClassFile.FieldType.int))
theorem mo_Main_sound : MOK Y_Main_sound 2 := ⟨wA 482 (by decide +kernel) rfl, wA 1 (by decide +kernel) rfl, by decide +kernel, by decide +kernel, by decide⟩
theorem mi_Main_sound : MI Y_Main_sound := wA 480 (by decide +kernel) rfl
theorem mv_Main_sound : MV Y_Main_sound := wA 481 (by decide +kernel) rfl
def Y_Canon_soundOf : Yx := (⟨R_Canon, "soundOf", "(II)I"⟩, prog_2_method_20_code, 6, (some Jvm.ClassFile.FieldType.int))
theorem mo_Canon_soundOf : MOK Y_Canon_soundOf 2 := ⟨wA 487 (by decide +kernel) rfl, wA 2 (by decide +kernel) rfl, by decide +kernel, by decide +kernel, by decide⟩
theorem mi_Canon_soundOf : MI Y_Canon_soundOf := wA 485 (by decide +kernel) rfl
theorem mv_Canon_soundOf : MV Y_Canon_soundOf := wA 486 (by decide +kernel) rfl
def Y_Canon_noteSung : Yx := (⟨R_Canon, "noteSung", "(II)I"⟩, prog_2_method_17_code, 6, (some Jvm.ClassFile.FieldType.int))
theorem mo_Canon_noteSung : MOK Y_Canon_noteSung 2 := ⟨wA 491 (by decide +kernel) rfl, wA 2 (by decide +kernel) rfl, by decide +kernel, by decide +kernel, by decide⟩
theorem mi_Canon_noteSung : MI Y_Canon_noteSung := wA 489 (by decide +kernel) rfl
theorem mv_Canon_noteSung : MV Y_Canon_noteSung := wA 490 (by decide +kernel) rfl
def Y_Tune_noteAt : Yx := (⟨R_Tune, "noteAt", "(I)I"⟩, prog_7_method_7_code, 2, (some Jvm.ClassFile.FieldType.int))
theorem mo_Tune_noteAt : MOK Y_Tune_noteAt 1 := ⟨wA 495 (by decide +kernel) rfl, wA 3 (by decide +kernel) rfl, by decide +kernel, by decide +kernel, by decide⟩
theorem mi_Tune_noteAt : MI Y_Tune_noteAt := wA 493 (by decide +kernel) rfl
theorem mv_Tune_noteAt : MV Y_Tune_noteAt := wA 494 (by decide +kernel) rfl
def Y_Canon_isTurned : Yx := (⟨R_Canon, "isTurned", "(I)Z"⟩, prog_2_method_18_code, 3, (some Jvm.ClassFile.FieldType.boolean))
theorem mo_Canon_isTurned : MOK Y_Canon_isTurned 1 := ⟨wA 500 (by decide +kernel) rfl, wA 2 (by decide +kernel) rfl, by decide +kernel, by decide +kernel, by decide⟩
theorem mi_Canon_isTurned : MI Y_Canon_isTurned := wA 498 (by decide +kernel) rfl
theorem mv_Canon_isTurned : MV Y_Canon_isTurned := wA 499 (by decide +kernel) rfl
def Y_Canon_lift : Yx := (⟨R_Canon, "lift", "(II)I"⟩, prog_2_method_19_code, 6, (some Jvm.ClassFile.FieldType.int))
theorem mo_Canon_lift : MOK Y_Canon_lift 2 := ⟨wA 504 (by decide +kernel) rfl, wA 2 (by decide +kernel) rfl, by decide +kernel, by decide +kernel, by decide⟩
theorem mi_Canon_lift : MI Y_Canon_lift := wA 502 (by decide +kernel) rfl
theorem mv_Canon_lift : MV Y_Canon_lift := wA 503 (by decide +kernel) rfl
def Y_Main_ill : Yx := (⟨R_Main, "ill", "(I)I"⟩, prog_1_method_12_code, 3, (some Jvm.ClassFile.FieldType.int))
theorem mo_Main_ill : MOK Y_Main_ill 1 := ⟨wA 508 (by decide +kernel) rfl, wA 1 (by decide +kernel) rfl, by decide +kernel, by decide +kernel, by decide⟩
theorem mi_Main_ill : MI Y_Main_ill := wA 506 (by decide +kernel) rfl
theorem mv_Main_ill : MV Y_Main_ill := wA 507 (by decide +kernel) rfl
def Y_Canon_illsAt : Yx := (⟨R_Canon, "illsAt", "(I)I"⟩, prog_2_method_23_code, 5, (some Jvm.ClassFile.FieldType.int))
theorem mo_Canon_illsAt : MOK Y_Canon_illsAt 1 := ⟨wA 512 (by decide +kernel) rfl, wA 2 (by decide +kernel) rfl, by decide +kernel, by decide +kernel, by decide⟩
theorem mi_Canon_illsAt : MI Y_Canon_illsAt := wA 510 (by decide +kernel) rfl
theorem mv_Canon_illsAt : MV Y_Canon_illsAt := wA 511 (by decide +kernel) rfl
def Y_Canon_listen : Yx := (⟨R_Canon, "listen", "(I)V"⟩, prog_2_method_21_code, 4, none)
theorem mo_Canon_listen : MOK Y_Canon_listen 1 := ⟨wA 516 (by decide +kernel) rfl, wA 2 (by decide +kernel) rfl, by decide +kernel, by decide +kernel, by decide⟩
theorem mi_Canon_listen : MI Y_Canon_listen := wA 515 (by decide +kernel) rfl
theorem mv_Canon_listen : MV Y_Canon_listen := wS 9 (by decide +kernel) rfl
def Y_Canon_clash : Yx := (⟨R_Canon, "clash", "(II)Z"⟩, prog_2_method_22_code, 3, (some Jvm.ClassFile.FieldType.boolean))
theorem mo_Canon_clash : MOK Y_Canon_clash 2 := ⟨wA 522 (by decide +kernel) rfl, wA 2 (by decide +kernel) rfl, by decide +kernel, by decide +kernel, by decide⟩
theorem mi_Canon_clash : MI Y_Canon_clash := wA 521 (by decide +kernel) rfl
theorem mv_Canon_clash : MV Y_Canon_clash := wS 10 (by decide +kernel) rfl
def Y_Main_soundsWell : Yx := (⟨R_Main, "soundsWell", "(II)Z"⟩, prog_1_method_33_code, 2, (some Jvm.ClassFile.FieldType.boolean))
theorem mo_Main_soundsWell : MOK Y_Main_soundsWell 2 := ⟨wA 525 (by decide +kernel) rfl, wA 1 (by decide +kernel) rfl, by decide +kernel, by decide +kernel, by decide⟩
theorem ms_Main_soundsWell : MS Y_Main_soundsWell := wA 524 (by decide +kernel) rfl
def Y_Main_first : Yx := (⟨R_Main, "first", "(I)I"⟩, prog_1_method_13_code, 3, (some Jvm.ClassFile.FieldType.int))
theorem mo_Main_first : MOK Y_Main_first 1 := ⟨wA 532 (by decide +kernel) rfl, wA 1 (by decide +kernel) rfl, by decide +kernel, by decide +kernel, by decide⟩
theorem mi_Main_first : MI Y_Main_first := wA 530 (by decide +kernel) rfl
theorem mv_Main_first : MV Y_Main_first := wA 531 (by decide +kernel) rfl
def Y_Canon_firstIllBeat : Yx := (⟨R_Canon, "firstIllBeat", "()I"⟩, prog_2_method_25_code, 3, (some Jvm.ClassFile.FieldType.int))
theorem mo_Canon_firstIllBeat : MOK Y_Canon_firstIllBeat 0 := ⟨wA 536 (by decide +kernel) rfl, wA 2 (by decide +kernel) rfl, by decide +kernel, by decide +kernel, by decide⟩
theorem mi_Canon_firstIllBeat : MI Y_Canon_firstIllBeat := wA 534 (by decide +kernel) rfl
theorem mv_Canon_firstIllBeat : MV Y_Canon_firstIllBeat := wA 535 (by decide +kernel) rfl
def Y_Canon_end : Yx := (⟨R_Canon, "end", "()I"⟩, prog_2_method_16_code, 3, (some Jvm.ClassFile.FieldType.int))
theorem mo_Canon_end : MOK Y_Canon_end 0 := ⟨wA 540 (by decide +kernel) rfl, wA 2 (by decide +kernel) rfl, by decide +kernel, by decide +kernel, by decide⟩
theorem mi_Canon_end : MI Y_Canon_end := wA 538 (by decide +kernel) rfl
theorem mv_Canon_end : MV Y_Canon_end := wA 539 (by decide +kernel) rfl
def Y_Canon_firstIllPair : Yx := (⟨R_Canon, "firstIllPair", "(I)I"⟩, prog_2_method_26_code, 4, (some Jvm.ClassFile.FieldType.int))
theorem mo_Canon_firstIllPair : MOK Y_Canon_firstIllPair 1 := ⟨wA 549 (by decide +kernel) rfl, wA 2 (by decide +kernel) rfl, by decide +kernel, by decide +kernel, by decide⟩
theorem mi_Canon_firstIllPair : MI Y_Canon_firstIllPair := wA 547 (by decide +kernel) rfl
theorem mv_Canon_firstIllPair : MV Y_Canon_firstIllPair := wA 548 (by decide +kernel) rfl
def Y_Main_allIll : Yx := (⟨R_Main, "allIll", "()I"⟩, prog_1_method_14_code, 1, (some Jvm.ClassFile.FieldType.int))
theorem mo_Main_allIll : MOK Y_Main_allIll 0 := ⟨wA 553 (by decide +kernel) rfl, wA 1 (by decide +kernel) rfl, by decide +kernel, by decide +kernel, by decide⟩
theorem mi_Main_allIll : MI Y_Main_allIll := wA 551 (by decide +kernel) rfl
theorem mv_Main_allIll : MV Y_Main_allIll := wA 552 (by decide +kernel) rfl
def Y_Canon_illsInAll : Yx := (⟨R_Canon, "illsInAll", "()I"⟩, prog_2_method_24_code, 4, (some Jvm.ClassFile.FieldType.int))
theorem mo_Canon_illsInAll : MOK Y_Canon_illsInAll 0 := ⟨wA 557 (by decide +kernel) rfl, wA 2 (by decide +kernel) rfl, by decide +kernel, by decide +kernel, by decide⟩
theorem mi_Canon_illsInAll : MI Y_Canon_illsInAll := wA 555 (by decide +kernel) rfl
theorem mv_Canon_illsInAll : MV Y_Canon_illsInAll := wA 556 (by decide +kernel) rfl
def Y_Main_entries : Yx := (⟨R_Main, "entries", "(II)I"⟩, prog_1_method_15_code, 4, (some Jvm.ClassFile.FieldType.int))
theorem mo_Main_entries : MOK Y_Main_entries 2 := ⟨wA 561 (by decide +kernel) rfl, wA 1 (by decide +kernel) rfl, by decide +kernel, by decide +kernel, by decide⟩
theorem mi_Main_entries : MI Y_Main_entries := wA 559 (by decide +kernel) rfl
theorem mv_Main_entries : MV Y_Main_entries := wA 560 (by decide +kernel) rfl
def Y_Mind_agreeingEntries : Yx := (⟨R_Mind, "agreeingEntries", "(LOneTuneNine$Canon;II)I"⟩, prog_4_method_3_code, 7, (some Jvm.ClassFile.FieldType.int))
theorem mo_Mind_agreeingEntries : MOK Y_Mind_agreeingEntries 3 := ⟨wA 565 (by decide +kernel) rfl, wA 5 (by decide +kernel) rfl, by decide +kernel, by decide +kernel, by decide⟩
theorem mi_Mind_agreeingEntries : MI Y_Mind_agreeingEntries := wA 563 (by decide +kernel) rfl
theorem mv_Mind_agreeingEntries : MV Y_Mind_agreeingEntries := wA 564 (by decide +kernel) rfl
def Y_Canon_lastAgreesWithAll : Yx := (⟨R_Canon, "lastAgreesWithAll", "()Z"⟩, prog_2_method_28_code, 6, (some Jvm.ClassFile.FieldType.boolean))
theorem mo_Canon_lastAgreesWithAll : MOK Y_Canon_lastAgreesWithAll 0 := ⟨wA 573 (by decide +kernel) rfl, wA 2 (by decide +kernel) rfl, by decide +kernel, by decide +kernel, by decide⟩
theorem mi_Canon_lastAgreesWithAll : MI Y_Canon_lastAgreesWithAll := wA 571 (by decide +kernel) rfl
theorem mv_Canon_lastAgreesWithAll : MV Y_Canon_lastAgreesWithAll := wA 572 (by decide +kernel) rfl
def Y_Main_added : Yx := (⟨R_Main, "added", "()I"⟩, prog_1_method_16_code, 1, (some Jvm.ClassFile.FieldType.int))
theorem mo_Main_added : MOK Y_Main_added 0 := ⟨wA 577 (by decide +kernel) rfl, wA 1 (by decide +kernel) rfl, by decide +kernel, by decide +kernel, by decide⟩
theorem mi_Main_added : MI Y_Main_added := wA 575 (by decide +kernel) rfl
theorem mv_Main_added : MV Y_Main_added := wA 576 (by decide +kernel) rfl
def Y_Mind_addablePitches : Yx := (⟨R_Mind, "addablePitches", "(LOneTuneNine$Canon;)I"⟩, prog_4_method_4_code, 5, (some Jvm.ClassFile.FieldType.int))
theorem mo_Mind_addablePitches : MOK Y_Mind_addablePitches 1 := ⟨wA 581 (by decide +kernel) rfl, wA 5 (by decide +kernel) rfl, by decide +kernel, by decide +kernel, by decide⟩
theorem mi_Mind_addablePitches : MI Y_Mind_addablePitches := wA 579 (by decide +kernel) rfl
theorem mv_Mind_addablePitches : MV Y_Mind_addablePitches := wA 580 (by decide +kernel) rfl
def Y_Meetings_gather : Yx := (⟨R_Meetings, "gather", "(LOneTuneNine$Canon;)V"⟩, prog_3_method_2_code, 8, none)
theorem mo_Meetings_gather : MOK Y_Meetings_gather 1 := ⟨wA 587 (by decide +kernel) rfl, wA 6 (by decide +kernel) rfl, by decide +kernel, by decide +kernel, by decide⟩
theorem mi_Meetings_gather : MI Y_Meetings_gather := wA 585 (by decide +kernel) rfl
theorem mv_Meetings_gather : MV Y_Meetings_gather := wA 586 (by decide +kernel) rfl
def Y_Meetings_wayOf : Yx := (⟨R_Meetings, "wayOf", "(LOneTuneNine$Canon;III)I"⟩, prog_3_method_3_code, 8, (some Jvm.ClassFile.FieldType.int))
theorem mo_Meetings_wayOf : MOK Y_Meetings_wayOf 4 := ⟨wA 599 (by decide +kernel) rfl, wA 6 (by decide +kernel) rfl, by decide +kernel, by decide +kernel, by decide⟩
theorem ms_Meetings_wayOf : MS Y_Meetings_wayOf := wA 598 (by decide +kernel) rfl
def Y_Meetings_meet : Yx := (⟨R_Meetings, "meet", "(II)V"⟩, prog_3_method_4_code, 4, none)
theorem mo_Meetings_meet : MOK Y_Meetings_meet 2 := ⟨wA 606 (by decide +kernel) rfl, wA 6 (by decide +kernel) rfl, by decide +kernel, by decide +kernel, by decide⟩
theorem mi_Meetings_meet : MI Y_Meetings_meet := wA 605 (by decide +kernel) rfl
theorem mv_Meetings_meet : MV Y_Meetings_meet := wS 11 (by decide +kernel) rfl
def Y_Meetings_areWell : Yx := (⟨R_Meetings, "areWell", "(LOneTuneNine$Canon;)Z"⟩, prog_3_method_8_code, 3, (some Jvm.ClassFile.FieldType.boolean))
theorem mo_Meetings_areWell : MOK Y_Meetings_areWell 1 := ⟨wA 614 (by decide +kernel) rfl, wA 6 (by decide +kernel) rfl, by decide +kernel, by decide +kernel, by decide⟩
theorem mi_Meetings_areWell : MI Y_Meetings_areWell := wA 612 (by decide +kernel) rfl
theorem mv_Meetings_areWell : MV Y_Meetings_areWell := wA 613 (by decide +kernel) rfl
def Y_Meetings_isIll : Yx := (⟨R_Meetings, "isIll", "(ILOneTuneNine$Canon;)Z"⟩, prog_3_method_6_code, 9, (some Jvm.ClassFile.FieldType.boolean))
theorem mo_Meetings_isIll : MOK Y_Meetings_isIll 2 := ⟨wA 618 (by decide +kernel) rfl, wA 6 (by decide +kernel) rfl, by decide +kernel, by decide +kernel, by decide⟩
theorem mi_Meetings_isIll : MI Y_Meetings_isIll := wA 616 (by decide +kernel) rfl
theorem mv_Meetings_isIll : MV Y_Meetings_isIll := wA 617 (by decide +kernel) rfl
def Y_Main_silent : Yx := (⟨R_Main, "silent", "()I"⟩, prog_1_method_17_code, 1, (some Jvm.ClassFile.FieldType.int))
theorem mo_Main_silent : MOK Y_Main_silent 0 := ⟨wA 623 (by decide +kernel) rfl, wA 1 (by decide +kernel) rfl, by decide +kernel, by decide +kernel, by decide⟩
theorem mi_Main_silent : MI Y_Main_silent := wA 621 (by decide +kernel) rfl
theorem mv_Main_silent : MV Y_Main_silent := wA 622 (by decide +kernel) rfl
def Y_Canon_voicesInAllIlls : Yx := (⟨R_Canon, "voicesInAllIlls", "()I"⟩, prog_2_method_27_code, 6, (some Jvm.ClassFile.FieldType.int))
theorem mo_Canon_voicesInAllIlls : MOK Y_Canon_voicesInAllIlls 0 := ⟨wA 627 (by decide +kernel) rfl, wA 2 (by decide +kernel) rfl, by decide +kernel, by decide +kernel, by decide⟩
theorem mi_Canon_voicesInAllIlls : MI Y_Canon_voicesInAllIlls := wA 625 (by decide +kernel) rfl
theorem mv_Canon_voicesInAllIlls : MV Y_Canon_voicesInAllIlls := wA 626 (by decide +kernel) rfl
def Y_Main_changed : Yx := (⟨R_Main, "changed", "(I)I"⟩, prog_1_method_18_code, 2, (some Jvm.ClassFile.FieldType.int))
theorem mo_Main_changed : MOK Y_Main_changed 1 := ⟨wA 631 (by decide +kernel) rfl, wA 1 (by decide +kernel) rfl, by decide +kernel, by decide +kernel, by decide⟩
theorem mi_Main_changed : MI Y_Main_changed := wA 629 (by decide +kernel) rfl
theorem mv_Main_changed : MV Y_Main_changed := wA 630 (by decide +kernel) rfl
def Y_Mind_fewestChanges : Yx := (⟨R_Mind, "fewestChanges", "(LOneTuneNine$Canon;)I"⟩, prog_4_method_7_code, 2, (some Jvm.ClassFile.FieldType.int))
theorem mo_Mind_fewestChanges : MOK Y_Mind_fewestChanges 1 := ⟨wA 635 (by decide +kernel) rfl, wA 5 (by decide +kernel) rfl, by decide +kernel, by decide +kernel, by decide⟩
theorem mi_Mind_fewestChanges : MI Y_Mind_fewestChanges := wA 633 (by decide +kernel) rfl
theorem mv_Mind_fewestChanges : MV Y_Mind_fewestChanges := wA 634 (by decide +kernel) rfl
def Y_Mind_findMends : Yx := (⟨R_Mind, "findMends", "()V"⟩, prog_4_method_9_code, 2, none)
theorem mo_Mind_findMends : MOK Y_Mind_findMends 0 := ⟨wA 639 (by decide +kernel) rfl, wA 5 (by decide +kernel) rfl, by decide +kernel, by decide +kernel, by decide⟩
theorem mi_Mind_findMends : MI Y_Mind_findMends := wA 638 (by decide +kernel) rfl
theorem mv_Mind_findMends : MV Y_Mind_findMends := wS 12 (by decide +kernel) rfl
def Y_Meetings_size : Yx := (⟨R_Meetings, "size", "()I"⟩, prog_3_method_5_code, 1, (some Jvm.ClassFile.FieldType.int))
theorem mo_Meetings_size : MOK Y_Meetings_size 0 := ⟨wA 645 (by decide +kernel) rfl, wA 6 (by decide +kernel) rfl, by decide +kernel, by decide +kernel, by decide⟩
theorem mi_Meetings_size : MI Y_Meetings_size := wA 643 (by decide +kernel) rfl
theorem mv_Meetings_size : MV Y_Meetings_size := wA 644 (by decide +kernel) rfl
def Y_Meetings_notesOf : Yx := (⟨R_Meetings, "notesOf", "(I)I"⟩, prog_3_method_7_code, 3, (some Jvm.ClassFile.FieldType.int))
theorem mo_Meetings_notesOf : MOK Y_Meetings_notesOf 1 := ⟨wA 650 (by decide +kernel) rfl, wA 6 (by decide +kernel) rfl, by decide +kernel, by decide +kernel, by decide⟩
theorem mi_Meetings_notesOf : MI Y_Meetings_notesOf := wA 648 (by decide +kernel) rfl
theorem mv_Meetings_notesOf : MV Y_Meetings_notesOf := wA 649 (by decide +kernel) rfl
def Y_Mind_keepMends : Yx := (⟨R_Mind, "keepMends", "(I)V"⟩, prog_4_method_10_code, 3, none)
theorem mo_Mind_keepMends : MOK Y_Mind_keepMends 1 := ⟨wA 654 (by decide +kernel) rfl, wA 5 (by decide +kernel) rfl, by decide +kernel, by decide +kernel, by decide⟩
theorem mi_Mind_keepMends : MI Y_Mind_keepMends := wA 653 (by decide +kernel) rfl
theorem mv_Mind_keepMends : MV Y_Mind_keepMends := wS 13 (by decide +kernel) rfl
def Y_Mind_firstSingle : Yx := (⟨R_Mind, "firstSingle", "()I"⟩, prog_4_method_13_code, 3, (some Jvm.ClassFile.FieldType.int))
theorem mo_Mind_firstSingle : MOK Y_Mind_firstSingle 0 := ⟨wA 661 (by decide +kernel) rfl, wA 5 (by decide +kernel) rfl, by decide +kernel, by decide +kernel, by decide⟩
theorem mi_Mind_firstSingle : MI Y_Mind_firstSingle := wA 660 (by decide +kernel) rfl
theorem mv_Mind_firstSingle : MV Y_Mind_firstSingle := wS 14 (by decide +kernel) rfl
def Y_Mind_canMend : Yx := (⟨R_Mind, "canMend", "(II)Z"⟩, prog_4_method_11_code, 3, (some Jvm.ClassFile.FieldType.boolean))
theorem mo_Mind_canMend : MOK Y_Mind_canMend 2 := ⟨wA 665 (by decide +kernel) rfl, wA 5 (by decide +kernel) rfl, by decide +kernel, by decide +kernel, by decide⟩
theorem mi_Mind_canMend : MI Y_Mind_canMend := wA 664 (by decide +kernel) rfl
theorem mv_Mind_canMend : MV Y_Mind_canMend := wS 15 (by decide +kernel) rfl
def Y_Mind_mendingPitch : Yx := (⟨R_Mind, "mendingPitch", "(I)I"⟩, prog_4_method_12_code, 5, (some Jvm.ClassFile.FieldType.int))
theorem mo_Mind_mendingPitch : MOK Y_Mind_mendingPitch 1 := ⟨wA 669 (by decide +kernel) rfl, wA 5 (by decide +kernel) rfl, by decide +kernel, by decide +kernel, by decide⟩
theorem mi_Mind_mendingPitch : MI Y_Mind_mendingPitch := wA 668 (by decide +kernel) rfl
theorem mv_Mind_mendingPitch : MV Y_Mind_mendingPitch := wS 16 (by decide +kernel) rfl
def Y_Mind_hasPair : Yx := (⟨R_Mind, "hasPair", "()Z"⟩, prog_4_method_14_code, 5, (some Jvm.ClassFile.FieldType.boolean))
theorem mo_Mind_hasPair : MOK Y_Mind_hasPair 0 := ⟨wA 674 (by decide +kernel) rfl, wA 5 (by decide +kernel) rfl, by decide +kernel, by decide +kernel, by decide⟩
theorem mi_Mind_hasPair : MI Y_Mind_hasPair := wA 673 (by decide +kernel) rfl
theorem mv_Mind_hasPair : MV Y_Mind_hasPair := wS 17 (by decide +kernel) rfl
def Y_Mind_firstChange : Yx := (⟨R_Mind, "firstChange", "(LOneTuneNine$Canon;)I"⟩, prog_4_method_8_code, 2, (some Jvm.ClassFile.FieldType.int))
theorem mo_Mind_firstChange : MOK Y_Mind_firstChange 1 := ⟨wA 678 (by decide +kernel) rfl, wA 5 (by decide +kernel) rfl, by decide +kernel, by decide +kernel, by decide⟩
theorem mi_Mind_firstChange : MI Y_Mind_firstChange := wA 676 (by decide +kernel) rfl
theorem mv_Mind_firstChange : MV Y_Mind_firstChange := wA 677 (by decide +kernel) rfl
def Y_Main_better : Yx := (⟨R_Main, "better", "()I"⟩, prog_1_method_19_code, 1, (some Jvm.ClassFile.FieldType.int))
theorem mo_Main_better : MOK Y_Main_better 0 := ⟨wA 682 (by decide +kernel) rfl, wA 1 (by decide +kernel) rfl, by decide +kernel, by decide +kernel, by decide⟩
theorem mi_Main_better : MI Y_Main_better := wA 680 (by decide +kernel) rfl
theorem mv_Main_better : MV Y_Main_better := wA 681 (by decide +kernel) rfl
def Y_Mind_leastIlls : Yx := (⟨R_Mind, "leastIlls", "(LOneTuneNine$Canon;)I"⟩, prog_4_method_5_code, 6, (some Jvm.ClassFile.FieldType.int))
theorem mo_Mind_leastIlls : MOK Y_Mind_leastIlls 1 := ⟨wA 686 (by decide +kernel) rfl, wA 5 (by decide +kernel) rfl, by decide +kernel, by decide +kernel, by decide⟩
theorem mi_Mind_leastIlls : MI Y_Mind_leastIlls := wA 684 (by decide +kernel) rfl
theorem mv_Mind_leastIlls : MV Y_Mind_leastIlls := wA 685 (by decide +kernel) rfl
def Y_Meetings_ills : Yx := (⟨R_Meetings, "ills", "(LOneTuneNine$Canon;)I"⟩, prog_3_method_9_code, 4, (some Jvm.ClassFile.FieldType.int))
theorem mo_Meetings_ills : MOK Y_Meetings_ills 1 := ⟨wA 690 (by decide +kernel) rfl, wA 6 (by decide +kernel) rfl, by decide +kernel, by decide +kernel, by decide⟩
theorem mi_Meetings_ills : MI Y_Meetings_ills := wA 688 (by decide +kernel) rfl
theorem mv_Meetings_ills : MV Y_Meetings_ills := wA 689 (by decide +kernel) rfl
def Y_Main_mirror : Yx := (⟨R_Main, "mirror", "()I"⟩, prog_1_method_20_code, 1, (some Jvm.ClassFile.FieldType.int))
theorem mo_Main_mirror : MOK Y_Main_mirror 0 := ⟨wA 695 (by decide +kernel) rfl, wA 1 (by decide +kernel) rfl, by decide +kernel, by decide +kernel, by decide⟩
theorem mi_Main_mirror : MI Y_Main_mirror := wA 693 (by decide +kernel) rfl
theorem mv_Main_mirror : MV Y_Main_mirror := wA 694 (by decide +kernel) rfl
def Y_Tune_isMirror : Yx := (⟨R_Tune, "isMirror", "()Z"⟩, prog_7_method_11_code, 3, (some Jvm.ClassFile.FieldType.boolean))
theorem mo_Tune_isMirror : MOK Y_Tune_isMirror 0 := ⟨wA 699 (by decide +kernel) rfl, wA 3 (by decide +kernel) rfl, by decide +kernel, by decide +kernel, by decide⟩
theorem mi_Tune_isMirror : MI Y_Tune_isMirror := wA 697 (by decide +kernel) rfl
theorem mv_Tune_isMirror : MV Y_Tune_isMirror := wA 698 (by decide +kernel) rfl
def Y_Tune_plainAt : Yx := (⟨R_Tune, "plainAt", "(I)I"⟩, prog_7_method_8_code, 2, (some Jvm.ClassFile.FieldType.int))
theorem mo_Tune_plainAt : MOK Y_Tune_plainAt 1 := ⟨wA 703 (by decide +kernel) rfl, wA 3 (by decide +kernel) rfl, by decide +kernel, by decide +kernel, by decide⟩
theorem mi_Tune_plainAt : MI Y_Tune_plainAt := wA 701 (by decide +kernel) rfl
theorem mv_Tune_plainAt : MV Y_Tune_plainAt := wA 702 (by decide +kernel) rfl
def Y_Main_agreeing : Yx := (⟨R_Main, "agreeing", "(II)J"⟩, prog_1_method_21_code, 4, (some Jvm.ClassFile.FieldType.long))
theorem mo_Main_agreeing : MOK Y_Main_agreeing 2 := ⟨wA 707 (by decide +kernel) rfl, wA 1 (by decide +kernel) rfl, by decide +kernel, by decide +kernel, by decide⟩
theorem mi_Main_agreeing : MI Y_Main_agreeing := wA 705 (by decide +kernel) rfl
theorem mv_Main_agreeing : MV Y_Main_agreeing := wA 706 (by decide +kernel) rfl
def Y_Walks_tunesAgreeing : Yx := (⟨R_Walks, "tunesAgreeing", "(III)J"⟩, prog_8_method_2_code, 7, (some Jvm.ClassFile.FieldType.long))
theorem mo_Walks_tunesAgreeing : MOK Y_Walks_tunesAgreeing 3 := ⟨wA 714 (by decide +kernel) rfl, wA 7 (by decide +kernel) rfl, by decide +kernel, by decide +kernel, by decide⟩
theorem mi_Walks_tunesAgreeing : MI Y_Walks_tunesAgreeing := wA 712 (by decide +kernel) rfl
theorem mv_Walks_tunesAgreeing : MV Y_Walks_tunesAgreeing := wA 713 (by decide +kernel) rfl
def Y_Walks_chainsOf : Yx := (⟨R_Walks, "chainsOf", "(II)J"⟩, prog_8_method_3_code, 6, (some Jvm.ClassFile.FieldType.long))
theorem mo_Walks_chainsOf : MOK Y_Walks_chainsOf 2 := ⟨wA 718 (by decide +kernel) rfl, wA 7 (by decide +kernel) rfl, by decide +kernel, by decide +kernel, by decide⟩
theorem mi_Walks_chainsOf : MI Y_Walks_chainsOf := wA 717 (by decide +kernel) rfl
theorem mv_Walks_chainsOf : MV Y_Walks_chainsOf := wS 18 (by decide +kernel) rfl
def Y_Walks_lengthen : Yx := (⟨R_Walks, "lengthen", "(I)V"⟩, prog_8_method_4_code, 4, none)
theorem mo_Walks_lengthen : MOK Y_Walks_lengthen 1 := ⟨wA 722 (by decide +kernel) rfl, wA 7 (by decide +kernel) rfl, by decide +kernel, by decide +kernel, by decide⟩
theorem mi_Walks_lengthen : MI Y_Walks_lengthen := wA 721 (by decide +kernel) rfl
theorem mv_Walks_lengthen : MV Y_Walks_lengthen := wS 19 (by decide +kernel) rfl
def Y_Main_range : Yx := (⟨R_Main, "range", "(II)I"⟩, prog_1_method_22_code, 4, (some Jvm.ClassFile.FieldType.int))
theorem mo_Main_range : MOK Y_Main_range 2 := ⟨wA 727 (by decide +kernel) rfl, wA 1 (by decide +kernel) rfl, by decide +kernel, by decide +kernel, by decide⟩
theorem mi_Main_range : MI Y_Main_range := wA 725 (by decide +kernel) rfl
theorem mv_Main_range : MV Y_Main_range := wA 726 (by decide +kernel) rfl
def Y_Canon_farthestSound : Yx := (⟨R_Canon, "farthestSound", "(IZ)I"⟩, prog_2_method_29_code, 7, (some Jvm.ClassFile.FieldType.int))
theorem mo_Canon_farthestSound : MOK Y_Canon_farthestSound 2 := ⟨wA 731 (by decide +kernel) rfl, wA 2 (by decide +kernel) rfl, by decide +kernel, by decide +kernel, by decide⟩
theorem mi_Canon_farthestSound : MI Y_Canon_farthestSound := wA 729 (by decide +kernel) rfl
theorem mv_Canon_farthestSound : MV Y_Canon_farthestSound := wA 730 (by decide +kernel) rfl
def Y_Main_stop : Yx := (⟨R_Main, "stop", "(I)I"⟩, prog_1_method_23_code, 3, (some Jvm.ClassFile.FieldType.int))
theorem mo_Main_stop : MOK Y_Main_stop 1 := ⟨wA 736 (by decide +kernel) rfl, wA 1 (by decide +kernel) rfl, by decide +kernel, by decide +kernel, by decide⟩
theorem mi_Main_stop : MI Y_Main_stop := wA 734 (by decide +kernel) rfl
theorem mv_Main_stop : MV Y_Main_stop := wA 735 (by decide +kernel) rfl
def Y_Canon_stillIfStoppedAt : Yx := (⟨R_Canon, "stillIfStoppedAt", "(I)I"⟩, prog_2_method_30_code, 7, (some Jvm.ClassFile.FieldType.int))
theorem mo_Canon_stillIfStoppedAt : MOK Y_Canon_stillIfStoppedAt 1 := ⟨wA 740 (by decide +kernel) rfl, wA 2 (by decide +kernel) rfl, by decide +kernel, by decide +kernel, by decide⟩
theorem mi_Canon_stillIfStoppedAt : MI Y_Canon_stillIfStoppedAt := wA 738 (by decide +kernel) rfl
theorem mv_Canon_stillIfStoppedAt : MV Y_Canon_stillIfStoppedAt := wA 739 (by decide +kernel) rfl
def Y_Main_unison : Yx := (⟨R_Main, "unison", "()I"⟩, prog_1_method_24_code, 1, (some Jvm.ClassFile.FieldType.int))
theorem mo_Main_unison : MOK Y_Main_unison 0 := ⟨wA 744 (by decide +kernel) rfl, wA 1 (by decide +kernel) rfl, by decide +kernel, by decide +kernel, by decide⟩
theorem mi_Main_unison : MI Y_Main_unison := wA 742 (by decide +kernel) rfl
theorem mv_Main_unison : MV Y_Main_unison := wA 743 (by decide +kernel) rfl
def Y_Canon_unisonBeats : Yx := (⟨R_Canon, "unisonBeats", "()I"⟩, prog_2_method_31_code, 4, (some Jvm.ClassFile.FieldType.int))
theorem mo_Canon_unisonBeats : MOK Y_Canon_unisonBeats 0 := ⟨wA 748 (by decide +kernel) rfl, wA 2 (by decide +kernel) rfl, by decide +kernel, by decide +kernel, by decide⟩
theorem mi_Canon_unisonBeats : MI Y_Canon_unisonBeats := wA 746 (by decide +kernel) rfl
theorem mv_Canon_unisonBeats : MV Y_Canon_unisonBeats := wA 747 (by decide +kernel) rfl
def Y_Canon_isUnison : Yx := (⟨R_Canon, "isUnison", "()Z"⟩, prog_2_method_32_code, 3, (some Jvm.ClassFile.FieldType.boolean))
theorem mo_Canon_isUnison : MOK Y_Canon_isUnison 0 := ⟨wA 752 (by decide +kernel) rfl, wA 2 (by decide +kernel) rfl, by decide +kernel, by decide +kernel, by decide⟩
theorem mi_Canon_isUnison : MI Y_Canon_isUnison := wA 751 (by decide +kernel) rfl
theorem mv_Canon_isUnison : MV Y_Canon_isUnison := wS 20 (by decide +kernel) rfl
def Y_Main_row : Yx := (⟨R_Main, "row", "(I)I"⟩, prog_1_method_25_code, 3, (some Jvm.ClassFile.FieldType.int))
theorem mo_Main_row : MOK Y_Main_row 1 := ⟨wA 756 (by decide +kernel) rfl, wA 1 (by decide +kernel) rfl, by decide +kernel, by decide +kernel, by decide⟩
theorem mi_Main_row : MI Y_Main_row := wA 754 (by decide +kernel) rfl
theorem mv_Main_row : MV Y_Main_row := wA 755 (by decide +kernel) rfl
def Y_Main_who : Yx := (⟨R_Main, "who", "(I)I"⟩, prog_1_method_26_code, 5, (some Jvm.ClassFile.FieldType.int))
theorem mo_Main_who : MOK Y_Main_who 1 := ⟨wA 761 (by decide +kernel) rfl, wA 1 (by decide +kernel) rfl, by decide +kernel, by decide +kernel, by decide⟩
theorem mi_Main_who : MI Y_Main_who := wA 759 (by decide +kernel) rfl
theorem mv_Main_who : MV Y_Main_who := wA 760 (by decide +kernel) rfl
def Y_Canon_firstNotHeard : Yx := (⟨R_Canon, "firstNotHeard", "(IILOneTuneNine$Row;)I"⟩, prog_2_method_33_code, 7, (some Jvm.ClassFile.FieldType.int))
theorem mo_Canon_firstNotHeard : MOK Y_Canon_firstNotHeard 3 := ⟨wA 766 (by decide +kernel) rfl, wA 2 (by decide +kernel) rfl, by decide +kernel, by decide +kernel, by decide⟩
theorem mi_Canon_firstNotHeard : MI Y_Canon_firstNotHeard := wA 764 (by decide +kernel) rfl
theorem mv_Canon_firstNotHeard : MV Y_Canon_firstNotHeard := wA 765 (by decide +kernel) rfl
def Y_Main_judge : Yx := (⟨R_Main, "judge", "(II)I"⟩, prog_1_method_27_code, 5, (some Jvm.ClassFile.FieldType.int))
theorem mo_Main_judge : MOK Y_Main_judge 2 := ⟨wA 770 (by decide +kernel) rfl, wA 1 (by decide +kernel) rfl, by decide +kernel, by decide +kernel, by decide⟩
theorem mi_Main_judge : MI Y_Main_judge := wA 768 (by decide +kernel) rfl
theorem mv_Main_judge : MV Y_Main_judge := wA 769 (by decide +kernel) rfl
def Y_Main_seeds : Yx := (⟨R_Main, "seeds", "(II)I"⟩, prog_1_method_28_code, 4, (some Jvm.ClassFile.FieldType.int))
theorem mo_Main_seeds : MOK Y_Main_seeds 2 := ⟨wA 775 (by decide +kernel) rfl, wA 1 (by decide +kernel) rfl, by decide +kernel, by decide +kernel, by decide⟩
theorem mi_Main_seeds : MI Y_Main_seeds := wA 773 (by decide +kernel) rfl
theorem mv_Main_seeds : MV Y_Main_seeds := wA 774 (by decide +kernel) rfl
def Y_Mind_wellDraws : Yx := (⟨R_Mind, "wellDraws", "(LOneTuneNine$Canon;II)I"⟩, prog_4_method_6_code, 8, (some Jvm.ClassFile.FieldType.int))
theorem mo_Mind_wellDraws : MOK Y_Mind_wellDraws 3 := ⟨wA 779 (by decide +kernel) rfl, wA 5 (by decide +kernel) rfl, by decide +kernel, by decide +kernel, by decide⟩
theorem mi_Mind_wellDraws : MI Y_Mind_wellDraws := wA 777 (by decide +kernel) rfl
theorem mv_Mind_wellDraws : MV Y_Mind_wellDraws := wA 778 (by decide +kernel) rfl
def Y_Main_image : Yx := (⟨R_Main, "image", "()I"⟩, prog_1_method_29_code, 1, (some Jvm.ClassFile.FieldType.int))
theorem mo_Main_image : MOK Y_Main_image 0 := ⟨wA 786 (by decide +kernel) rfl, wA 1 (by decide +kernel) rfl, by decide +kernel, by decide +kernel, by decide⟩
theorem mi_Main_image : MI Y_Main_image := wA 784 (by decide +kernel) rfl
theorem mv_Main_image : MV Y_Main_image := wA 785 (by decide +kernel) rfl
def Y_Main_on : Yx := (⟨R_Main, "on", "()I"⟩, prog_1_method_30_code, 1, (some Jvm.ClassFile.FieldType.int))
theorem mo_Main_on : MOK Y_Main_on 0 := ⟨wA 791 (by decide +kernel) rfl, wA 1 (by decide +kernel) rfl, by decide +kernel, by decide +kernel, by decide⟩
theorem mi_Main_on : MI Y_Main_on := wA 789 (by decide +kernel) rfl
theorem mv_Main_on : MV Y_Main_on := wA 790 (by decide +kernel) rfl
def Y_Main_count : Yx := (⟨R_Main, "count", "(I)I"⟩, prog_1_method_31_code, 2, (some Jvm.ClassFile.FieldType.int))
theorem mo_Main_count : MOK Y_Main_count 1 := ⟨wA 795 (by decide +kernel) rfl, wA 1 (by decide +kernel) rfl, by decide +kernel, by decide +kernel, by decide⟩
theorem mi_Main_count : MI Y_Main_count := wA 793 (by decide +kernel) rfl
theorem mv_Main_count : MV Y_Main_count := wA 794 (by decide +kernel) rfl
def Y_Model_init : Yx := (⟨R_Model, "<init>", "()V"⟩, prog_10_method_2_code, 1, none)
theorem mo_Model_init : MOK Y_Model_init 0 := ⟨wA 801 (by decide +kernel) rfl, wA 9 (by decide +kernel) rfl, by decide +kernel, by decide +kernel, by decide⟩
theorem mi_Model_init : MI Y_Model_init := wA 800 (by decide +kernel) rfl
def Y_Model_image : Yx := (⟨R_Model, "image", "()I"⟩, prog_10_method_4_code, 1, (some Jvm.ClassFile.FieldType.int))
theorem mo_Model_image : MOK Y_Model_image 0 := ⟨wA 859 (by decide +kernel) rfl, wA 9 (by decide +kernel) rfl, by decide +kernel, by decide +kernel, by decide⟩
theorem mi_Model_image : MI Y_Model_image := wA 857 (by decide +kernel) rfl
theorem mv_Model_image : MV Y_Model_image := wA 858 (by decide +kernel) rfl
def Y_Model_move : Yx := (⟨R_Model, "move", "([I[I)V"⟩, prog_10_method_3_code, 3, none)
theorem mo_Model_move : MOK Y_Model_move 2 := ⟨wA 862 (by decide +kernel) rfl, wA 9 (by decide +kernel) rfl, by decide +kernel, by decide +kernel, by decide⟩
theorem ms_Model_move : MS Y_Model_move := wA 861 (by decide +kernel) rfl
def Y_Model_on : Yx := (⟨R_Model, "on", "()I"⟩, prog_10_method_5_code, 1, (some Jvm.ClassFile.FieldType.int))
theorem mo_Model_on : MOK Y_Model_on 0 := ⟨wA 866 (by decide +kernel) rfl, wA 9 (by decide +kernel) rfl, by decide +kernel, by decide +kernel, by decide⟩
theorem mi_Model_on : MI Y_Model_on := wA 864 (by decide +kernel) rfl
theorem mv_Model_on : MV Y_Model_on := wA 865 (by decide +kernel) rfl
def Y_Model_no : Yx := (⟨R_Model, "no", "(I)I"⟩, prog_10_method_1_code, 2, (some Jvm.ClassFile.FieldType.int))
theorem mo_Model_no : MOK Y_Model_no 1 := ⟨wA 870 (by decide +kernel) rfl, wA 9 (by decide +kernel) rfl, by decide +kernel, by decide +kernel, by decide⟩
theorem mi_Model_no : MI Y_Model_no := wA 869 (by decide +kernel) rfl
theorem mv_Model_no : MV Y_Model_no := wS 21 (by decide +kernel) rfl
def Y_Model_letter : Yx := (⟨R_Model, "letter", "(I)I"⟩, prog_10_method_6_code, 2, (some Jvm.ClassFile.FieldType.int))
theorem mo_Model_letter : MOK Y_Model_letter 1 := ⟨wA 874 (by decide +kernel) rfl, wA 9 (by decide +kernel) rfl, by decide +kernel, by decide +kernel, by decide⟩
theorem mi_Model_letter : MI Y_Model_letter := wA 872 (by decide +kernel) rfl
theorem mv_Model_letter : MV Y_Model_letter := wA 873 (by decide +kernel) rfl
def Y_Model_canon : Yx := (⟨R_Model, "canon", "()I"⟩, prog_10_method_14_code, 2, (some Jvm.ClassFile.FieldType.int))
theorem mo_Model_canon : MOK Y_Model_canon 0 := ⟨wA 878 (by decide +kernel) rfl, wA 9 (by decide +kernel) rfl, by decide +kernel, by decide +kernel, by decide⟩
theorem mi_Model_canon : MI Y_Model_canon := wA 876 (by decide +kernel) rfl
theorem mv_Model_canon : MV Y_Model_canon := wA 877 (by decide +kernel) rfl
def Y_Model_read : Yx := (⟨R_Model, "read", "()I"⟩, prog_10_method_13_code, 5, (some Jvm.ClassFile.FieldType.int))
theorem mo_Model_read : MOK Y_Model_read 0 := ⟨wA 882 (by decide +kernel) rfl, wA 9 (by decide +kernel) rfl, by decide +kernel, by decide +kernel, by decide⟩
theorem mi_Model_read : MI Y_Model_read := wA 881 (by decide +kernel) rfl
theorem mv_Model_read : MV Y_Model_read := wS 22 (by decide +kernel) rfl
def Y_Model_statement : Yx := (⟨R_Model, "statement", "()V"⟩, prog_10_method_10_code, 1, none)
theorem mo_Model_statement : MOK Y_Model_statement 0 := ⟨wA 886 (by decide +kernel) rfl, wA 9 (by decide +kernel) rfl, by decide +kernel, by decide +kernel, by decide⟩
theorem mi_Model_statement : MI Y_Model_statement := wA 885 (by decide +kernel) rfl
theorem mv_Model_statement : MV Y_Model_statement := wS 23 (by decide +kernel) rfl
def Y_Model_oneOf : Yx := (⟨R_Model, "oneOf", "([C)I"⟩, prog_10_method_8_code, 4, (some Jvm.ClassFile.FieldType.int))
theorem mo_Model_oneOf : MOK Y_Model_oneOf 1 := ⟨wA 890 (by decide +kernel) rfl, wA 9 (by decide +kernel) rfl, by decide +kernel, by decide +kernel, by decide⟩
theorem mi_Model_oneOf : MI Y_Model_oneOf := wA 889 (by decide +kernel) rfl
theorem mv_Model_oneOf : MV Y_Model_oneOf := wS 24 (by decide +kernel) rfl
def Y_Model_figures : Yx := (⟨R_Model, "figures", "(I)I"⟩, prog_10_method_9_code, 4, (some Jvm.ClassFile.FieldType.int))
theorem mo_Model_figures : MOK Y_Model_figures 1 := ⟨wA 894 (by decide +kernel) rfl, wA 9 (by decide +kernel) rfl, by decide +kernel, by decide +kernel, by decide⟩
theorem mi_Model_figures : MI Y_Model_figures := wA 893 (by decide +kernel) rfl
theorem mv_Model_figures : MV Y_Model_figures := wS 25 (by decide +kernel) rfl
def Y_Model_expect : Yx := (⟨R_Model, "expect", "(C)V"⟩, prog_10_method_7_code, 2, none)
theorem mo_Model_expect : MOK Y_Model_expect 1 := ⟨wA 898 (by decide +kernel) rfl, wA 9 (by decide +kernel) rfl, by decide +kernel, by decide +kernel, by decide⟩
theorem mi_Model_expect : MI Y_Model_expect := wA 897 (by decide +kernel) rfl
theorem mv_Model_expect : MV Y_Model_expect := wS 26 (by decide +kernel) rfl
def Y_Model_isAsItMustBe : Yx := (⟨R_Model, "isAsItMustBe", "(II)Z"⟩, prog_10_method_11_code, 3, (some Jvm.ClassFile.FieldType.boolean))
theorem mo_Model_isAsItMustBe : MOK Y_Model_isAsItMustBe 2 := ⟨wA 902 (by decide +kernel) rfl, wA 9 (by decide +kernel) rfl, by decide +kernel, by decide +kernel, by decide⟩
theorem mi_Model_isAsItMustBe : MI Y_Model_isAsItMustBe := wA 901 (by decide +kernel) rfl
theorem mv_Model_isAsItMustBe : MV Y_Model_isAsItMustBe := wS 27 (by decide +kernel) rfl
def Y_Model_come : Yx := (⟨R_Model, "come", "()V"⟩, prog_10_method_12_code, 1, none)
theorem mo_Model_come : MOK Y_Model_come 0 := ⟨wA 906 (by decide +kernel) rfl, wA 9 (by decide +kernel) rfl, by decide +kernel, by decide +kernel, by decide⟩
theorem mi_Model_come : MI Y_Model_come := wA 905 (by decide +kernel) rfl
theorem mv_Model_come : MV Y_Model_come := wS 28 (by decide +kernel) rfl
def Y_Model_note : Yx := (⟨R_Model, "note", "(II)I"⟩, prog_10_method_30_code, 3, (some Jvm.ClassFile.FieldType.int))
theorem mo_Model_note : MOK Y_Model_note 2 := ⟨wA 910 (by decide +kernel) rfl, wA 9 (by decide +kernel) rfl, by decide +kernel, by decide +kernel, by decide⟩
theorem mi_Model_note : MI Y_Model_note := wA 908 (by decide +kernel) rfl
theorem mv_Model_note : MV Y_Model_note := wA 909 (by decide +kernel) rfl
def Y_Model_isNoNote : Yx := (⟨R_Model, "isNoNote", "(I)Z"⟩, prog_10_method_28_code, 2, (some Jvm.ClassFile.FieldType.boolean))
theorem mo_Model_isNoNote : MOK Y_Model_isNoNote 1 := ⟨wA 914 (by decide +kernel) rfl, wA 9 (by decide +kernel) rfl, by decide +kernel, by decide +kernel, by decide⟩
theorem mi_Model_isNoNote : MI Y_Model_isNoNote := wA 913 (by decide +kernel) rfl
theorem mv_Model_isNoNote : MV Y_Model_isNoNote := wS 29 (by decide +kernel) rfl
def Y_Model_firstBeat : Yx := (⟨R_Model, "firstBeat", "(I)I"⟩, prog_10_method_15_code, 4, (some Jvm.ClassFile.FieldType.int))
theorem mo_Model_firstBeat : MOK Y_Model_firstBeat 1 := ⟨wA 918 (by decide +kernel) rfl, wA 9 (by decide +kernel) rfl, by decide +kernel, by decide +kernel, by decide⟩
theorem mi_Model_firstBeat : MI Y_Model_firstBeat := wA 917 (by decide +kernel) rfl
theorem mv_Model_firstBeat : MV Y_Model_firstBeat := wS 30 (by decide +kernel) rfl
def Y_Model_voice : Yx := (⟨R_Model, "voice", "(II)I"⟩, prog_10_method_31_code, 3, (some Jvm.ClassFile.FieldType.int))
theorem mo_Model_voice : MOK Y_Model_voice 2 := ⟨wA 922 (by decide +kernel) rfl, wA 9 (by decide +kernel) rfl, by decide +kernel, by decide +kernel, by decide⟩
theorem mi_Model_voice : MI Y_Model_voice := wA 920 (by decide +kernel) rfl
theorem mv_Model_voice : MV Y_Model_voice := wA 921 (by decide +kernel) rfl
def Y_Model_isNoVoice : Yx := (⟨R_Model, "isNoVoice", "(I)Z"⟩, prog_10_method_29_code, 2, (some Jvm.ClassFile.FieldType.boolean))
theorem mo_Model_isNoVoice : MOK Y_Model_isNoVoice 1 := ⟨wA 926 (by decide +kernel) rfl, wA 9 (by decide +kernel) rfl, by decide +kernel, by decide +kernel, by decide⟩
theorem mi_Model_isNoVoice : MI Y_Model_isNoVoice := wA 925 (by decide +kernel) rfl
theorem mv_Model_isNoVoice : MV Y_Model_isNoVoice := wS 31 (by decide +kernel) rfl
def Y_Model_roundOf : Yx := (⟨R_Model, "roundOf", "(I)I"⟩, prog_10_method_18_code, 2, (some Jvm.ClassFile.FieldType.int))
theorem mo_Model_roundOf : MOK Y_Model_roundOf 1 := ⟨wA 930 (by decide +kernel) rfl, wA 9 (by decide +kernel) rfl, by decide +kernel, by decide +kernel, by decide⟩
theorem mi_Model_roundOf : MI Y_Model_roundOf := wA 929 (by decide +kernel) rfl
theorem mv_Model_roundOf : MV Y_Model_roundOf := wS 32 (by decide +kernel) rfl
def Y_Model_beats : Yx := (⟨R_Model, "beats", "()I"⟩, prog_10_method_16_code, 1, (some Jvm.ClassFile.FieldType.int))
theorem mo_Model_beats : MOK Y_Model_beats 0 := ⟨wA 934 (by decide +kernel) rfl, wA 9 (by decide +kernel) rfl, by decide +kernel, by decide +kernel, by decide⟩
theorem mi_Model_beats : MI Y_Model_beats := wA 933 (by decide +kernel) rfl
theorem mv_Model_beats : MV Y_Model_beats := wS 33 (by decide +kernel) rfl
def Y_Model_endOf : Yx := (⟨R_Model, "endOf", "(I)I"⟩, prog_10_method_22_code, 2, (some Jvm.ClassFile.FieldType.int))
theorem mo_Model_endOf : MOK Y_Model_endOf 1 := ⟨wA 938 (by decide +kernel) rfl, wA 9 (by decide +kernel) rfl, by decide +kernel, by decide +kernel, by decide⟩
theorem mi_Model_endOf : MI Y_Model_endOf := wA 937 (by decide +kernel) rfl
theorem mv_Model_endOf : MV Y_Model_endOf := wS 34 (by decide +kernel) rfl
def Y_Model_pitch : Yx := (⟨R_Model, "pitch", "(II)I"⟩, prog_10_method_33_code, 3, (some Jvm.ClassFile.FieldType.int))
theorem mo_Model_pitch : MOK Y_Model_pitch 2 := ⟨wA 942 (by decide +kernel) rfl, wA 9 (by decide +kernel) rfl, by decide +kernel, by decide +kernel, by decide⟩
theorem mi_Model_pitch : MI Y_Model_pitch := wA 940 (by decide +kernel) rfl
theorem mv_Model_pitch : MV Y_Model_pitch := wA 941 (by decide +kernel) rfl
def Y_Model_become : Yx := (⟨R_Model, "become", "(IIII)I"⟩, prog_10_method_32_code, 6, (some Jvm.ClassFile.FieldType.int))
theorem mo_Model_become : MOK Y_Model_become 4 := ⟨wA 946 (by decide +kernel) rfl, wA 9 (by decide +kernel) rfl, by decide +kernel, by decide +kernel, by decide⟩
theorem mi_Model_become : MI Y_Model_become := wA 945 (by decide +kernel) rfl
theorem mv_Model_become : MV Y_Model_become := wS 35 (by decide +kernel) rfl
def Y_Model_enter : Yx := (⟨R_Model, "enter", "(II)I"⟩, prog_10_method_34_code, 3, (some Jvm.ClassFile.FieldType.int))
theorem mo_Model_enter : MOK Y_Model_enter 2 := ⟨wA 950 (by decide +kernel) rfl, wA 9 (by decide +kernel) rfl, by decide +kernel, by decide +kernel, by decide⟩
theorem mi_Model_enter : MI Y_Model_enter := wA 948 (by decide +kernel) rfl
theorem mv_Model_enter : MV Y_Model_enter := wA 949 (by decide +kernel) rfl
def Y_Model_rounds : Yx := (⟨R_Model, "rounds", "(I)I"⟩, prog_10_method_35_code, 2, (some Jvm.ClassFile.FieldType.int))
theorem mo_Model_rounds : MOK Y_Model_rounds 1 := ⟨wA 954 (by decide +kernel) rfl, wA 9 (by decide +kernel) rfl, by decide +kernel, by decide +kernel, by decide⟩
theorem mi_Model_rounds : MI Y_Model_rounds := wA 952 (by decide +kernel) rfl
theorem mv_Model_rounds : MV Y_Model_rounds := wA 953 (by decide +kernel) rfl
def Y_Model_step : Yx := (⟨R_Model, "step", "(I)I"⟩, prog_10_method_36_code, 2, (some Jvm.ClassFile.FieldType.int))
theorem mo_Model_step : MOK Y_Model_step 1 := ⟨wA 958 (by decide +kernel) rfl, wA 9 (by decide +kernel) rfl, by decide +kernel, by decide +kernel, by decide⟩
theorem mi_Model_step : MI Y_Model_step := wA 956 (by decide +kernel) rfl
theorem mv_Model_step : MV Y_Model_step := wA 957 (by decide +kernel) rfl
def Y_Model_law : Yx := (⟨R_Model, "law", "(I)I"⟩, prog_10_method_37_code, 2, (some Jvm.ClassFile.FieldType.int))
theorem mo_Model_law : MOK Y_Model_law 1 := ⟨wA 962 (by decide +kernel) rfl, wA 9 (by decide +kernel) rfl, by decide +kernel, by decide +kernel, by decide⟩
theorem mi_Model_law : MI Y_Model_law := wA 960 (by decide +kernel) rfl
theorem mv_Model_law : MV Y_Model_law := wA 961 (by decide +kernel) rfl
def Y_Model_sound : Yx := (⟨R_Model, "sound", "(II)I"⟩, prog_10_method_39_code, 3, (some Jvm.ClassFile.FieldType.int))
theorem mo_Model_sound : MOK Y_Model_sound 2 := ⟨wA 966 (by decide +kernel) rfl, wA 9 (by decide +kernel) rfl, by decide +kernel, by decide +kernel, by decide⟩
theorem mi_Model_sound : MI Y_Model_sound := wA 964 (by decide +kernel) rfl
theorem mv_Model_sound : MV Y_Model_sound := wA 965 (by decide +kernel) rfl
def Y_Model_isWrong : Yx := (⟨R_Model, "isWrong", "(III)I"⟩, prog_10_method_38_code, 3, (some Jvm.ClassFile.FieldType.int))
theorem mo_Model_isWrong : MOK Y_Model_isWrong 3 := ⟨wA 970 (by decide +kernel) rfl, wA 9 (by decide +kernel) rfl, by decide +kernel, by decide +kernel, by decide⟩
theorem ms_Model_isWrong : MS Y_Model_isWrong := wA 969 (by decide +kernel) rfl
def Y_Model_soundAt : Yx := (⟨R_Model, "soundAt", "(II)I"⟩, prog_10_method_21_code, 3, (some Jvm.ClassFile.FieldType.int))
theorem mo_Model_soundAt : MOK Y_Model_soundAt 2 := ⟨wA 974 (by decide +kernel) rfl, wA 9 (by decide +kernel) rfl, by decide +kernel, by decide +kernel, by decide⟩
theorem mi_Model_soundAt : MI Y_Model_soundAt := wA 973 (by decide +kernel) rfl
theorem mv_Model_soundAt : MV Y_Model_soundAt := wS 36 (by decide +kernel) rfl
def Y_Model_soundOf : Yx := (⟨R_Model, "soundOf", "(IIII)I"⟩, prog_10_method_20_code, 6, (some Jvm.ClassFile.FieldType.int))
theorem mo_Model_soundOf : MOK Y_Model_soundOf 4 := ⟨wA 978 (by decide +kernel) rfl, wA 9 (by decide +kernel) rfl, by decide +kernel, by decide +kernel, by decide⟩
theorem mi_Model_soundOf : MI Y_Model_soundOf := wA 977 (by decide +kernel) rfl
theorem mv_Model_soundOf : MV Y_Model_soundOf := wS 37 (by decide +kernel) rfl
def Y_Model_said : Yx := (⟨R_Model, "said", "(II)I"⟩, prog_10_method_19_code, 5, (some Jvm.ClassFile.FieldType.int))
theorem mo_Model_said : MOK Y_Model_said 2 := ⟨wA 982 (by decide +kernel) rfl, wA 9 (by decide +kernel) rfl, by decide +kernel, by decide +kernel, by decide⟩
theorem mi_Model_said : MI Y_Model_said := wA 981 (by decide +kernel) rfl
theorem mv_Model_said : MV Y_Model_said := wS 38 (by decide +kernel) rfl
def Y_Model_plain : Yx := (⟨R_Model, "plain", "(I)I"⟩, prog_10_method_17_code, 4, (some Jvm.ClassFile.FieldType.int))
theorem mo_Model_plain : MOK Y_Model_plain 1 := ⟨wA 986 (by decide +kernel) rfl, wA 9 (by decide +kernel) rfl, by decide +kernel, by decide +kernel, by decide⟩
theorem mi_Model_plain : MI Y_Model_plain := wA 985 (by decide +kernel) rfl
theorem mv_Model_plain : MV Y_Model_plain := wS 39 (by decide +kernel) rfl
def Y_Model_ill : Yx := (⟨R_Model, "ill", "(I)I"⟩, prog_10_method_40_code, 2, (some Jvm.ClassFile.FieldType.int))
theorem mo_Model_ill : MOK Y_Model_ill 1 := ⟨wA 990 (by decide +kernel) rfl, wA 9 (by decide +kernel) rfl, by decide +kernel, by decide +kernel, by decide⟩
theorem mi_Model_ill : MI Y_Model_ill := wA 988 (by decide +kernel) rfl
theorem mv_Model_ill : MV Y_Model_ill := wA 989 (by decide +kernel) rfl
def Y_Model_illAt : Yx := (⟨R_Model, "illAt", "(II)I"⟩, prog_10_method_25_code, 6, (some Jvm.ClassFile.FieldType.int))
theorem mo_Model_illAt : MOK Y_Model_illAt 2 := ⟨wA 994 (by decide +kernel) rfl, wA 9 (by decide +kernel) rfl, by decide +kernel, by decide +kernel, by decide⟩
theorem mi_Model_illAt : MI Y_Model_illAt := wA 993 (by decide +kernel) rfl
theorem mv_Model_illAt : MV Y_Model_illAt := wS 40 (by decide +kernel) rfl
def Y_Model_agree : Yx := (⟨R_Model, "agree", "(II)Z"⟩, prog_10_method_24_code, 3, (some Jvm.ClassFile.FieldType.boolean))
theorem mo_Model_agree : MOK Y_Model_agree 2 := ⟨wA 998 (by decide +kernel) rfl, wA 9 (by decide +kernel) rfl, by decide +kernel, by decide +kernel, by decide⟩
theorem mi_Model_agree : MI Y_Model_agree := wA 997 (by decide +kernel) rfl
theorem mv_Model_agree : MV Y_Model_agree := wS 41 (by decide +kernel) rfl
def Y_Model_first : Yx := (⟨R_Model, "first", "(I)I"⟩, prog_10_method_41_code, 4, (some Jvm.ClassFile.FieldType.int))
theorem mo_Model_first : MOK Y_Model_first 1 := ⟨wA 1003 (by decide +kernel) rfl, wA 9 (by decide +kernel) rfl, by decide +kernel, by decide +kernel, by decide⟩
theorem mi_Model_first : MI Y_Model_first := wA 1001 (by decide +kernel) rfl
theorem mv_Model_first : MV Y_Model_first := wA 1002 (by decide +kernel) rfl
def Y_Model_end : Yx := (⟨R_Model, "end", "()I"⟩, prog_10_method_23_code, 3, (some Jvm.ClassFile.FieldType.int))
theorem mo_Model_end : MOK Y_Model_end 0 := ⟨wA 1007 (by decide +kernel) rfl, wA 9 (by decide +kernel) rfl, by decide +kernel, by decide +kernel, by decide⟩
theorem mi_Model_end : MI Y_Model_end := wA 1006 (by decide +kernel) rfl
theorem mv_Model_end : MV Y_Model_end := wS 42 (by decide +kernel) rfl
def Y_Model_allIll : Yx := (⟨R_Model, "allIll", "()I"⟩, prog_10_method_42_code, 1, (some Jvm.ClassFile.FieldType.int))
theorem mo_Model_allIll : MOK Y_Model_allIll 0 := ⟨wA 1012 (by decide +kernel) rfl, wA 9 (by decide +kernel) rfl, by decide +kernel, by decide +kernel, by decide⟩
theorem mi_Model_allIll : MI Y_Model_allIll := wA 1010 (by decide +kernel) rfl
theorem mv_Model_allIll : MV Y_Model_allIll := wA 1011 (by decide +kernel) rfl
def Y_Model_illAll : Yx := (⟨R_Model, "illAll", "(I)I"⟩, prog_10_method_26_code, 5, (some Jvm.ClassFile.FieldType.int))
theorem mo_Model_illAll : MOK Y_Model_illAll 1 := ⟨wA 1016 (by decide +kernel) rfl, wA 9 (by decide +kernel) rfl, by decide +kernel, by decide +kernel, by decide⟩
theorem mi_Model_illAll : MI Y_Model_illAll := wA 1015 (by decide +kernel) rfl
theorem mv_Model_illAll : MV Y_Model_illAll := wS 43 (by decide +kernel) rfl
def Y_Model_entries : Yx := (⟨R_Model, "entries", "(II)I"⟩, prog_10_method_44_code, 5, (some Jvm.ClassFile.FieldType.int))
theorem mo_Model_entries : MOK Y_Model_entries 2 := ⟨wA 1020 (by decide +kernel) rfl, wA 9 (by decide +kernel) rfl, by decide +kernel, by decide +kernel, by decide⟩
theorem mi_Model_entries : MI Y_Model_entries := wA 1018 (by decide +kernel) rfl
theorem mv_Model_entries : MV Y_Model_entries := wA 1019 (by decide +kernel) rfl
def Y_Model_fitsAll : Yx := (⟨R_Model, "fitsAll", "(III)Z"⟩, prog_10_method_43_code, 8, (some Jvm.ClassFile.FieldType.boolean))
theorem mo_Model_fitsAll : MOK Y_Model_fitsAll 3 := ⟨wA 1024 (by decide +kernel) rfl, wA 9 (by decide +kernel) rfl, by decide +kernel, by decide +kernel, by decide⟩
theorem mi_Model_fitsAll : MI Y_Model_fitsAll := wA 1023 (by decide +kernel) rfl
theorem mv_Model_fitsAll : MV Y_Model_fitsAll := wS 44 (by decide +kernel) rfl
def Y_Model_added : Yx := (⟨R_Model, "added", "()I"⟩, prog_10_method_45_code, 6, (some Jvm.ClassFile.FieldType.int))
theorem mo_Model_added : MOK Y_Model_added 0 := ⟨wA 1028 (by decide +kernel) rfl, wA 9 (by decide +kernel) rfl, by decide +kernel, by decide +kernel, by decide⟩
theorem mi_Model_added : MI Y_Model_added := wA 1026 (by decide +kernel) rfl
theorem mv_Model_added : MV Y_Model_added := wA 1027 (by decide +kernel) rfl
def Y_Model_isWell : Yx := (⟨R_Model, "isWell", "()Z"⟩, prog_10_method_27_code, 3, (some Jvm.ClassFile.FieldType.boolean))
theorem mo_Model_isWell : MOK Y_Model_isWell 0 := ⟨wA 1032 (by decide +kernel) rfl, wA 9 (by decide +kernel) rfl, by decide +kernel, by decide +kernel, by decide⟩
theorem mi_Model_isWell : MI Y_Model_isWell := wA 1031 (by decide +kernel) rfl
theorem mv_Model_isWell : MV Y_Model_isWell := wS 45 (by decide +kernel) rfl
def Y_Model_silent : Yx := (⟨R_Model, "silent", "()I"⟩, prog_10_method_46_code, 3, (some Jvm.ClassFile.FieldType.int))
theorem mo_Model_silent : MOK Y_Model_silent 0 := ⟨wA 1036 (by decide +kernel) rfl, wA 9 (by decide +kernel) rfl, by decide +kernel, by decide +kernel, by decide⟩
theorem mi_Model_silent : MI Y_Model_silent := wA 1034 (by decide +kernel) rfl
theorem mv_Model_silent : MV Y_Model_silent := wA 1035 (by decide +kernel) rfl
def Y_Model_changed : Yx := (⟨R_Model, "changed", "(I)I"⟩, prog_10_method_49_code, 3, (some Jvm.ClassFile.FieldType.int))
theorem mo_Model_changed : MOK Y_Model_changed 1 := ⟨wA 1040 (by decide +kernel) rfl, wA 9 (by decide +kernel) rfl, by decide +kernel, by decide +kernel, by decide⟩
theorem mi_Model_changed : MI Y_Model_changed := wA 1038 (by decide +kernel) rfl
theorem mv_Model_changed : MV Y_Model_changed := wA 1039 (by decide +kernel) rfl
def Y_Model_oneChange : Yx := (⟨R_Model, "oneChange", "()I"⟩, prog_10_method_47_code, 4, (some Jvm.ClassFile.FieldType.int))
theorem mo_Model_oneChange : MOK Y_Model_oneChange 0 := ⟨wA 1044 (by decide +kernel) rfl, wA 9 (by decide +kernel) rfl, by decide +kernel, by decide +kernel, by decide⟩
theorem mi_Model_oneChange : MI Y_Model_oneChange := wA 1043 (by decide +kernel) rfl
theorem mv_Model_oneChange : MV Y_Model_oneChange := wS 46 (by decide +kernel) rfl
def Y_Model_isTwoChanges : Yx := (⟨R_Model, "isTwoChanges", "()Z"⟩, prog_10_method_48_code, 4, (some Jvm.ClassFile.FieldType.boolean))
theorem mo_Model_isTwoChanges : MOK Y_Model_isTwoChanges 0 := ⟨wA 1048 (by decide +kernel) rfl, wA 9 (by decide +kernel) rfl, by decide +kernel, by decide +kernel, by decide⟩
theorem mi_Model_isTwoChanges : MI Y_Model_isTwoChanges := wA 1047 (by decide +kernel) rfl
theorem mv_Model_isTwoChanges : MV Y_Model_isTwoChanges := wS 47 (by decide +kernel) rfl
def Y_Model_better : Yx := (⟨R_Model, "better", "()I"⟩, prog_10_method_50_code, 5, (some Jvm.ClassFile.FieldType.int))
theorem mo_Model_better : MOK Y_Model_better 0 := ⟨wA 1052 (by decide +kernel) rfl, wA 9 (by decide +kernel) rfl, by decide +kernel, by decide +kernel, by decide⟩
theorem mi_Model_better : MI Y_Model_better := wA 1050 (by decide +kernel) rfl
theorem mv_Model_better : MV Y_Model_better := wA 1051 (by decide +kernel) rfl
def Y_Model_mirror : Yx := (⟨R_Model, "mirror", "()I"⟩, prog_10_method_51_code, 3, (some Jvm.ClassFile.FieldType.int))
theorem mo_Model_mirror : MOK Y_Model_mirror 0 := ⟨wA 1057 (by decide +kernel) rfl, wA 9 (by decide +kernel) rfl, by decide +kernel, by decide +kernel, by decide⟩
theorem mi_Model_mirror : MI Y_Model_mirror := wA 1055 (by decide +kernel) rfl
theorem mv_Model_mirror : MV Y_Model_mirror := wA 1056 (by decide +kernel) rfl
def Y_Model_agreeing : Yx := (⟨R_Model, "agreeing", "(II)J"⟩, prog_10_method_53_code, 6, (some Jvm.ClassFile.FieldType.long))
theorem mo_Model_agreeing : MOK Y_Model_agreeing 2 := ⟨wA 1061 (by decide +kernel) rfl, wA 9 (by decide +kernel) rfl, by decide +kernel, by decide +kernel, by decide⟩
theorem mi_Model_agreeing : MI Y_Model_agreeing := wA 1059 (by decide +kernel) rfl
theorem mv_Model_agreeing : MV Y_Model_agreeing := wA 1060 (by decide +kernel) rfl
def Y_Model_chains : Yx := (⟨R_Model, "chains", "(I)J"⟩, prog_10_method_52_code, 7, (some Jvm.ClassFile.FieldType.long))
theorem mo_Model_chains : MOK Y_Model_chains 1 := ⟨wA 1066 (by decide +kernel) rfl, wA 9 (by decide +kernel) rfl, by decide +kernel, by decide +kernel, by decide⟩
theorem mi_Model_chains : MI Y_Model_chains := wA 1065 (by decide +kernel) rfl
theorem mv_Model_chains : MV Y_Model_chains := wS 48 (by decide +kernel) rfl
def Y_Model_range : Yx := (⟨R_Model, "range", "(II)I"⟩, prog_10_method_54_code, 7, (some Jvm.ClassFile.FieldType.int))
theorem mo_Model_range : MOK Y_Model_range 2 := ⟨wA 1070 (by decide +kernel) rfl, wA 9 (by decide +kernel) rfl, by decide +kernel, by decide +kernel, by decide⟩
theorem mi_Model_range : MI Y_Model_range := wA 1068 (by decide +kernel) rfl
theorem mv_Model_range : MV Y_Model_range := wA 1069 (by decide +kernel) rfl
def Y_Model_stop : Yx := (⟨R_Model, "stop", "(I)I"⟩, prog_10_method_55_code, 6, (some Jvm.ClassFile.FieldType.int))
theorem mo_Model_stop : MOK Y_Model_stop 1 := ⟨wA 1074 (by decide +kernel) rfl, wA 9 (by decide +kernel) rfl, by decide +kernel, by decide +kernel, by decide⟩
theorem mi_Model_stop : MI Y_Model_stop := wA 1072 (by decide +kernel) rfl
theorem mv_Model_stop : MV Y_Model_stop := wA 1073 (by decide +kernel) rfl
def Y_Model_unison : Yx := (⟨R_Model, "unison", "()I"⟩, prog_10_method_56_code, 8, (some Jvm.ClassFile.FieldType.int))
theorem mo_Model_unison : MOK Y_Model_unison 0 := ⟨wA 1078 (by decide +kernel) rfl, wA 9 (by decide +kernel) rfl, by decide +kernel, by decide +kernel, by decide⟩
theorem mi_Model_unison : MI Y_Model_unison := wA 1076 (by decide +kernel) rfl
theorem mv_Model_unison : MV Y_Model_unison := wA 1077 (by decide +kernel) rfl
def Y_Model_row : Yx := (⟨R_Model, "row", "(I)I"⟩, prog_10_method_57_code, 2, (some Jvm.ClassFile.FieldType.int))
theorem mo_Model_row : MOK Y_Model_row 1 := ⟨wA 1082 (by decide +kernel) rfl, wA 9 (by decide +kernel) rfl, by decide +kernel, by decide +kernel, by decide⟩
theorem mi_Model_row : MI Y_Model_row := wA 1080 (by decide +kernel) rfl
theorem mv_Model_row : MV Y_Model_row := wA 1081 (by decide +kernel) rfl
def Y_Model_who : Yx := (⟨R_Model, "who", "(I)I"⟩, prog_10_method_59_code, 4, (some Jvm.ClassFile.FieldType.int))
theorem mo_Model_who : MOK Y_Model_who 1 := ⟨wA 1086 (by decide +kernel) rfl, wA 9 (by decide +kernel) rfl, by decide +kernel, by decide +kernel, by decide⟩
theorem mi_Model_who : MI Y_Model_who := wA 1084 (by decide +kernel) rfl
theorem mv_Model_who : MV Y_Model_who := wA 1085 (by decide +kernel) rfl
def Y_Model_unlike : Yx := (⟨R_Model, "unlike", "(III)I"⟩, prog_10_method_58_code, 6, (some Jvm.ClassFile.FieldType.int))
theorem mo_Model_unlike : MOK Y_Model_unlike 3 := ⟨wA 1090 (by decide +kernel) rfl, wA 9 (by decide +kernel) rfl, by decide +kernel, by decide +kernel, by decide⟩
theorem mi_Model_unlike : MI Y_Model_unlike := wA 1089 (by decide +kernel) rfl
theorem mv_Model_unlike : MV Y_Model_unlike := wS 49 (by decide +kernel) rfl
def Y_Model_judge : Yx := (⟨R_Model, "judge", "(II)I"⟩, prog_10_method_60_code, 4, (some Jvm.ClassFile.FieldType.int))
theorem mo_Model_judge : MOK Y_Model_judge 2 := ⟨wA 1094 (by decide +kernel) rfl, wA 9 (by decide +kernel) rfl, by decide +kernel, by decide +kernel, by decide⟩
theorem mi_Model_judge : MI Y_Model_judge := wA 1092 (by decide +kernel) rfl
theorem mv_Model_judge : MV Y_Model_judge := wA 1093 (by decide +kernel) rfl
def Y_Model_seeds : Yx := (⟨R_Model, "seeds", "(II)I"⟩, prog_10_method_61_code, 7, (some Jvm.ClassFile.FieldType.int))
theorem mo_Model_seeds : MOK Y_Model_seeds 2 := ⟨wA 1098 (by decide +kernel) rfl, wA 9 (by decide +kernel) rfl, by decide +kernel, by decide +kernel, by decide⟩
theorem mi_Model_seeds : MI Y_Model_seeds := wA 1096 (by decide +kernel) rfl
theorem mv_Model_seeds : MV Y_Model_seeds := wA 1097 (by decide +kernel) rfl
def Y_Model_count : Yx := (⟨R_Model, "count", "(I)I"⟩, prog_10_method_62_code, 2, (some Jvm.ClassFile.FieldType.int))
theorem mo_Model_count : MOK Y_Model_count 1 := ⟨wA 1105 (by decide +kernel) rfl, wA 9 (by decide +kernel) rfl, by decide +kernel, by decide +kernel, by decide⟩
theorem mi_Model_count : MI Y_Model_count := wA 1103 (by decide +kernel) rfl
theorem mv_Model_count : MV Y_Model_count := wA 1104 (by decide +kernel) rfl
theorem nc_Law_7 : Cond.classLink "OneTuneNineLaw" 7 R_Main ∈ wsAll := wA 15 (by decide +kernel) rfl
theorem ni_Main : Cond.instantiable R_Main 8 ∈ wsAll := wA 16 (by decide +kernel) rfl
theorem nz_Main : Cond.initialized R_Main ∈ wsAll := wA 1 (by decide +kernel) rfl
theorem lk_Law_9 : LK "OneTuneNineLaw" 9 Y_Main_init := Or.inl (wA 17 (by decide +kernel) rfl)
theorem lo_Main_1 : Cond.methodLink R_Main 1 objectInit ∈ wsAll := wA 20 (by decide +kernel) rfl
theorem nc_Main_7 : Cond.classLink R_Main 7 R_Canon ∈ wsAll := wA 23 (by decide +kernel) rfl
theorem ni_Canon : Cond.instantiable R_Canon 9 ∈ wsAll := wA 24 (by decide +kernel) rfl
theorem nz_Canon : Cond.initialized R_Canon ∈ wsAll := wA 2 (by decide +kernel) rfl
theorem lk_Main_9 : LK R_Main 9 Y_Canon_init := Or.inr ⟨"OneTuneNine", List.mem_of_getElem? (i := 0) (by decide +kernel)⟩
theorem lo_Canon_3 : Cond.methodLink R_Canon 3 objectInit ∈ wsAll := wA 28 (by decide +kernel) rfl
theorem nc_Canon_9 : Cond.classLink R_Canon 9 R_Tune ∈ wsAll := wA 29 (by decide +kernel) rfl
theorem ni_Tune : Cond.instantiable R_Tune 4 ∈ wsAll := wA 30 (by decide +kernel) rfl
theorem nz_Tune : Cond.initialized R_Tune ∈ wsAll := wA 3 (by decide +kernel) rfl
theorem lk_Canon_11 : LK R_Canon 11 Y_Tune_init := Or.inr ⟨"OneTuneNine", List.mem_of_getElem? (i := 1) (by decide +kernel)⟩
theorem lo_Tune_3 : Cond.methodLink R_Tune 3 objectInit ∈ wsAll := wA 34 (by decide +kernel) rfl
theorem nc_Tune_9 : Cond.classLink R_Tune 9 R_Row ∈ wsAll := wA 35 (by decide +kernel) rfl
theorem ni_Row : Cond.instantiable R_Row 2 ∈ wsAll := wA 36 (by decide +kernel) rfl
theorem nz_Row : Cond.initialized R_Row ∈ wsAll := wA 4 (by decide +kernel) rfl
theorem lk_Tune_11 : LK R_Tune 11 Y_Row_init := Or.inl (wA 37 (by decide +kernel) rfl)
theorem lo_Row_1 : Cond.methodLink R_Row 1 objectInit ∈ wsAll := wA 40 (by decide +kernel) rfl
theorem fl_Row_13 : FL R_Row 13 3 0 := ⟨_, rfl, by decide, rfl, Or.inl (wA 41 (by decide +kernel) rfl)⟩
theorem fl_Row_7 : FL R_Row 7 3 1 := ⟨_, rfl, by decide, rfl, Or.inl (wA 42 (by decide +kernel) rfl)⟩
theorem ac_int : Cond.arrayClass .int ∈ wsAll := wA 48 (by decide +kernel) rfl
theorem fl_Tune_14 : FL R_Tune 14 5 0 := ⟨_, rfl, by decide, rfl, Or.inl (wA 49 (by decide +kernel) rfl)⟩
theorem fl_Meetings_82 : FL R_Meetings 82 5 0 := ⟨_, rfl, by decide, rfl, Or.inr ⟨"OneTuneNine", List.mem_of_getElem? (i := 2) (by decide +kernel)⟩⟩
theorem fl_Tune_20 : FL R_Tune 20 5 1 := ⟨_, rfl, by decide, rfl, Or.inl (wA 51 (by decide +kernel) rfl)⟩
theorem fl_Tune_23 : FL R_Tune 23 5 2 := ⟨_, rfl, by decide, rfl, Or.inl (wA 52 (by decide +kernel) rfl)⟩
theorem fl_Tune_26 : FL R_Tune 26 5 3 := ⟨_, rfl, by decide, rfl, Or.inl (wA 53 (by decide +kernel) rfl)⟩
theorem fl_Canon_87 : FL R_Canon 87 5 3 := ⟨_, rfl, by decide, rfl, Or.inr ⟨"OneTuneNine", List.mem_of_getElem? (i := 3) (by decide +kernel)⟩⟩
theorem fl_Main_224 : FL R_Main 224 5 3 := ⟨_, rfl, by decide, rfl, Or.inr ⟨"OneTuneNine", List.mem_of_getElem? (i := 4) (by decide +kernel)⟩⟩
theorem nc_Canon_18 : Cond.classLink R_Canon 18 R_Row ∈ wsAll := wA 65 (by decide +kernel) rfl
theorem lk_Canon_20 : LK R_Canon 20 Y_Row_init := Or.inl (wA 66 (by decide +kernel) rfl)
theorem fl_Canon_12 : FL R_Canon 12 0 0 := ⟨_, rfl, by decide, rfl, Or.inl (wA 67 (by decide +kernel) rfl)⟩
theorem fl_Main_91 : FL R_Main 91 0 0 := ⟨_, rfl, by decide, rfl, Or.inr ⟨"OneTuneNine", List.mem_of_getElem? (i := 5) (by decide +kernel)⟩⟩
theorem fl_Mind_58 : FL R_Mind 58 0 0 := ⟨_, rfl, by decide, rfl, Or.inr ⟨"OneTuneNine", List.mem_of_getElem? (i := 6) (by decide +kernel)⟩⟩
theorem fl_Meetings_78 : FL R_Meetings 78 0 0 := ⟨_, rfl, by decide, rfl, Or.inr ⟨"OneTuneNine", List.mem_of_getElem? (i := 7) (by decide +kernel)⟩⟩
theorem fl_Canon_23 : FL R_Canon 23 0 1 := ⟨_, rfl, by decide, rfl, Or.inl (wA 71 (by decide +kernel) rfl)⟩
theorem fl_Canon_27 : FL R_Canon 27 0 2 := ⟨_, rfl, by decide, rfl, Or.inl (wA 72 (by decide +kernel) rfl)⟩
theorem fl_Canon_30 : FL R_Canon 30 0 3 := ⟨_, rfl, by decide, rfl, Or.inl (wA 73 (by decide +kernel) rfl)⟩
theorem fl_Canon_33 : FL R_Canon 33 0 4 := ⟨_, rfl, by decide, rfl, Or.inl (wA 74 (by decide +kernel) rfl)⟩
theorem fl_Canon_36 : FL R_Canon 36 0 5 := ⟨_, rfl, by decide, rfl, Or.inl (wA 75 (by decide +kernel) rfl)⟩
theorem fl_Canon_39 : FL R_Canon 39 0 6 := ⟨_, rfl, by decide, rfl, Or.inl (wA 76 (by decide +kernel) rfl)⟩
theorem fl_Main_135 : FL R_Main 135 0 6 := ⟨_, rfl, by decide, rfl, Or.inr ⟨"OneTuneNine", List.mem_of_getElem? (i := 8) (by decide +kernel)⟩⟩
theorem fl_Canon_43 : FL R_Canon 43 0 7 := ⟨_, rfl, by decide, rfl, Or.inl (wA 78 (by decide +kernel) rfl)⟩
theorem fl_Main_139 : FL R_Main 139 0 7 := ⟨_, rfl, by decide, rfl, Or.inr ⟨"OneTuneNine", List.mem_of_getElem? (i := 9) (by decide +kernel)⟩⟩
theorem fl_Canon_46 : FL R_Canon 46 0 8 := ⟨_, rfl, by decide, rfl, Or.inl (wA 80 (by decide +kernel) rfl)⟩
theorem fl_Meetings_87 : FL R_Meetings 87 0 8 := ⟨_, rfl, by decide, rfl, Or.inr ⟨"OneTuneNine", List.mem_of_getElem? (i := 10) (by decide +kernel)⟩⟩
theorem fl_Main_142 : FL R_Main 142 0 8 := ⟨_, rfl, by decide, rfl, Or.inr ⟨"OneTuneNine", List.mem_of_getElem? (i := 11) (by decide +kernel)⟩⟩
theorem nc_Main_23 : Cond.classLink R_Main 23 R_Mind ∈ wsAll := wA 102 (by decide +kernel) rfl
theorem ni_Mind : Cond.instantiable R_Mind 3 ∈ wsAll := wA 103 (by decide +kernel) rfl
theorem nz_Mind : Cond.initialized R_Mind ∈ wsAll := wA 5 (by decide +kernel) rfl
theorem lk_Main_25 : LK R_Main 25 Y_Mind_init := Or.inr ⟨"OneTuneNine", List.mem_of_getElem? (i := 12) (by decide +kernel)⟩
theorem lo_Mind_3 : Cond.methodLink R_Mind 3 objectInit ∈ wsAll := wA 107 (by decide +kernel) rfl
theorem nc_Mind_9 : Cond.classLink R_Mind 9 R_Canon ∈ wsAll := wA 108 (by decide +kernel) rfl
theorem lk_Mind_11 : LK R_Mind 11 Y_Canon_init := Or.inr ⟨"OneTuneNine", List.mem_of_getElem? (i := 13) (by decide +kernel)⟩
theorem nc_Mind_18 : Cond.classLink R_Mind 18 R_Meetings ∈ wsAll := wA 110 (by decide +kernel) rfl
theorem ni_Meetings : Cond.instantiable R_Meetings 2 ∈ wsAll := wA 111 (by decide +kernel) rfl
theorem nz_Meetings : Cond.initialized R_Meetings ∈ wsAll := wA 6 (by decide +kernel) rfl
theorem lk_Mind_20 : LK R_Mind 20 Y_Meetings_init := Or.inr ⟨"OneTuneNine", List.mem_of_getElem? (i := 14) (by decide +kernel)⟩
theorem lo_Meetings_3 : Cond.methodLink R_Meetings 3 objectInit ∈ wsAll := wA 115 (by decide +kernel) rfl
theorem nc_Meetings_9 : Cond.classLink R_Meetings 9 R_Row ∈ wsAll := wA 116 (by decide +kernel) rfl
theorem lk_Meetings_11 : LK R_Meetings 11 Y_Row_init := Or.inl (wA 117 (by decide +kernel) rfl)
theorem fl_Meetings_14 : FL R_Meetings 14 1 0 := ⟨_, rfl, by decide, rfl, Or.inl (wA 118 (by decide +kernel) rfl)⟩
theorem fl_Meetings_20 : FL R_Meetings 20 1 1 := ⟨_, rfl, by decide, rfl, Or.inl (wA 119 (by decide +kernel) rfl)⟩
theorem nc_Mind_25 : Cond.classLink R_Mind 25 R_Row ∈ wsAll := wA 125 (by decide +kernel) rfl
theorem lk_Mind_27 : LK R_Mind 27 Y_Row_init := Or.inl (wA 126 (by decide +kernel) rfl)
theorem fl_Mind_12 : FL R_Mind 12 2 0 := ⟨_, rfl, by decide, rfl, Or.inl (wA 127 (by decide +kernel) rfl)⟩
theorem fl_Mind_21 : FL R_Mind 21 2 1 := ⟨_, rfl, by decide, rfl, Or.inl (wA 128 (by decide +kernel) rfl)⟩
theorem fl_Mind_30 : FL R_Mind 30 2 2 := ⟨_, rfl, by decide, rfl, Or.inl (wA 129 (by decide +kernel) rfl)⟩
theorem nc_Main_30 : Cond.classLink R_Main 30 R_Walks ∈ wsAll := wA 137 (by decide +kernel) rfl
theorem ni_Walks : Cond.instantiable R_Walks 2 ∈ wsAll := wA 138 (by decide +kernel) rfl
theorem nz_Walks : Cond.initialized R_Walks ∈ wsAll := wA 7 (by decide +kernel) rfl
theorem lk_Main_32 : LK R_Main 32 Y_Walks_init := Or.inr ⟨"OneTuneNine", List.mem_of_getElem? (i := 15) (by decide +kernel)⟩
theorem lo_Walks_3 : Cond.methodLink R_Walks 3 objectInit ∈ wsAll := wA 142 (by decide +kernel) rfl
theorem fl_Walks_9 : FL R_Walks 9 6 0 := ⟨_, rfl, by decide, rfl, Or.inl (wA 143 (by decide +kernel) rfl)⟩
theorem fl_Walks_15 : FL R_Walks 15 6 1 := ⟨_, rfl, by decide, rfl, Or.inl (wA 144 (by decide +kernel) rfl)⟩
theorem ac_long : Cond.arrayClass .long ∈ wsAll := wA 150 (by decide +kernel) rfl
theorem nc_Main_37 : Cond.classLink R_Main 37 R_Text ∈ wsAll := wA 151 (by decide +kernel) rfl
theorem ni_Text : Cond.instantiable R_Text 1 ∈ wsAll := wA 152 (by decide +kernel) rfl
theorem nz_Text : Cond.initialized R_Text ∈ wsAll := wA 8 (by decide +kernel) rfl
theorem lk_Main_39 : LK R_Main 39 Y_Text_init := Or.inr ⟨"OneTuneNine", List.mem_of_getElem? (i := 16) (by decide +kernel)⟩
theorem lo_Text_3 : Cond.methodLink R_Text 3 objectInit ∈ wsAll := wA 156 (by decide +kernel) rfl
theorem nc_Text_9 : Cond.classLink R_Text 9 R_Row ∈ wsAll := wA 157 (by decide +kernel) rfl
theorem lk_Text_11 : LK R_Text 11 Y_Row_init := Or.inl (wA 158 (by decide +kernel) rfl)
theorem fl_Text_14 : FL R_Text 14 4 0 := ⟨_, rfl, by decide, rfl, Or.inl (wA 159 (by decide +kernel) rfl)⟩
theorem nc_Main_44 : Cond.classLink R_Main 44 R_Row ∈ wsAll := wA 163 (by decide +kernel) rfl
theorem lk_Main_46 : LK R_Main 46 Y_Row_init := Or.inl (wA 164 (by decide +kernel) rfl)
theorem lk_Main_56 : LK R_Main 56 Y_Row_add := Or.inl (wA 165 (by decide +kernel) rfl)
theorem fl_Main_10 : FL R_Main 10 7 0 := ⟨_, rfl, by decide, rfl, Or.inl (wA 169 (by decide +kernel) rfl)⟩
theorem fl_Main_16 : FL R_Main 16 7 1 := ⟨_, rfl, by decide, rfl, Or.inl (wA 170 (by decide +kernel) rfl)⟩
theorem fl_Main_19 : FL R_Main 19 7 2 := ⟨_, rfl, by decide, rfl, Or.inl (wA 171 (by decide +kernel) rfl)⟩
theorem fl_Main_26 : FL R_Main 26 7 3 := ⟨_, rfl, by decide, rfl, Or.inl (wA 172 (by decide +kernel) rfl)⟩
theorem fl_Main_33 : FL R_Main 33 7 4 := ⟨_, rfl, by decide, rfl, Or.inl (wA 173 (by decide +kernel) rfl)⟩
theorem fl_Main_40 : FL R_Main 40 7 5 := ⟨_, rfl, by decide, rfl, Or.inl (wA 174 (by decide +kernel) rfl)⟩
theorem fl_Main_49 : FL R_Main 49 7 6 := ⟨_, rfl, by decide, rfl, Or.inl (wA 175 (by decide +kernel) rfl)⟩
theorem fl_Main_53 : FL R_Main 53 7 7 := ⟨_, rfl, by decide, rfl, Or.inl (wA 176 (by decide +kernel) rfl)⟩
theorem lk_Law_13 : LK "OneTuneNineLaw" 13 Y_Main_letter := Or.inl (wA 194 (by decide +kernel) rfl)
theorem lk_Main_59 : LK R_Main 59 Y_Main_outside := Or.inl (wA 198 (by decide +kernel) rfl)
theorem lk_Main_63 : LK R_Main 63 Y_Text_size := Or.inl (wA 201 (by decide +kernel) rfl)
theorem lk_Text_20 : LK R_Text 20 Y_Row_size := Or.inl (wA 205 (by decide +kernel) rfl)
theorem lk_Main_67 : LK R_Main 67 Y_Main_refuse := Or.inl (wA 209 (by decide +kernel) rfl)
theorem lk_Main_230 : LK R_Main 230 Y_Row_get := Or.inl (wA 213 (by decide +kernel) rfl)
theorem lk_Main_236 : LK R_Main 236 Y_Row_set := Or.inl (wA 217 (by decide +kernel) rfl)
theorem lk_Main_71 : LK R_Main 71 Y_Text_add := Or.inl (wA 221 (by decide +kernel) rfl)
theorem lk_Text_24 : LK R_Text 24 Y_Row_add := Or.inl (wA 225 (by decide +kernel) rfl)
theorem lk_Law_18 : LK "OneTuneNineLaw" 18 Y_Main_canon := Or.inl (wA 226 (by decide +kernel) rfl)
theorem lk_Main_73 : LK R_Main 73 Y_Text_formFault := Or.inl (wA 230 (by decide +kernel) rfl)
theorem lk_Text_68 : LK R_Text 68 Y_Text_formAt := Or.inl (wA 234 (by decide +kernel) rfl)
theorem lk_Text_38 : LK R_Text 38 Y_Text_at := Or.inl (wA 238 (by decide +kernel) rfl)
theorem lk_Text_30 : LK R_Text 30 Y_Row_has := Or.inl (wA 242 (by decide +kernel) rfl)
theorem lk_Text_34 : LK R_Text 34 Y_Row_get := Or.inl (wA 246 (by decide +kernel) rfl)
theorem lk_Text_52 : LK R_Text 52 Y_Text_isDigit := Or.inl (wA 247 (by decide +kernel) rfl)
theorem lk_Text_43 : LK R_Text 43 Y_String_length := Or.inl (wA 256 (by decide +kernel) rfl)
theorem lk_String_335 : LK "java/lang/String" 335 Y_String_coder := Or.inl (wA 260 (by decide +kernel) rfl)
theorem lk_Text_48 : LK R_Text 48 Y_String_charAt := Or.inl (wA 266 (by decide +kernel) rfl)
theorem lk_String_492 : LK "java/lang/String" 492 Y_String_isLatin1 := Or.inl (wA 270 (by decide +kernel) rfl)
theorem lk_String_495 : LK "java/lang/String" 495 Y_Latin1_charAt := Or.inl (wA 274 (by decide +kernel) rfl)
theorem lk_Latin1_9 : LK "java/lang/StringLatin1" 9 Y_String_checkIndex := Or.inl (wA 277 (by decide +kernel) rfl)
theorem lk_String_1059 : LK "java/lang/String" 1059 Y_Precond_checkIndex := Or.inl (wA 282 (by decide +kernel) rfl)
theorem lk_String_498 : LK "java/lang/String" 498 Y_UTF16_charAt := Or.inl (wA 285 (by decide +kernel) rfl)
theorem lk_UTF16_67 : LK "java/lang/StringUTF16" 67 Y_UTF16_checkIndex := Or.inl (wA 288 (by decide +kernel) rfl)
theorem lk_UTF16_48 : LK "java/lang/StringUTF16" 48 Y_UTF16_length := Or.inl (wA 291 (by decide +kernel) rfl)
theorem lk_UTF16_414 : LK "java/lang/StringUTF16" 414 Y_String_checkIndex := Or.inl (wA 294 (by decide +kernel) rfl)
theorem lk_UTF16_71 : LK "java/lang/StringUTF16" 71 Y_UTF16_getChar := Or.inl (wA 295 (by decide +kernel) rfl)
theorem lk_Text_72 : LK R_Text 72 Y_Text_fits := Or.inl (wA 304 (by decide +kernel) rfl)
theorem lk_Text_65 : LK R_Text 65 Y_Text_kind := Or.inl (wA 308 (by decide +kernel) rfl)
theorem lk_Main_76 : LK R_Main 76 Y_Mind_take := Or.inl (wA 313 (by decide +kernel) rfl)
theorem lk_Mind_34 : LK R_Mind 34 Y_Canon_copyFrom := Or.inl (wA 317 (by decide +kernel) rfl)
theorem lk_Canon_49 : LK R_Canon 49 Y_Tune_copyFrom := Or.inl (wA 321 (by decide +kernel) rfl)
theorem lk_Tune_52 : LK R_Tune 52 Y_Row_copyFrom := Or.inl (wA 325 (by decide +kernel) rfl)
theorem lk_Row_17 : LK R_Row 17 Y_Row_clear := Or.inl (wA 329 (by decide +kernel) rfl)
theorem lk_Row_20 : LK R_Row 20 Y_Row_size := Or.inl (wA 333 (by decide +kernel) rfl)
theorem lk_Row_24 : LK R_Row 24 Y_Row_get := Or.inl (wA 334 (by decide +kernel) rfl)
theorem lk_Row_28 : LK R_Row 28 Y_Row_add := Or.inl (wA 335 (by decide +kernel) rfl)
theorem lk_Canon_53 : LK R_Canon 53 Y_Row_copyFrom := Or.inl (wA 336 (by decide +kernel) rfl)
theorem lk_Main_80 : LK R_Main 80 Y_Text_tellAll := Or.inl (wA 337 (by decide +kernel) rfl)
theorem lk_Text_76 : LK R_Text 76 Y_Text_tell := Or.inl (wA 341 (by decide +kernel) rfl)
theorem lk_Text_80 : LK R_Text 80 Y_Text_digit := Or.inl (wA 345 (by decide +kernel) rfl)
theorem lk_Text_83 : LK R_Text 83 Y_Canon_tellNote := Or.inl (wA 349 (by decide +kernel) rfl)
theorem lk_Canon_75 : LK R_Canon 75 Y_Tune_notes := Or.inl (wA 353 (by decide +kernel) rfl)
theorem lk_Tune_30 : LK R_Tune 30 Y_Row_size := Or.inl (wA 357 (by decide +kernel) rfl)
theorem lk_Canon_78 : LK R_Canon 78 Y_Tune_add := Or.inl (wA 358 (by decide +kernel) rfl)
theorem lk_Tune_46 : LK R_Tune 46 Y_Row_add := Or.inl (wA 362 (by decide +kernel) rfl)
theorem lk_Text_89 : LK R_Text 89 Y_Text_entry := Or.inl (wA 363 (by decide +kernel) rfl)
theorem lk_Text_92 : LK R_Text 92 Y_Canon_tellVoice := Or.inl (wA 367 (by decide +kernel) rfl)
theorem lk_Canon_80 : LK R_Canon 80 Y_Canon_voices := Or.inl (wA 371 (by decide +kernel) rfl)
theorem lk_Canon_56 : LK R_Canon 56 Y_Row_size := Or.inl (wA 375 (by decide +kernel) rfl)
theorem lk_Canon_83 : LK R_Canon 83 Y_Canon_addVoice := Or.inl (wA 376 (by decide +kernel) rfl)
theorem lk_Canon_72 : LK R_Canon 72 Y_Row_add := Or.inl (wA 380 (by decide +kernel) rfl)
theorem lk_Text_96 : LK R_Text 96 Y_Canon_tellRounds := Or.inl (wA 381 (by decide +kernel) rfl)
theorem lk_Text_99 : LK R_Text 99 Y_Canon_tellWell := Or.inl (wA 385 (by decide +kernel) rfl)
theorem lk_Main_84 : LK R_Main 84 Y_Canon_copyFrom := Or.inl (wA 389 (by decide +kernel) rfl)
theorem lk_Main_88 : LK R_Main 88 Y_Text_clear := Or.inl (wA 390 (by decide +kernel) rfl)
theorem lk_Text_27 : LK R_Text 27 Y_Row_clear := Or.inl (wA 394 (by decide +kernel) rfl)
theorem ac_byte : Cond.arrayClass .byte ∈ wsAll := wA 395 (by decide +kernel) rfl
theorem lk_Law_23 : LK "OneTuneNineLaw" 23 Y_Main_note := Or.inl (wA 396 (by decide +kernel) rfl)
theorem lk_Main_95 : LK R_Main 95 Y_Tune_has := Or.inl (wA 400 (by decide +kernel) rfl)
theorem lk_Tune_34 : LK R_Tune 34 Y_Row_has := Or.inl (wA 404 (by decide +kernel) rfl)
theorem lk_Main_101 : LK R_Main 101 Y_Tune_pitchOf := Or.inl (wA 405 (by decide +kernel) rfl)
theorem lk_Tune_38 : LK R_Tune 38 Y_Row_get := Or.inl (wA 409 (by decide +kernel) rfl)
theorem lk_Main_104 : LK R_Main 104 Y_Tune_lengthOf := Or.inl (wA 410 (by decide +kernel) rfl)
theorem lk_Main_107 : LK R_Main 107 Y_Tune_startOf := Or.inl (wA 414 (by decide +kernel) rfl)
theorem lk_Law_28 : LK "OneTuneNineLaw" 28 Y_Main_voice := Or.inl (wA 418 (by decide +kernel) rfl)
theorem lk_Main_110 : LK R_Main 110 Y_Canon_hasVoice := Or.inl (wA 422 (by decide +kernel) rfl)
theorem lk_Canon_60 : LK R_Canon 60 Y_Row_has := Or.inl (wA 426 (by decide +kernel) rfl)
theorem lk_Main_113 : LK R_Main 113 Y_Canon_kindOf := Or.inl (wA 427 (by decide +kernel) rfl)
theorem lk_Canon_64 : LK R_Canon 64 Y_Row_get := Or.inl (wA 431 (by decide +kernel) rfl)
theorem lk_Main_116 : LK R_Main 116 Y_Canon_entryOf := Or.inl (wA 432 (by decide +kernel) rfl)
theorem lk_Main_119 : LK R_Main 119 Y_Canon_highOf := Or.inl (wA 436 (by decide +kernel) rfl)
theorem lk_Main_122 : LK R_Main 122 Y_Canon_roundBeats := Or.inl (wA 440 (by decide +kernel) rfl)
theorem lk_Main_125 : LK R_Main 125 Y_Canon_stillFrom := Or.inl (wA 444 (by decide +kernel) rfl)
theorem lk_Canon_90 : LK R_Canon 90 Y_Canon_roundBeats := Or.inl (wA 448 (by decide +kernel) rfl)
theorem lk_Law_32 : LK "OneTuneNineLaw" 32 Y_Main_pitch := Or.inl (wA 449 (by decide +kernel) rfl)
theorem lk_Main_128 : LK R_Main 128 Y_Tune_setPitch := Or.inl (wA 453 (by decide +kernel) rfl)
theorem lk_Tune_42 : LK R_Tune 42 Y_Row_set := Or.inl (wA 457 (by decide +kernel) rfl)
theorem lk_Law_36 : LK "OneTuneNineLaw" 36 Y_Main_enter := Or.inl (wA 458 (by decide +kernel) rfl)
theorem lk_Main_132 : LK R_Main 132 Y_Canon_setEntry := Or.inl (wA 462 (by decide +kernel) rfl)
theorem lk_Canon_68 : LK R_Canon 68 Y_Row_set := Or.inl (wA 466 (by decide +kernel) rfl)
theorem lk_Law_40 : LK "OneTuneNineLaw" 40 Y_Main_rounds := Or.inl (wA 467 (by decide +kernel) rfl)
theorem lk_Law_44 : LK "OneTuneNineLaw" 44 Y_Main_step := Or.inl (wA 471 (by decide +kernel) rfl)
theorem lk_Law_48 : LK "OneTuneNineLaw" 48 Y_Main_law := Or.inl (wA 475 (by decide +kernel) rfl)
theorem lk_Law_52 : LK "OneTuneNineLaw" 52 Y_Main_sound := Or.inl (wA 479 (by decide +kernel) rfl)
theorem cn_Main_145 : Cond.constant R_Main 145 1000000000 ∈ wsAll := wA 483 (by decide +kernel) rfl
theorem lk_Main_146 : LK R_Main 146 Y_Canon_soundOf := Or.inl (wA 484 (by decide +kernel) rfl)
theorem lk_Canon_105 : LK R_Canon 105 Y_Canon_noteSung := Or.inl (wA 488 (by decide +kernel) rfl)
theorem lk_Canon_102 : LK R_Canon 102 Y_Tune_noteAt := Or.inl (wA 492 (by decide +kernel) rfl)
theorem lk_Canon_108 : LK R_Canon 108 Y_Tune_pitchOf := Or.inl (wA 496 (by decide +kernel) rfl)
theorem lk_Canon_111 : LK R_Canon 111 Y_Canon_isTurned := Or.inl (wA 497 (by decide +kernel) rfl)
theorem lk_Canon_114 : LK R_Canon 114 Y_Canon_lift := Or.inl (wA 501 (by decide +kernel) rfl)
theorem lk_Law_56 : LK "OneTuneNineLaw" 56 Y_Main_ill := Or.inl (wA 505 (by decide +kernel) rfl)
theorem lk_Main_150 : LK R_Main 150 Y_Canon_illsAt := Or.inl (wA 509 (by decide +kernel) rfl)
theorem lk_Canon_127 : LK R_Canon 127 Y_Canon_listen := Or.inl (wA 513 (by decide +kernel) rfl)
theorem lk_Canon_117 : LK R_Canon 117 Y_Row_clear := Or.inl (wA 517 (by decide +kernel) rfl)
theorem lk_Canon_120 : LK R_Canon 120 Y_Canon_soundOf := Or.inl (wA 518 (by decide +kernel) rfl)
theorem lk_Canon_130 : LK R_Canon 130 Y_Canon_clash := Or.inl (wA 519 (by decide +kernel) rfl)
theorem lk_Canon_123 : LK R_Canon 123 Y_Main_soundsWell := Or.inr ⟨"OneTuneNine", List.mem_of_getElem? (i := 17) (by decide +kernel)⟩
theorem lm_Main_233 : Cond.methodLink R_Main 233 ⟨"java/lang/Math", "abs", "(I)I"⟩ ∈ wsAll := wA 526 (by decide +kernel) rfl
theorem lk_Law_60 : LK "OneTuneNineLaw" 60 Y_Main_first := Or.inl (wA 529 (by decide +kernel) rfl)
theorem lk_Main_153 : LK R_Main 153 Y_Canon_firstIllBeat := Or.inl (wA 533 (by decide +kernel) rfl)
theorem lk_Canon_133 : LK R_Canon 133 Y_Canon_end := Or.inl (wA 537 (by decide +kernel) rfl)
theorem lk_Canon_93 : LK R_Canon 93 Y_Canon_stillFrom := Or.inl (wA 541 (by decide +kernel) rfl)
theorem lm_Canon_96 : Cond.methodLink R_Canon 96 ⟨"java/lang/Math", "max", "(II)I"⟩ ∈ wsAll := wA 542 (by decide +kernel) rfl
theorem lk_Canon_136 : LK R_Canon 136 Y_Canon_illsAt := Or.inl (wA 545 (by decide +kernel) rfl)
theorem lk_Main_156 : LK R_Main 156 Y_Canon_firstIllPair := Or.inl (wA 546 (by decide +kernel) rfl)
theorem lk_Law_64 : LK "OneTuneNineLaw" 64 Y_Main_allIll := Or.inl (wA 550 (by decide +kernel) rfl)
theorem lk_Main_159 : LK R_Main 159 Y_Canon_illsInAll := Or.inl (wA 554 (by decide +kernel) rfl)
theorem lk_Law_68 : LK "OneTuneNineLaw" 68 Y_Main_entries := Or.inl (wA 558 (by decide +kernel) rfl)
theorem lk_Main_162 : LK R_Main 162 Y_Mind_agreeingEntries := Or.inl (wA 562 (by decide +kernel) rfl)
theorem lk_Mind_38 : LK R_Mind 38 Y_Mind_take := Or.inl (wA 566 (by decide +kernel) rfl)
theorem lk_Mind_42 : LK R_Mind 42 Y_Canon_voices := Or.inl (wA 567 (by decide +kernel) rfl)
theorem lk_Mind_46 : LK R_Mind 46 Y_Canon_addVoice := Or.inl (wA 568 (by decide +kernel) rfl)
theorem lk_Mind_50 : LK R_Mind 50 Y_Canon_setEntry := Or.inl (wA 569 (by decide +kernel) rfl)
theorem lk_Mind_54 : LK R_Mind 54 Y_Canon_lastAgreesWithAll := Or.inl (wA 570 (by decide +kernel) rfl)
theorem lk_Law_72 : LK "OneTuneNineLaw" 72 Y_Main_added := Or.inl (wA 574 (by decide +kernel) rfl)
theorem lk_Main_166 : LK R_Main 166 Y_Mind_addablePitches := Or.inl (wA 578 (by decide +kernel) rfl)
theorem lk_Mind_62 : LK R_Mind 62 Y_Tune_notes := Or.inl (wA 582 (by decide +kernel) rfl)
theorem lk_Mind_67 : LK R_Mind 67 Y_Tune_add := Or.inl (wA 583 (by decide +kernel) rfl)
theorem lk_Mind_70 : LK R_Mind 70 Y_Meetings_gather := Or.inl (wA 584 (by decide +kernel) rfl)
theorem lk_Meetings_23 : LK R_Meetings 23 Y_Row_clear := Or.inl (wA 588 (by decide +kernel) rfl)
theorem lk_Meetings_26 : LK R_Meetings 26 Y_Canon_voices := Or.inl (wA 589 (by decide +kernel) rfl)
theorem lk_Meetings_32 : LK R_Meetings 32 Y_Row_size := Or.inl (wA 590 (by decide +kernel) rfl)
theorem lk_Meetings_35 : LK R_Meetings 35 Y_Canon_entryOf := Or.inl (wA 591 (by decide +kernel) rfl)
theorem lm_Meetings_39 : Cond.methodLink R_Meetings 39 ⟨"java/lang/Math", "max", "(II)I"⟩ ∈ wsAll := wA 592 (by decide +kernel) rfl
theorem lk_Meetings_45 : LK R_Meetings 45 Y_Canon_stillFrom := Or.inl (wA 593 (by decide +kernel) rfl)
theorem lm_Meetings_48 : Cond.methodLink R_Meetings 48 ⟨"java/lang/Math", "min", "(II)I"⟩ ∈ wsAll := wA 594 (by decide +kernel) rfl
theorem lk_Meetings_51 : LK R_Meetings 51 Y_Meetings_wayOf := Or.inl (wA 597 (by decide +kernel) rfl)
theorem lk_Meetings_59 : LK R_Meetings 59 Y_Canon_lift := Or.inl (wA 600 (by decide +kernel) rfl)
theorem lk_Meetings_62 : LK R_Meetings 62 Y_Canon_isTurned := Or.inl (wA 601 (by decide +kernel) rfl)
theorem lk_Meetings_66 : LK R_Meetings 66 Y_Canon_noteSung := Or.inl (wA 602 (by decide +kernel) rfl)
theorem lk_Meetings_55 : LK R_Meetings 55 Y_Meetings_meet := Or.inl (wA 603 (by decide +kernel) rfl)
theorem lk_Meetings_69 : LK R_Meetings 69 Y_Row_get := Or.inl (wA 607 (by decide +kernel) rfl)
theorem lk_Meetings_72 : LK R_Meetings 72 Y_Row_set := Or.inl (wA 608 (by decide +kernel) rfl)
theorem lk_Meetings_75 : LK R_Meetings 75 Y_Row_add := Or.inl (wA 609 (by decide +kernel) rfl)
theorem lk_Mind_73 : LK R_Mind 73 Y_Tune_setPitch := Or.inl (wA 610 (by decide +kernel) rfl)
theorem lk_Mind_76 : LK R_Mind 76 Y_Meetings_areWell := Or.inl (wA 611 (by decide +kernel) rfl)
theorem lk_Meetings_95 : LK R_Meetings 95 Y_Meetings_isIll := Or.inl (wA 615 (by decide +kernel) rfl)
theorem lk_Meetings_91 : LK R_Meetings 91 Y_Main_soundsWell := Or.inr ⟨"OneTuneNine", List.mem_of_getElem? (i := 18) (by decide +kernel)⟩
theorem lk_Law_76 : LK "OneTuneNineLaw" 76 Y_Main_silent := Or.inl (wA 620 (by decide +kernel) rfl)
theorem lk_Main_169 : LK R_Main 169 Y_Canon_voicesInAllIlls := Or.inl (wA 624 (by decide +kernel) rfl)
theorem lk_Law_80 : LK "OneTuneNineLaw" 80 Y_Main_changed := Or.inl (wA 628 (by decide +kernel) rfl)
theorem lk_Main_172 : LK R_Main 172 Y_Mind_fewestChanges := Or.inl (wA 632 (by decide +kernel) rfl)
theorem lk_Mind_97 : LK R_Mind 97 Y_Mind_findMends := Or.inl (wA 636 (by decide +kernel) rfl)
theorem lk_Mind_106 : LK R_Mind 106 Y_Row_clear := Or.inl (wA 640 (by decide +kernel) rfl)
theorem lk_Mind_109 : LK R_Mind 109 Y_Row_add := Or.inl (wA 641 (by decide +kernel) rfl)
theorem lk_Mind_111 : LK R_Mind 111 Y_Meetings_size := Or.inl (wA 642 (by decide +kernel) rfl)
theorem lk_Mind_114 : LK R_Mind 114 Y_Meetings_isIll := Or.inl (wA 646 (by decide +kernel) rfl)
theorem lk_Mind_118 : LK R_Mind 118 Y_Meetings_notesOf := Or.inl (wA 647 (by decide +kernel) rfl)
theorem lk_Mind_121 : LK R_Mind 121 Y_Mind_keepMends := Or.inl (wA 651 (by decide +kernel) rfl)
theorem lk_Mind_124 : LK R_Mind 124 Y_Row_size := Or.inl (wA 655 (by decide +kernel) rfl)
theorem lk_Mind_125 : LK R_Mind 125 Y_Row_get := Or.inl (wA 656 (by decide +kernel) rfl)
theorem lk_Mind_128 : LK R_Mind 128 Y_Row_set := Or.inl (wA 657 (by decide +kernel) rfl)
theorem lk_Mind_100 : LK R_Mind 100 Y_Mind_firstSingle := Or.inl (wA 658 (by decide +kernel) rfl)
theorem lk_Mind_131 : LK R_Mind 131 Y_Mind_canMend := Or.inl (wA 662 (by decide +kernel) rfl)
theorem lk_Mind_135 : LK R_Mind 135 Y_Mind_mendingPitch := Or.inl (wA 666 (by decide +kernel) rfl)
theorem lk_Mind_84 : LK R_Mind 84 Y_Tune_pitchOf := Or.inl (wA 670 (by decide +kernel) rfl)
theorem lk_Mind_103 : LK R_Mind 103 Y_Mind_hasPair := Or.inl (wA 671 (by decide +kernel) rfl)
theorem lk_Main_175 : LK R_Main 175 Y_Mind_firstChange := Or.inl (wA 675 (by decide +kernel) rfl)
theorem lk_Law_84 : LK "OneTuneNineLaw" 84 Y_Main_better := Or.inl (wA 679 (by decide +kernel) rfl)
theorem lk_Main_178 : LK R_Main 178 Y_Mind_leastIlls := Or.inl (wA 683 (by decide +kernel) rfl)
theorem lk_Mind_80 : LK R_Mind 80 Y_Meetings_ills := Or.inl (wA 687 (by decide +kernel) rfl)
theorem lm_Mind_88 : Cond.methodLink R_Mind 88 ⟨"java/lang/Math", "min", "(II)I"⟩ ∈ wsAll := wA 691 (by decide +kernel) rfl
theorem lk_Law_88 : LK "OneTuneNineLaw" 88 Y_Main_mirror := Or.inl (wA 692 (by decide +kernel) rfl)
theorem lk_Main_181 : LK R_Main 181 Y_Tune_isMirror := Or.inl (wA 696 (by decide +kernel) rfl)
theorem lk_Tune_49 : LK R_Tune 49 Y_Tune_plainAt := Or.inl (wA 700 (by decide +kernel) rfl)
theorem lk_Law_92 : LK "OneTuneNineLaw" 92 Y_Main_agreeing := Or.inl (wA 704 (by decide +kernel) rfl)
theorem lm_Main_185 : Cond.methodLink R_Main 185 ⟨"java/lang/Math", "min", "(II)I"⟩ ∈ wsAll := wA 708 (by decide +kernel) rfl
theorem lm_Main_190 : Cond.methodLink R_Main 190 ⟨"java/lang/Math", "max", "(II)I"⟩ ∈ wsAll := wA 709 (by decide +kernel) rfl
theorem cn_Main_193 : Cond.constantLong R_Main 193 4000000000000000000 ∈ wsAll := wA 710 (by decide +kernel) rfl
theorem lk_Main_195 : LK R_Main 195 Y_Walks_tunesAgreeing := Or.inl (wA 711 (by decide +kernel) rfl)
theorem lk_Walks_18 : LK R_Walks 18 Y_Walks_chainsOf := Or.inl (wA 715 (by decide +kernel) rfl)
theorem lk_Walks_22 : LK R_Walks 22 Y_Walks_lengthen := Or.inl (wA 719 (by decide +kernel) rfl)
theorem lk_Walks_26 : LK R_Walks 26 Y_Main_soundsWell := Or.inr ⟨"OneTuneNine", List.mem_of_getElem? (i := 19) (by decide +kernel)⟩
theorem lk_Law_97 : LK "OneTuneNineLaw" 97 Y_Main_range := Or.inl (wA 724 (by decide +kernel) rfl)
theorem lk_Main_199 : LK R_Main 199 Y_Canon_farthestSound := Or.inl (wA 728 (by decide +kernel) rfl)
theorem lm_Canon_139 : Cond.methodLink R_Canon 139 ⟨"java/lang/Math", "min", "(II)I"⟩ ∈ wsAll := wA 732 (by decide +kernel) rfl
theorem lk_Law_101 : LK "OneTuneNineLaw" 101 Y_Main_stop := Or.inl (wA 733 (by decide +kernel) rfl)
theorem lk_Main_203 : LK R_Main 203 Y_Canon_stillIfStoppedAt := Or.inl (wA 737 (by decide +kernel) rfl)
theorem lk_Law_105 : LK "OneTuneNineLaw" 105 Y_Main_unison := Or.inl (wA 741 (by decide +kernel) rfl)
theorem lk_Main_206 : LK R_Main 206 Y_Canon_unisonBeats := Or.inl (wA 745 (by decide +kernel) rfl)
theorem lk_Canon_142 : LK R_Canon 142 Y_Canon_isUnison := Or.inl (wA 749 (by decide +kernel) rfl)
theorem lk_Law_109 : LK "OneTuneNineLaw" 109 Y_Main_row := Or.inl (wA 753 (by decide +kernel) rfl)
theorem lk_Main_209 : LK R_Main 209 Y_Row_size := Or.inl (wA 757 (by decide +kernel) rfl)
theorem lk_Law_113 : LK "OneTuneNineLaw" 113 Y_Main_who := Or.inl (wA 758 (by decide +kernel) rfl)
theorem lk_Main_210 : LK R_Main 210 Y_Canon_voices := Or.inl (wA 762 (by decide +kernel) rfl)
theorem lk_Main_213 : LK R_Main 213 Y_Canon_firstNotHeard := Or.inl (wA 763 (by decide +kernel) rfl)
theorem lk_Law_117 : LK "OneTuneNineLaw" 117 Y_Main_judge := Or.inl (wA 767 (by decide +kernel) rfl)
theorem lk_Main_217 : LK R_Main 217 Y_Row_clear := Or.inl (wA 771 (by decide +kernel) rfl)
theorem lk_Law_121 : LK "OneTuneNineLaw" 121 Y_Main_seeds := Or.inl (wA 772 (by decide +kernel) rfl)
theorem lk_Main_218 : LK R_Main 218 Y_Mind_wellDraws := Or.inl (wA 776 (by decide +kernel) rfl)
theorem cn_Mind_94 : Cond.constant R_Mind 94 1664525 ∈ wsAll := wA 780 (by decide +kernel) rfl
theorem cn_Mind_95 : Cond.constant R_Mind 95 1013904223 ∈ wsAll := wA 781 (by decide +kernel) rfl
theorem cn_Mind_96 : Cond.constant R_Mind 96 2147483647 ∈ wsAll := wA 782 (by decide +kernel) rfl
theorem lk_Law_125 : LK "OneTuneNineLaw" 125 Y_Main_image := Or.inl (wA 783 (by decide +kernel) rfl)
theorem lk_Main_221 : LK R_Main 221 Y_Tune_notes := Or.inl (wA 787 (by decide +kernel) rfl)
theorem lk_Law_129 : LK "OneTuneNineLaw" 129 Y_Main_on := Or.inl (wA 788 (by decide +kernel) rfl)
theorem lk_Law_133 : LK "OneTuneNineLaw" 133 Y_Main_count := Or.inl (wA 792 (by decide +kernel) rfl)
theorem lk_Main_227 : LK R_Main 227 Y_Canon_end := Or.inl (wA 796 (by decide +kernel) rfl)
theorem nc_Law_10 : Cond.classLink "OneTuneNineLaw" 10 R_Model ∈ wsAll := wA 797 (by decide +kernel) rfl
theorem ni_Model : Cond.instantiable R_Model 17 ∈ wsAll := wA 798 (by decide +kernel) rfl
theorem nz_Model : Cond.initialized R_Model ∈ wsAll := wA 9 (by decide +kernel) rfl
theorem lk_Law_12 : LK "OneTuneNineLaw" 12 Y_Model_init := Or.inl (wA 799 (by decide +kernel) rfl)
theorem lo_Model_7 : Cond.methodLink R_Model 7 objectInit ∈ wsAll := wA 802 (by decide +kernel) rfl
theorem fl_Model_1 : FL R_Model 1 8 0 := ⟨_, rfl, by decide, rfl, Or.inl (wA 803 (by decide +kernel) rfl)⟩
theorem fl_Model_13 : FL R_Model 13 8 1 := ⟨_, rfl, by decide, rfl, Or.inl (wA 804 (by decide +kernel) rfl)⟩
theorem fl_Model_16 : FL R_Model 16 8 2 := ⟨_, rfl, by decide, rfl, Or.inl (wA 805 (by decide +kernel) rfl)⟩
theorem fl_Model_19 : FL R_Model 19 8 3 := ⟨_, rfl, by decide, rfl, Or.inl (wA 806 (by decide +kernel) rfl)⟩
theorem fl_Model_41 : FL R_Model 41 8 4 := ⟨_, rfl, by decide, rfl, Or.inl (wA 807 (by decide +kernel) rfl)⟩
theorem fl_Model_22 : FL R_Model 22 8 5 := ⟨_, rfl, by decide, rfl, Or.inl (wA 808 (by decide +kernel) rfl)⟩
theorem fl_Model_53 : FL R_Model 53 8 6 := ⟨_, rfl, by decide, rfl, Or.inl (wA 809 (by decide +kernel) rfl)⟩
theorem fl_Model_60 : FL R_Model 60 8 7 := ⟨_, rfl, by decide, rfl, Or.inl (wA 810 (by decide +kernel) rfl)⟩
theorem fl_Model_57 : FL R_Model 57 8 8 := ⟨_, rfl, by decide, rfl, Or.inl (wA 811 (by decide +kernel) rfl)⟩
theorem fl_Model_25 : FL R_Model 25 8 9 := ⟨_, rfl, by decide, rfl, Or.inl (wA 812 (by decide +kernel) rfl)⟩
theorem fl_Model_29 : FL R_Model 29 8 10 := ⟨_, rfl, by decide, rfl, Or.inl (wA 813 (by decide +kernel) rfl)⟩
theorem fl_Model_67 : FL R_Model 67 8 11 := ⟨_, rfl, by decide, rfl, Or.inl (wA 814 (by decide +kernel) rfl)⟩
theorem fl_Model_32 : FL R_Model 32 8 12 := ⟨_, rfl, by decide, rfl, Or.inl (wA 815 (by decide +kernel) rfl)⟩
theorem fl_Model_35 : FL R_Model 35 8 13 := ⟨_, rfl, by decide, rfl, Or.inl (wA 816 (by decide +kernel) rfl)⟩
theorem fl_Model_122 : FL R_Model 122 8 14 := ⟨_, rfl, by decide, rfl, Or.inl (wA 817 (by decide +kernel) rfl)⟩
theorem fl_Model_38 : FL R_Model 38 8 15 := ⟨_, rfl, by decide, rfl, Or.inl (wA 818 (by decide +kernel) rfl)⟩
theorem fl_Model_178 : FL R_Model 178 8 16 := ⟨_, rfl, by decide, rfl, Or.inl (wA 819 (by decide +kernel) rfl)⟩
theorem ac_char : Cond.arrayClass .char ∈ wsAll := wA 855 (by decide +kernel) rfl
theorem lk_Law_128 : LK "OneTuneNineLaw" 128 Y_Model_image := Or.inl (wA 856 (by decide +kernel) rfl)
theorem lk_Model_45 : LK R_Model 45 Y_Model_move := Or.inl (wA 860 (by decide +kernel) rfl)
theorem lk_Law_132 : LK "OneTuneNineLaw" 132 Y_Model_on := Or.inl (wA 863 (by decide +kernel) rfl)
theorem lk_Model_49 : LK R_Model 49 Y_Model_no := Or.inl (wA 867 (by decide +kernel) rfl)
theorem lk_Law_17 : LK "OneTuneNineLaw" 17 Y_Model_letter := Or.inl (wA 871 (by decide +kernel) rfl)
theorem lk_Law_22 : LK "OneTuneNineLaw" 22 Y_Model_canon := Or.inl (wA 875 (by decide +kernel) rfl)
theorem lk_Model_87 : LK R_Model 87 Y_Model_read := Or.inl (wA 879 (by decide +kernel) rfl)
theorem lk_Model_77 : LK R_Model 77 Y_Model_statement := Or.inl (wA 883 (by decide +kernel) rfl)
theorem lk_Model_63 : LK R_Model 63 Y_Model_oneOf := Or.inl (wA 887 (by decide +kernel) rfl)
theorem lk_Model_70 : LK R_Model 70 Y_Model_figures := Or.inl (wA 891 (by decide +kernel) rfl)
theorem lk_Model_73 : LK R_Model 73 Y_Model_expect := Or.inl (wA 895 (by decide +kernel) rfl)
theorem lk_Model_80 : LK R_Model 80 Y_Model_isAsItMustBe := Or.inl (wA 899 (by decide +kernel) rfl)
theorem lk_Model_84 : LK R_Model 84 Y_Model_come := Or.inl (wA 903 (by decide +kernel) rfl)
theorem lk_Law_27 : LK "OneTuneNineLaw" 27 Y_Model_note := Or.inl (wA 907 (by decide +kernel) rfl)
theorem lk_Model_137 : LK R_Model 137 Y_Model_isNoNote := Or.inl (wA 911 (by decide +kernel) rfl)
theorem lk_Model_91 : LK R_Model 91 Y_Model_firstBeat := Or.inl (wA 915 (by decide +kernel) rfl)
theorem lk_Law_31 : LK "OneTuneNineLaw" 31 Y_Model_voice := Or.inl (wA 919 (by decide +kernel) rfl)
theorem lk_Model_141 : LK R_Model 141 Y_Model_isNoVoice := Or.inl (wA 923 (by decide +kernel) rfl)
theorem lk_Model_100 : LK R_Model 100 Y_Model_roundOf := Or.inl (wA 927 (by decide +kernel) rfl)
theorem lk_Model_94 : LK R_Model 94 Y_Model_beats := Or.inl (wA 931 (by decide +kernel) rfl)
theorem lk_Model_111 : LK R_Model 111 Y_Model_endOf := Or.inl (wA 935 (by decide +kernel) rfl)
theorem lk_Law_35 : LK "OneTuneNineLaw" 35 Y_Model_pitch := Or.inl (wA 939 (by decide +kernel) rfl)
theorem lk_Model_144 : LK R_Model 144 Y_Model_become := Or.inl (wA 943 (by decide +kernel) rfl)
theorem lk_Law_39 : LK "OneTuneNineLaw" 39 Y_Model_enter := Or.inl (wA 947 (by decide +kernel) rfl)
theorem lk_Law_43 : LK "OneTuneNineLaw" 43 Y_Model_rounds := Or.inl (wA 951 (by decide +kernel) rfl)
theorem lk_Law_47 : LK "OneTuneNineLaw" 47 Y_Model_step := Or.inl (wA 955 (by decide +kernel) rfl)
theorem lk_Law_51 : LK "OneTuneNineLaw" 51 Y_Model_law := Or.inl (wA 959 (by decide +kernel) rfl)
theorem lk_Law_55 : LK "OneTuneNineLaw" 55 Y_Model_sound := Or.inl (wA 963 (by decide +kernel) rfl)
theorem cn_Model_147 : Cond.constant R_Model 147 1000000000 ∈ wsAll := wA 967 (by decide +kernel) rfl
theorem lk_Model_148 : LK R_Model 148 Y_Model_isWrong := Or.inl (wA 968 (by decide +kernel) rfl)
theorem lk_Model_125 : LK R_Model 125 Y_Model_soundAt := Or.inl (wA 971 (by decide +kernel) rfl)
theorem lk_Model_107 : LK R_Model 107 Y_Model_soundOf := Or.inl (wA 975 (by decide +kernel) rfl)
theorem lk_Model_103 : LK R_Model 103 Y_Model_said := Or.inl (wA 979 (by decide +kernel) rfl)
theorem lk_Model_97 : LK R_Model 97 Y_Model_plain := Or.inl (wA 983 (by decide +kernel) rfl)
theorem lk_Law_59 : LK "OneTuneNineLaw" 59 Y_Model_ill := Or.inl (wA 987 (by decide +kernel) rfl)
theorem lk_Model_134 : LK R_Model 134 Y_Model_illAt := Or.inl (wA 991 (by decide +kernel) rfl)
theorem lk_Model_128 : LK R_Model 128 Y_Model_agree := Or.inl (wA 995 (by decide +kernel) rfl)
theorem lm_Model_119 : Cond.methodLink R_Model 119 ⟨"java/lang/Math", "abs", "(I)I"⟩ ∈ wsAll := wA 999 (by decide +kernel) rfl
theorem lk_Law_63 : LK "OneTuneNineLaw" 63 Y_Model_first := Or.inl (wA 1000 (by decide +kernel) rfl)
theorem lk_Model_131 : LK R_Model 131 Y_Model_end := Or.inl (wA 1004 (by decide +kernel) rfl)
theorem lm_Model_114 : Cond.methodLink R_Model 114 ⟨"java/lang/Math", "max", "(II)I"⟩ ∈ wsAll := wA 1008 (by decide +kernel) rfl
theorem lk_Law_67 : LK "OneTuneNineLaw" 67 Y_Model_allIll := Or.inl (wA 1009 (by decide +kernel) rfl)
theorem lk_Model_152 : LK R_Model 152 Y_Model_illAll := Or.inl (wA 1013 (by decide +kernel) rfl)
theorem lk_Law_71 : LK "OneTuneNineLaw" 71 Y_Model_entries := Or.inl (wA 1017 (by decide +kernel) rfl)
theorem lk_Model_155 : LK R_Model 155 Y_Model_fitsAll := Or.inl (wA 1021 (by decide +kernel) rfl)
theorem lk_Law_75 : LK "OneTuneNineLaw" 75 Y_Model_added := Or.inl (wA 1025 (by decide +kernel) rfl)
theorem lk_Model_159 : LK R_Model 159 Y_Model_isWell := Or.inl (wA 1029 (by decide +kernel) rfl)
theorem lk_Law_79 : LK "OneTuneNineLaw" 79 Y_Model_silent := Or.inl (wA 1033 (by decide +kernel) rfl)
theorem lk_Law_83 : LK "OneTuneNineLaw" 83 Y_Model_changed := Or.inl (wA 1037 (by decide +kernel) rfl)
theorem lk_Model_163 : LK R_Model 163 Y_Model_oneChange := Or.inl (wA 1041 (by decide +kernel) rfl)
theorem lk_Model_166 : LK R_Model 166 Y_Model_isTwoChanges := Or.inl (wA 1045 (by decide +kernel) rfl)
theorem lk_Law_87 : LK "OneTuneNineLaw" 87 Y_Model_better := Or.inl (wA 1049 (by decide +kernel) rfl)
theorem lm_Model_169 : Cond.methodLink R_Model 169 ⟨"java/lang/Math", "min", "(II)I"⟩ ∈ wsAll := wA 1053 (by decide +kernel) rfl
theorem lk_Law_91 : LK "OneTuneNineLaw" 91 Y_Model_mirror := Or.inl (wA 1054 (by decide +kernel) rfl)
theorem lk_Law_96 : LK "OneTuneNineLaw" 96 Y_Model_agreeing := Or.inl (wA 1058 (by decide +kernel) rfl)
theorem cn_Model_172 : Cond.constantLong R_Model 172 4000000000000000000 ∈ wsAll := wA 1062 (by decide +kernel) rfl
theorem lk_Model_174 : LK R_Model 174 Y_Model_chains := Or.inl (wA 1063 (by decide +kernel) rfl)
theorem lk_Law_100 : LK "OneTuneNineLaw" 100 Y_Model_range := Or.inl (wA 1067 (by decide +kernel) rfl)
theorem lk_Law_104 : LK "OneTuneNineLaw" 104 Y_Model_stop := Or.inl (wA 1071 (by decide +kernel) rfl)
theorem lk_Law_108 : LK "OneTuneNineLaw" 108 Y_Model_unison := Or.inl (wA 1075 (by decide +kernel) rfl)
theorem lk_Law_112 : LK "OneTuneNineLaw" 112 Y_Model_row := Or.inl (wA 1079 (by decide +kernel) rfl)
theorem lk_Law_116 : LK "OneTuneNineLaw" 116 Y_Model_who := Or.inl (wA 1083 (by decide +kernel) rfl)
theorem lk_Model_181 : LK R_Model 181 Y_Model_unlike := Or.inl (wA 1087 (by decide +kernel) rfl)
theorem lk_Law_120 : LK "OneTuneNineLaw" 120 Y_Model_judge := Or.inl (wA 1091 (by decide +kernel) rfl)
theorem lk_Law_124 : LK "OneTuneNineLaw" 124 Y_Model_seeds := Or.inl (wA 1095 (by decide +kernel) rfl)
theorem cn_Model_184 : Cond.constant R_Model 184 1664525 ∈ wsAll := wA 1099 (by decide +kernel) rfl
theorem cn_Model_185 : Cond.constant R_Model 185 1013904223 ∈ wsAll := wA 1100 (by decide +kernel) rfl
theorem cn_Model_186 : Cond.constant R_Model 186 2147483647 ∈ wsAll := wA 1101 (by decide +kernel) rfl
theorem lk_Law_136 : LK "OneTuneNineLaw" 136 Y_Model_count := Or.inl (wA 1102 (by decide +kernel) rfl)
theorem mst_abs : Cond.static Lib.Math.abs.name ∈ wsAll := wA 527 (by decide +kernel) rfl
theorem mco_abs : Cond.code Lib.Math.abs.name Lib.Math.abs.code 1 (some .int) ∈ wsAll := wA 528 (by decide +kernel) rfl
theorem mst_max : Cond.static Lib.Math.max.name ∈ wsAll := wA 543 (by decide +kernel) rfl
theorem mco_max : Cond.code Lib.Math.max.name Lib.Math.max.code 2 (some .int) ∈ wsAll := wA 544 (by decide +kernel) rfl
theorem mst_min : Cond.static Lib.Math.min.name ∈ wsAll := wA 595 (by decide +kernel) rfl
theorem mco_min : Cond.code Lib.Math.min.name Lib.Math.min.code 2 (some .int) ∈ wsAll := wA 596 (by decide +kernel) rfl
theorem min_M : Cond.initialized "java/lang/Math" ∈ wsAll := wA 14 (by decide +kernel) rfl
theorem ob_i : Cond.instanceMethod objectInit ∈ wsAll := wA 21 (by decide +kernel) rfl
theorem ob_c : Cond.code objectInit ⟨#[0xb1]⟩ 1 none ∈ wsAll := wA 22 (by decide +kernel) rfl
end
section
/-! THE LOGIC OF FRAMES OVER ABSTRACT HEAPS. V says: the machine, at a frame of method Y whose locals, stack and heap are described, comes to a return with F. -/
/-- a cell of the law's own -/
def CellAt (G : Gx) (c : AC) (a : Nat) (H : Heap) : Prop := match c with
  | .inl o => ∃ r : vw_C, cl[o.1]? = some r ∧ t_OB a ((gD G).1 o.1) r.2.2 ((gD G).2 o.1) H (vp_V (cS G o.2))
  | .inr o => H[a]? = some (arrV (gA G o.1) o.2.length (fun j => if o.1 = 1 then .long (Int64.ofInt (o.2.getD j 0)) else .int (Int32.ofInt (o.2.getD j 0))))
def aty (t : Nat) : FieldType := match t with
  | 0 => .int
  | 1 => .long
  | _ => .char
def Rep (G : Gx) (h : AH) (H : Heap) : Prop :=
  100 ≤ h.1 ∧ gz G = (gH G).size ∧ H.size = gz G + (h.1 - 100) ∧ (∀ q, q < gz G → H[q]? = (gH G)[q]?) ∧ ∀ a c, h.2 a = some c → 100 ≤ a ∧ a < h.1 ∧ CellAt G c (Ad G a) H
/-- what is known of the String constants -/
def sIdx (i : Nat) : Nat := [41, 55, 57, 59, 61, 63].getD i 0
def sTx (i : Nat) : String := ["vbtsfx", "v@##,#;", "v@#,#;", "r##;", "w#;", "n##;"].getD i ""
def sLen : List Nat := [6, 7, 6, 4, 3, 4]
def sByt : List (List Int32) := [[118, 98, 116, 115, 102, 120], [118, 64, 35, 35, 44, 35, 59], [118, 64, 35, 44, 35, 59], [114, 35, 35, 59], [119, 35, 59], [110, 35, 35, 59]]
def sfm (U : State) (H : Heap) (z : Nat) : Prop := ∃ v : Value, va_Z "jdk/internal/util/Preconditions" "SIOOBE_FORMATTER" "Ljava/util/function/BiFunction;" v (fun q => z ≤ q) U H ∧ (v = .null ∨ ∃ a, v = .ref a)
/-- what the tables say at a state: the classes, the arrays' classes, the links between nest mates, the constants, the script -/
def KS (G : Gx) (s : State) : Prop :=
  va_K (gD G) cl [(gA G 0, .int), (gA G 1, .long), (gA G 2, .char)] s ∧ (∀ w ∈ nestAll, va_Nw w s) ∧ (∀ i, i < 6 → vk_R R_Text (sIdx i) (sTx i) (gS G (1 + i)) s) ∧
  vk_S 6 sLen sByt (fun i => gS G (1 + i)) (fun i => gS G (7 + i)) (fun q => gz G ≤ q) s (gH G) ∧ va_Z "java/lang/String" "COMPACT_STRINGS" "Z" (.int 1) (fun q => gz G ≤ q) s (gH G) ∧ sfm s (gH G) (gz G) ∧
  va_X (gS G 0) (gL G) (gX G) s (gH G) ∧ gS G 0 < gz G ∧ gL G ≤ 1536
theorem nest_warm {w : Cond} (hw : w ∈ nestAll) {s U : State} (hW : s.WarmedH U.vm) (h : va_Nw w s) : va_Nw w U := by
  simp only [nestAll, List.mem_cons, List.not_mem_nil, or_false] at hw
  rcases hw with rfl | rfl | rfl | rfl | rfl | rfl | rfl | rfl | rfl | rfl | rfl | rfl | rfl | rfl | rfl | rfl | rfl | rfl | rfl | rfl <;> first | exact va_Nw.warmF hW h | exact va_Nw.warmM hW h
theorem KS.warm {G : Gx} {s U : State} (hW : s.WarmedH U.vm) (h : KS G s) : KS G U := by
  obtain ⟨h1, h2, h3, h4, h5, ⟨v, h6, h6'⟩, h7, h8, h9⟩ := h
  exact ⟨va_K.moved hW.alike h1, fun w hw => nest_warm hw hW (h2 w hw), fun i hi => (h3 i hi).warm hW, h4.moved hW.alike, h5.moved hW.alike, ⟨v, h6.moved hW.alike, h6'⟩, h7.moved hW.alike, h8, h9⟩
theorem KS.same {G : Gx} {s U : State} (hW : s.vm = U.vm) (h : KS G s) : KS G U := by
  obtain ⟨h1, h2, h3, h4, h5, ⟨v, h6, h6'⟩, h7, h8, h9⟩ := h
  have ha : s.vm.Alike U.vm := by rw [hW]; exact Vm.Alike.refl _
  exact ⟨va_K.moved ha h1, fun w hw => va_Nw.same (nest_on w hw) hW (h2 w hw), fun i hi => (h3 i hi).same hW.symm, h4.moved ha, h5.moved ha, ⟨v, h6.moved ha, h6'⟩, h7.moved ha, h8, h9⟩
def VC (G : Gx) (Y : Yx) (p : Program) (s : State) (m : MethodId) (args : Array Value) (meth : Method) (c : Code) : Prop :=
  p.tables.exec = Jvm.exec ∧ c.code = Y.2.1 ∧ c.maxLocals = Y.2.2.1 ∧ meth.sig.returnType = Y.2.2.2 ∧ meth.locks = false ∧ s.vm.findClass Y.1.cls = some m.cls ∧ meth.name = Y.1.name ∧ (∀ w ∈ wsAll, w.before args s = true) ∧ KS G s
/-- the locals that are known, by their places -/
def prs (G : Gx) : Nat → List (Option AV) → List (Nat × Value)
  | _, [] => []
  | k, none :: t => prs G (k + 1) t
  | k, some v :: t => (k, cv G v) :: prs G (k + 1) t
theorem prs_mem {G : Gx} : ∀ (l : List (Option AV)) (k : Nat) (q : Nat × Value), q ∈ prs G k l ↔ ∃ i v, l[i]? = some (some v) ∧ q = (k + i, cv G v)
  | [], k, q => by simp [prs]
  | none :: t, k, q => by
    rw [prs, prs_mem t (k + 1) q]
    constructor
    · rintro ⟨i, v, h1, h2⟩
      exact ⟨i + 1, v, by simpa using h1, by rw [h2]; congr 1; omega⟩
    · rintro ⟨i, v, h1, h2⟩
      cases i with
      | zero => simp at h1
      | succ i => exact ⟨i, v, by simpa using h1, by rw [h2]; congr 1; omega⟩
  | some w :: t, k, q => by
    rw [prs, List.mem_cons, prs_mem t (k + 1) q]
    constructor
    · rintro (h | ⟨i, v, h1, h2⟩)
      · exact ⟨0, w, by simp, by rw [h]; rfl⟩
      · exact ⟨i + 1, v, by simpa using h1, by rw [h2]; congr 1; omega⟩
    · rintro ⟨i, v, h1, h2⟩
      cases i with
      | zero =>
        simp at h1
        subst h1
        exact Or.inl h2
      | succ i => exact Or.inr ⟨i, v, by simpa using h1, by rw [h2]; congr 1; omega⟩
def aLS (G : Gx) (ls : List (Option AV)) (lsC : Array Slot) (nL : Nat) : Prop := lv_has lsC nL (prs G 0 ls)
theorem aLS.at {G : Gx} {ls : List (Option AV)} {lsC : Array Slot} {nL i : Nat} {v : AV} (h : aLS G ls lsC nL) (hi : ls[i]? = some (some v)) : lsC[i]? = some (.val (cv G v)) :=
  h.2.2 (i, cv G v) ((prs_mem ls 0 _).mpr ⟨i, v, hi, by simp⟩)
def isL : Option AV → Bool
  | some (.inr (.inl _)) => true
  | _ => false
def killJ (x : Option AV) : Option AV := if isL x then none else x
/-- a value of one slot stored at a place -/
def st1 : Nat → AV → List (Option AV) → List (Option AV)
  | 0, v, _ :: t => some v :: t
  | 1, v, a :: _ :: t => killJ a :: some v :: t
  | i + 2, v, a :: t => a :: st1 (i + 1) v t
  | _, _, l => l
/-- a long stored at a place -/
def st2 : Nat → AV → List (Option AV) → List (Option AV)
  | 0, v, _ :: _ :: t => some v :: none :: t
  | 1, v, a :: _ :: _ :: t => killJ a :: some v :: none :: t
  | i + 2, v, a :: t => a :: st2 (i + 1) v t
  | _, _, l => l
theorem st1_get : ∀ (i : Nat) (v : AV) (l : List (Option AV)) (j : Nat) (w : AV), i < l.length → (st1 i v l)[j]? = some (some w) → (j = i ∧ w = v) ∨ (j ≠ i ∧ l[j]? = some (some w) ∧ ¬ (j + 1 = i ∧ isL (some w) = true))
  | 0, v, [], j, w, hi, h => by simp at hi
  | 0, v, a :: t, j, w, hi, h => by
    cases j with
    | zero => simp [st1] at h; exact Or.inl ⟨rfl, h.symm⟩
    | succ j => exact Or.inr ⟨by omega, by simpa [st1] using h, by omega⟩
  | 1, v, [], j, w, hi, h => by simp at hi
  | 1, v, [a], j, w, hi, h => by simp at hi
  | 1, v, a :: b :: t, j, w, hi, h => by
    match j, h with
    | 0, h =>
      refine Or.inr ⟨by omega, ?_, ?_⟩
      · simp only [st1, List.getElem?_cons_zero, Option.some.injEq, killJ] at h
        split at h
        · cases h
        · simp [h]
      · simp only [st1, List.getElem?_cons_zero, Option.some.injEq, killJ] at h
        split at h
        · cases h
        · rename_i hn
          rw [h] at hn
          exact fun q => hn q.2
    | 1, h => simp [st1] at h; exact Or.inl ⟨rfl, h.symm⟩
    | j + 2, h => exact Or.inr ⟨by omega, by simpa [st1] using h, by omega⟩
  | i + 2, v, [], j, w, hi, h => by simp at hi
  | i + 2, v, a :: t, j, w, hi, h => by
    cases j with
    | zero => exact Or.inr ⟨by omega, by simpa [st1] using h, by omega⟩
    | succ j =>
      have hi' : i + 1 < t.length := by simp at hi; omega
      have := st1_get (i + 1) v t j w hi' (by simpa [st1] using h)
      rcases this with ⟨e1, e2⟩ | ⟨e1, e2, e3⟩
      · exact Or.inl ⟨by omega, e2⟩
      · exact Or.inr ⟨by omega, by simpa using e2, fun q => e3 ⟨by omega, q.2⟩⟩
theorem isL_cat (G : Gx) (w : AV) : (cv G w).category == 2 ↔ isL (some w) = true := by
  rcases w with n | n | _ | a <;> simp [cv, Value.category, isL]
theorem aLS.st1 {G : Gx} {ls : List (Option AV)} {ls' : Array Slot} {nL i : Nat} {v : AV} (hi : i < ls.length)
    (h : lv_has ls' nL ((i, cv G v) :: (prs G 0 ls).filter (fun q => !(q.1 == i) && !(q.1 + 1 == i && q.2.category == 2)))) : aLS G (st1 i v ls) ls' nL := by
  refine ⟨h.1, h.2.1, fun q hq => ?_⟩
  obtain ⟨j, w, h1, rfl⟩ := (prs_mem _ 0 _).mp hq
  rw [Nat.zero_add]
  refine h.2.2 (j, cv G w) ?_
  rcases st1_get i v ls j w hi h1 with ⟨rfl, rfl⟩ | ⟨e1, e2, e3⟩
  · exact List.mem_cons_self
  · refine List.mem_cons_of_mem _ (List.mem_filter.mpr ⟨(prs_mem ls 0 _).mpr ⟨j, w, e2, by simp⟩, ?_⟩)
    simp only [Bool.and_eq_true, Bool.not_eq_true', beq_eq_false_iff_ne, ne_eq, Bool.and_eq_false_iff]
    refine ⟨e1, ?_⟩
    by_cases hj : j + 1 = i
    · right
      have : ¬ isL (some w) = true := fun q => e3 ⟨hj, q⟩
      have h2 := mt (isL_cat G w).mp this
      simpa using h2
    · left; exact hj
end
section
/-- how a method's instruction of return fits its type -/
def RetOK (G : Gx) (i : Instr) (ret : Option FieldType) (v : Option AV) : Prop := match v with
  | none => i = .return_ ∧ ret = none
  | some (.inl n) => i = .ireturn ∧ ∃ ty, ret = some ty ∧ narrow ty (.int (Int32.ofInt n)) = .int (Int32.ofInt n)
  | some (.inr (.inl _)) => i = .lreturn ∧ ret = some .long
  | some (.inr (.inr _)) => i = .areturn ∧ ∃ n, ret = some (.object n)
def VE (G : Gx) (Y : Yx) (p : Program) (l : Launch) (e : Env) (R : Room) (s : State) (m : MethodId) (args : Array Value) (below : List Frame) (meth : Method) (c : Code) (F : Option AV → AH → Prop) (Q : State → Prop) : Prop :=
  ∀ (v : Option AV) (h : AH) (H : Heap) (locs : List Loc) (cells slots pc : Nat) (lsC : Array Slot) (i : Instr), F v h → Rep G h H → (∀ q ∈ locs, gz G ≤ q.base) → cells ≤ R.cells → slots ≤ R.slots → decode Y.2.1 pc = .ok (i, 1) → RetOK G i Y.2.2.2 v →
    W p l e R s m args below meth c H locs cells slots Q (F0 m pc lsC (cS G v.toList))
/-- from a frame at pc with locals ls, stack st and heap h the method comes to a return with F; d levels of calls, rc cells and rs slots are at hand -/
def V (G : Gx) (Y : Yx) (d rc rs pc : Nat) (ls : List (Option AV)) (st : List AV) (h : AH) (F : Option AV → AH → Prop) : Prop :=
  ∀ (p : Program) (l : Launch) (e : Env) (R : Room) (s : State) (m : MethodId) (args : Array Value) (below : List Frame) (meth : Method) (c : Code) (Q : State → Prop),
    VC G Y p s m args meth c → VE G Y p l e R s m args below meth c F Q → d ≤ R.frames → 38 * d ≤ R.locals →
    ∀ (H : Heap) (locs : List Loc) (cells slots : Nat) (lsC : Array Slot), Rep G h H → (∀ q ∈ locs, gz G ≤ q.base) → cells + rc ≤ R.cells → slots + rs ≤ R.slots → aLS G ls lsC Y.2.2.1 →
      W p l e R s m args below meth c H locs cells slots Q (F0 m pc lsC (cS G st))
section VR
variable {G : Gx} {Y : Yx} {d rc rs pc : Nat} {ls : List (Option AV)} {st : List AV} {h : AH} {F : Option AV → AH → Prop}
theorem V.lift {pc' : Nat} {ls' : List (Option AV)} {st' : List AV}
    (H1 : ∀ (p : Program) (l : Launch) (e : Env) (R : Room) (s : State) (m : MethodId) (args : Array Value) (below : List Frame) (meth : Method) (c : Code) (H : Heap) (locs : List Loc) (cells slots : Nat) (Q : State → Prop) (lsC : Array Slot),
      VC G Y p s m args meth c → aLS G ls lsC Y.2.2.1 → cells ≤ R.cells → slots ≤ R.slots → d ≤ R.frames → 38 * d ≤ R.locals → (∀ lsC', aLS G ls' lsC' Y.2.2.1 → W p l e R s m args below meth c H locs cells slots Q (F0 m pc' lsC' (cS G st'))) → W p l e R s m args below meth c H locs cells slots Q (F0 m pc lsC (cS G st)))
    (k : V G Y d rc rs pc' ls' st' h F) : V G Y d rc rs pc ls st h F := by
  intro p l e R s m args below meth c Q hC hE hd hl H locs cells slots lsC hR hL hc hs hls
  exact H1 p l e R s m args below meth c H locs cells slots Q lsC hC hls (by omega) (by omega) hd hl (fun lsC' h' => k p l e R s m args below meth c Q hC hE hd hl H locs cells slots lsC' hR hL hc hs h')
theorem V.mono {F' : Option AV → AH → Prop} (hF : ∀ v h, F v h → F' v h) (k : V G Y d rc rs pc ls st h F) : V G Y d rc rs pc ls st h F' := by
  intro p l e R s m args below meth c Q hC hE
  exact k p l e R s m args below meth c Q hC (fun v h H locs cells slots pc lsC i hf => hE v h H locs cells slots pc lsC i (hF v h hf))
/-- fewer cells are asked -/
theorem V.less {rc' rs' : Nat} (h1 : rc ≤ rc') (h2 : rs ≤ rs') (k : V G Y d rc rs pc ls st h F) : V G Y d rc' rs' pc ls st h F := by
  intro p l e R s m args below meth c Q hC hE hd hl H locs cells slots lsC hR hL hc hs hls
  exact k p l e R s m args below meth c Q hC hE hd hl H locs cells slots lsC hR hL (by omega) (by omega) hls
/-- less is known of the locals -/
theorem V.wk (ls' : List (Option AV)) (hw : ∀ (i : Nat) (v : AV), ls'[i]? = some (some v) → ls[i]? = some (some v)) (k : V G Y d rc rs pc ls' st h F) : V G Y d rc rs pc ls st h F :=
  V.lift (fun p l e R s m args below meth c H locs cells slots Q lsC _ hls _ _ _ _ k => k lsC ⟨hls.1, hls.2.1, fun q hq => by
    obtain ⟨i, v, h1, rfl⟩ := (prs_mem _ 0 _).mp hq
    exact hls.2.2 _ ((prs_mem _ 0 _).mpr ⟨i, v, hw i v h1, rfl⟩)⟩) k
theorem v_iconst {n : Int} (hd : decode Y.2.1 pc = .ok (.iconst n, 1)) (k : V G Y d rc rs (pc + 1) ls (aI n :: st) h F) : V G Y d rc rs pc ls st h F :=
  V.lift (fun _ _ _ _ _ _ _ _ _ _ _ _ _ _ _ lsC hC hls _ _ _ _ k => lv_iconst hC.1 hC.2.1 hd rfl (k lsC hls)) k
theorem v_bipush {n : Int} (hd : decode Y.2.1 pc = .ok (.bipush n, 2)) (hn : -128 ≤ n ∧ n ≤ 127) (k : V G Y d rc rs (pc + 2) ls (aI n :: st) h F) : V G Y d rc rs pc ls st h F :=
  V.lift (fun _ _ _ _ _ _ _ _ _ _ _ _ _ _ _ lsC hC hls _ _ _ _ k => lv_bipush hC.1 hC.2.1 hd (v := Int32.ofInt n) (by
    apply Int32.toInt_inj.mp
    rw [Int8.toInt_toInt32, Int8.toInt_ofInt_of_le (by omega) (by omega), oi_toInt ⟨by omega, by omega⟩]) (k lsC hls)) k
theorem v_sipush {n : Int} (hd : decode Y.2.1 pc = .ok (.sipush n, 3)) (hn : -32768 ≤ n ∧ n ≤ 32767) (k : V G Y d rc rs (pc + 3) ls (aI n :: st) h F) : V G Y d rc rs pc ls st h F :=
  V.lift (fun _ _ _ _ _ _ _ _ _ _ _ _ _ _ _ lsC hC hls _ _ _ _ k => lv_sipush hC.1 hC.2.1 hd (v := Int32.ofInt n) (by
    apply Int32.toInt_inj.mp
    rw [Int16.toInt_toInt32, Int16.toInt_ofInt_of_le (by omega) (by omega), oi_toInt ⟨by omega, by omega⟩]) (k lsC hls)) k
theorem v_lconst {n : Fin 2} (hd : decode Y.2.1 pc = .ok (.lconst n, 1)) (k : V G Y d rc rs (pc + 1) ls (aJ (n : Nat) :: st) h F) : V G Y d rc rs pc ls st h F :=
  V.lift (fun _ _ _ _ _ _ _ _ _ _ _ _ _ _ _ lsC hC hls _ _ _ _ k => lv_lconst hC.1 hC.2.1 hd (v := Int64.ofInt (n : Nat)) (Int64.ofInt_eq_ofNat).symm (k lsC hls)) k
theorem v_iload_n {n : Fin 4} {x : Int} (hd : decode Y.2.1 pc = .ok (.iload_n n, 1)) (hl : ls[(n : Nat)]? = some (some (aI x))) (k : V G Y d rc rs (pc + 1) ls (aI x :: st) h F) : V G Y d rc rs pc ls st h F :=
  V.lift (fun _ _ _ _ _ _ _ _ _ _ _ _ _ _ _ lsC hC hls _ _ _ _ k => lv_iload_n hC.1 hC.2.1 hd rfl (hls.at hl) (k lsC hls)) k
theorem v_iload {n : Nat} {x : Int} (hd : decode Y.2.1 pc = .ok (.iload n, 2)) (hl : ls[n]? = some (some (aI x))) (k : V G Y d rc rs (pc + 2) ls (aI x :: st) h F) : V G Y d rc rs pc ls st h F :=
  V.lift (fun _ _ _ _ _ _ _ _ _ _ _ _ _ _ _ lsC hC hls _ _ _ _ k => lv_iload hC.1 hC.2.1 hd (hls.at hl) (k lsC hls)) k
theorem v_lload_n {n : Fin 4} {x : Int} (hd : decode Y.2.1 pc = .ok (.lload_n n, 1)) (hl : ls[(n : Nat)]? = some (some (aJ x))) (k : V G Y d rc rs (pc + 1) ls (aJ x :: st) h F) : V G Y d rc rs pc ls st h F :=
  V.lift (fun _ _ _ _ _ _ _ _ _ _ _ _ _ _ _ lsC hC hls _ _ _ _ k => lv_lload_n hC.1 hC.2.1 hd rfl (hls.at hl) (k lsC hls)) k
theorem v_lload {n : Nat} {x : Int} (hd : decode Y.2.1 pc = .ok (.lload n, 2)) (hl : ls[n]? = some (some (aJ x))) (k : V G Y d rc rs (pc + 2) ls (aJ x :: st) h F) : V G Y d rc rs pc ls st h F :=
  V.lift (fun _ _ _ _ _ _ _ _ _ _ _ _ _ _ _ lsC hC hls _ _ _ _ k => lv_lload hC.1 hC.2.1 hd (hls.at hl) (k lsC hls)) k
theorem v_aload_n {n : Fin 4} {x : Nat} (hd : decode Y.2.1 pc = .ok (.aload_n n, 1)) (hl : ls[(n : Nat)]? = some (some (aR x))) (k : V G Y d rc rs (pc + 1) ls (aR x :: st) h F) : V G Y d rc rs pc ls st h F :=
  V.lift (fun _ _ _ _ _ _ _ _ _ _ _ _ _ _ _ lsC hC hls _ _ _ _ k => lv_aload_n hC.1 hC.2.1 hd rfl (hls.at hl) (k lsC hls)) k
theorem v_aload {n : Nat} {x : Nat} (hd : decode Y.2.1 pc = .ok (.aload n, 2)) (hl : ls[n]? = some (some (aR x))) (k : V G Y d rc rs (pc + 2) ls (aR x :: st) h F) : V G Y d rc rs pc ls st h F :=
  V.lift (fun _ _ _ _ _ _ _ _ _ _ _ _ _ _ _ lsC hC hls _ _ _ _ k => lv_aload hC.1 hC.2.1 hd (hls.at hl) (k lsC hls)) k
/-- a null in a local -/
theorem v_aload_nN {n : Fin 4} (hd : decode Y.2.1 pc = .ok (.aload_n n, 1)) (hl : ls[(n : Nat)]? = some (some aN)) (k : V G Y d rc rs (pc + 1) ls (aN :: st) h F) : V G Y d rc rs pc ls st h F :=
  V.lift (fun _ _ _ _ _ _ _ _ _ _ _ _ _ _ _ lsC hC hls _ _ _ _ k => lv_aload_nN hC.1 hC.2.1 hd rfl (hls.at hl) (k lsC hls)) k
theorem v_istore_n {n : Fin 4} {x : Int} (hd : decode Y.2.1 pc = .ok (.istore_n n, 1)) (hn : (n : Nat) < Y.2.2.1 ∧ (n : Nat) < ls.length) (k : V G Y d rc rs (pc + 1) (st1 n (aI x) ls) st h F) : V G Y d rc rs pc ls (aI x :: st) h F :=
  V.lift (fun _ _ _ _ _ _ _ _ _ _ _ _ _ _ _ lsC hC hls _ _ _ _ k => lv_istore_n hC.1 hC.2.1 hd rfl hls hn.1 rfl (fun ls' h' => k ls' (aLS.st1 (v := aI x) hn.2 h'))) k
theorem v_istore {n : Nat} {x : Int} (hd : decode Y.2.1 pc = .ok (.istore n, 2)) (hn : n < Y.2.2.1 ∧ n < ls.length) (k : V G Y d rc rs (pc + 2) (st1 n (aI x) ls) st h F) : V G Y d rc rs pc ls (aI x :: st) h F :=
  V.lift (fun _ _ _ _ _ _ _ _ _ _ _ _ _ _ _ lsC hC hls _ _ _ _ k => lv_istore hC.1 hC.2.1 hd hls hn.1 rfl (fun ls' h' => k ls' (aLS.st1 (v := aI x) hn.2 h'))) k
theorem v_astore_n {n : Fin 4} {x : Nat} (hd : decode Y.2.1 pc = .ok (.astore_n n, 1)) (hn : (n : Nat) < Y.2.2.1 ∧ (n : Nat) < ls.length) (k : V G Y d rc rs (pc + 1) (st1 n (aR x) ls) st h F) : V G Y d rc rs pc ls (aR x :: st) h F :=
  V.lift (fun _ _ _ _ _ _ _ _ _ _ _ _ _ _ _ lsC hC hls _ _ _ _ k => lv_astore_n hC.1 hC.2.1 hd rfl hls hn.1 rfl (fun ls' h' => k ls' (aLS.st1 (v := aR x) hn.2 h'))) k
theorem v_astore {n : Nat} {x : Nat} (hd : decode Y.2.1 pc = .ok (.astore n, 2)) (hn : n < Y.2.2.1 ∧ n < ls.length) (k : V G Y d rc rs (pc + 2) (st1 n (aR x) ls) st h F) : V G Y d rc rs pc ls (aR x :: st) h F :=
  V.lift (fun _ _ _ _ _ _ _ _ _ _ _ _ _ _ _ lsC hC hls _ _ _ _ k => lv_astore hC.1 hC.2.1 hd hls hn.1 rfl (fun ls' h' => k ls' (aLS.st1 (v := aR x) hn.2 h'))) k
theorem v_iinc {n : Nat} {c x : Int} (hd : decode Y.2.1 pc = .ok (.iinc n c, 3)) (hl : ls[n]? = some (some (aI x))) (hn : n < Y.2.2.1) (k : V G Y d rc rs (pc + 3) (st1 n (aI (x + c)) ls) st h F) : V G Y d rc rs pc ls st h F :=
  V.lift (fun _ _ _ _ _ _ _ _ _ _ _ _ _ _ _ lsC hC hls _ _ _ _ k => by
    have hm : (n, cv G (aI x)) ∈ prs G 0 ls := (prs_mem ls 0 _).mpr ⟨n, _, hl, by simp⟩
    obtain ⟨kk, hk⟩ := List.getElem?_of_mem hm
    exact lv_iinc hC.1 hC.2.1 hd hls (k := kk) hk (v := Int32.ofInt (x + c)) (Int32.ofInt_add x c).symm hn rfl (fun ls' h' => k ls' (aLS.st1 (v := aI (x + c)) (List.getElem?_eq_some_iff.mp hl).1 h'))) k
theorem v_iadd {x y : Int} (hd : decode Y.2.1 pc = .ok (.iadd, 1)) (k : V G Y d rc rs (pc + 1) ls (aI (x + y) :: st) h F) : V G Y d rc rs pc ls (aI y :: aI x :: st) h F :=
  V.lift (fun _ _ _ _ _ _ _ _ _ _ _ _ _ _ _ lsC hC hls _ _ _ _ k => lv_iadd hC.1 hC.2.1 hd (by rw [← Int32.ofInt_add]; exact k lsC hls)) k
theorem v_isub {x y : Int} (hd : decode Y.2.1 pc = .ok (.isub, 1)) (k : V G Y d rc rs (pc + 1) ls (aI (x - y) :: st) h F) : V G Y d rc rs pc ls (aI y :: aI x :: st) h F :=
  V.lift (fun _ _ _ _ _ _ _ _ _ _ _ _ _ _ _ lsC hC hls _ _ _ _ k => lv_isub hC.1 hC.2.1 hd (by rw [← Int32.ofInt_sub]; exact k lsC hls)) k
theorem v_imul {x y : Int} (hd : decode Y.2.1 pc = .ok (.imul, 1)) (k : V G Y d rc rs (pc + 1) ls (aI (x * y) :: st) h F) : V G Y d rc rs pc ls (aI y :: aI x :: st) h F :=
  V.lift (fun _ _ _ _ _ _ _ _ _ _ _ _ _ _ _ lsC hC hls _ _ _ _ k => lv_imul hC.1 hC.2.1 hd (by rw [← Int32.ofInt_mul]; exact k lsC hls)) k
theorem v_ineg {x : Int} (hd : decode Y.2.1 pc = .ok (.ineg, 1)) (k : V G Y d rc rs (pc + 1) ls (aI (-x) :: st) h F) : V G Y d rc rs pc ls (aI x :: st) h F :=
  V.lift (fun _ _ _ _ _ _ _ _ _ _ _ _ _ _ _ lsC hC hls _ _ _ _ k => lv_ineg hC.1 hC.2.1 hd (by rw [Int32.neg_ofInt]; exact k lsC hls)) k
theorem v_idiv {x y : Int} (hd : decode Y.2.1 pc = .ok (.idiv, 1)) (hx : InR x) (hy : 0 < y ∧ y ≤ 2147483647) (k : V G Y d rc rs (pc + 1) ls (aI (x.tdiv y) :: st) h F) : V G Y d rc rs pc ls (aI y :: aI x :: st) h F :=
  V.lift (fun _ _ _ _ _ _ _ _ _ _ _ _ _ _ _ lsC hC hls _ _ _ _ k => lv_idiv hC.1 hC.2.1 hd (fun q => by have := (oi_eq (y := 0) ⟨by omega, hy.2⟩ InR0).mp q; omega) (by rw [oi_div hx hy.1 hy.2]; exact k lsC hls)) k
theorem v_irem {x y : Int} (hd : decode Y.2.1 pc = .ok (.irem, 1)) (hx : InR x) (hy : 0 < y ∧ y ≤ 2147483647) (k : V G Y d rc rs (pc + 1) ls (aI (x.tmod y) :: st) h F) : V G Y d rc rs pc ls (aI y :: aI x :: st) h F :=
  V.lift (fun _ _ _ _ _ _ _ _ _ _ _ _ _ _ _ lsC hC hls _ _ _ _ k => lv_irem hC.1 hC.2.1 hd (fun q => by have := (oi_eq (y := 0) ⟨by omega, hy.2⟩ InR0).mp q; omega) (by rw [oi_rem hx hy.1 hy.2]; exact k lsC hls)) k
theorem v_dup {v : AV} (hd : decode Y.2.1 pc = .ok (.dup, 1)) (hc : cat1 v = 1) (k : V G Y d rc rs (pc + 1) ls (v :: v :: st) h F) : V G Y d rc rs pc ls (v :: st) h F :=
  V.lift (fun _ _ _ _ _ _ _ _ _ _ _ _ _ _ _ lsC hC hls _ _ _ _ k => lv_dup hC.1 hC.2.1 hd (by rw [cat_cv]; exact hc) (k lsC hls)) k
theorem v_pop {v : AV} (hd : decode Y.2.1 pc = .ok (.pop, 1)) (hc : cat1 v = 1) (k : V G Y d rc rs (pc + 1) ls st h F) : V G Y d rc rs pc ls (v :: st) h F :=
  V.lift (fun _ _ _ _ _ _ _ _ _ _ _ _ _ _ _ lsC hC hls _ _ _ _ k => lv_pop hC.1 hC.2.1 hd (by rw [cat_cv]; exact hc) (k lsC hls)) k
theorem v_dup2 {v w : AV} (hd : decode Y.2.1 pc = .ok (.dup2, 1)) (hv : cat1 v = 1) (hw : cat1 w = 1) (k : V G Y d rc rs (pc + 1) ls (v :: w :: v :: w :: st) h F) : V G Y d rc rs pc ls (v :: w :: st) h F :=
  V.lift (fun _ _ _ _ _ _ _ _ _ _ _ _ _ _ _ lsC hC hls _ _ _ _ k => lv_dup2_11 hC.1 hC.2.1 hd (by rw [cat_cv]; exact hv) (by rw [cat_cv]; exact hw) (k lsC hls)) k
theorem v_goto {off : Int} {tgt : Nat} (hd : decode Y.2.1 pc = .ok (.goto off, 3)) (ht : (pc : Int) + off = (tgt : Int)) (k : V G Y d rc rs tgt ls st h F) : V G Y d rc rs pc ls st h F :=
  V.lift (fun _ _ _ _ _ _ _ _ _ _ _ _ _ _ _ lsC hC hls _ _ _ _ k => lv_goto hC.1 hC.2.1 hd ht (k lsC hls)) k
/-! branches: each is split at the level of V -/
theorem v_ifeq {x : Int} {off : Int} (tgt : Nat) (hd : decode Y.2.1 pc = .ok (.ifCond .eq off, 3)) (ht : (pc : Int) + off = (tgt : Int)) (hx : InR x) (kt : x = 0 → V G Y d rc rs tgt ls st h F) (kf : ¬ (x = 0) → V G Y d rc rs (pc + 3) ls st h F) : V G Y d rc rs pc ls (aI x :: st) h F := by
  by_cases hb : x = 0
  · exact V.lift (fun _ _ _ _ _ _ _ _ _ _ _ _ _ _ _ lsC hC hls _ _ _ _ k => lv_if_eq hC.1 hC.2.1 hd ht (fun _ => k lsC hls) (fun q => absurd ((oi_eq (y := 0) hx InR0).mpr hb) q)) (kt hb)
  · exact V.lift (fun _ _ _ _ _ _ _ _ _ _ _ _ _ _ _ lsC hC hls _ _ _ _ k => lv_if_eq hC.1 hC.2.1 hd ht (fun q => absurd ((oi_eq (y := 0) hx InR0).mp q) hb) (fun _ => k lsC hls)) (kf hb)
theorem v_ifne {x : Int} {off : Int} (tgt : Nat) (hd : decode Y.2.1 pc = .ok (.ifCond .ne off, 3)) (ht : (pc : Int) + off = (tgt : Int)) (hx : InR x) (kt : ¬ x = 0 → V G Y d rc rs tgt ls st h F) (kf : ¬ (¬ x = 0) → V G Y d rc rs (pc + 3) ls st h F) : V G Y d rc rs pc ls (aI x :: st) h F := by
  by_cases hb : ¬ x = 0
  · exact V.lift (fun _ _ _ _ _ _ _ _ _ _ _ _ _ _ _ lsC hC hls _ _ _ _ k => lv_if_ne hC.1 hC.2.1 hd ht (fun _ => k lsC hls) (fun q => ((not_congr (oi_eq (y := 0) hx InR0)).mpr hb q).elim)) (kt hb)
  · exact V.lift (fun _ _ _ _ _ _ _ _ _ _ _ _ _ _ _ lsC hC hls _ _ _ _ k => lv_if_ne hC.1 hC.2.1 hd ht (fun q => absurd ((not_congr (oi_eq (y := 0) hx InR0)).mp q) hb) (fun _ => k lsC hls)) (kf hb)
theorem v_iflt {x : Int} {off : Int} (tgt : Nat) (hd : decode Y.2.1 pc = .ok (.ifCond .lt off, 3)) (ht : (pc : Int) + off = (tgt : Int)) (hx : InR x) (kt : x < 0 → V G Y d rc rs tgt ls st h F) (kf : ¬ (x < 0) → V G Y d rc rs (pc + 3) ls st h F) : V G Y d rc rs pc ls (aI x :: st) h F := by
  by_cases hb : x < 0
  · exact V.lift (fun _ _ _ _ _ _ _ _ _ _ _ _ _ _ _ lsC hC hls _ _ _ _ k => lv_if_lt hC.1 hC.2.1 hd ht (fun _ => k lsC hls) (fun q => absurd ((oi_lt (y := 0) hx InR0).mpr hb) q)) (kt hb)
  · exact V.lift (fun _ _ _ _ _ _ _ _ _ _ _ _ _ _ _ lsC hC hls _ _ _ _ k => lv_if_lt hC.1 hC.2.1 hd ht (fun q => absurd ((oi_lt (y := 0) hx InR0).mp q) hb) (fun _ => k lsC hls)) (kf hb)
theorem v_ifge {x : Int} {off : Int} (tgt : Nat) (hd : decode Y.2.1 pc = .ok (.ifCond .ge off, 3)) (ht : (pc : Int) + off = (tgt : Int)) (hx : InR x) (kt : 0 ≤ x → V G Y d rc rs tgt ls st h F) (kf : ¬ (0 ≤ x) → V G Y d rc rs (pc + 3) ls st h F) : V G Y d rc rs pc ls (aI x :: st) h F := by
  by_cases hb : 0 ≤ x
  · exact V.lift (fun _ _ _ _ _ _ _ _ _ _ _ _ _ _ _ lsC hC hls _ _ _ _ k => lv_if_ge hC.1 hC.2.1 hd ht (fun _ => k lsC hls) (fun q => absurd ((oi_le (x := 0) InR0 hx).mpr hb) q)) (kt hb)
  · exact V.lift (fun _ _ _ _ _ _ _ _ _ _ _ _ _ _ _ lsC hC hls _ _ _ _ k => lv_if_ge hC.1 hC.2.1 hd ht (fun q => absurd ((oi_le (x := 0) InR0 hx).mp q) hb) (fun _ => k lsC hls)) (kf hb)
theorem v_ifgt {x : Int} {off : Int} (tgt : Nat) (hd : decode Y.2.1 pc = .ok (.ifCond .gt off, 3)) (ht : (pc : Int) + off = (tgt : Int)) (hx : InR x) (kt : 0 < x → V G Y d rc rs tgt ls st h F) (kf : ¬ (0 < x) → V G Y d rc rs (pc + 3) ls st h F) : V G Y d rc rs pc ls (aI x :: st) h F := by
  by_cases hb : 0 < x
  · exact V.lift (fun _ _ _ _ _ _ _ _ _ _ _ _ _ _ _ lsC hC hls _ _ _ _ k => lv_if_gt hC.1 hC.2.1 hd ht (fun _ => k lsC hls) (fun q => absurd ((oi_lt (x := 0) InR0 hx).mpr hb) q)) (kt hb)
  · exact V.lift (fun _ _ _ _ _ _ _ _ _ _ _ _ _ _ _ lsC hC hls _ _ _ _ k => lv_if_gt hC.1 hC.2.1 hd ht (fun q => absurd ((oi_lt (x := 0) InR0 hx).mp q) hb) (fun _ => k lsC hls)) (kf hb)
theorem v_ifle {x : Int} {off : Int} (tgt : Nat) (hd : decode Y.2.1 pc = .ok (.ifCond .le off, 3)) (ht : (pc : Int) + off = (tgt : Int)) (hx : InR x) (kt : x ≤ 0 → V G Y d rc rs tgt ls st h F) (kf : ¬ (x ≤ 0) → V G Y d rc rs (pc + 3) ls st h F) : V G Y d rc rs pc ls (aI x :: st) h F := by
  by_cases hb : x ≤ 0
  · exact V.lift (fun _ _ _ _ _ _ _ _ _ _ _ _ _ _ _ lsC hC hls _ _ _ _ k => lv_if_le hC.1 hC.2.1 hd ht (fun _ => k lsC hls) (fun q => absurd ((oi_le (y := 0) hx InR0).mpr hb) q)) (kt hb)
  · exact V.lift (fun _ _ _ _ _ _ _ _ _ _ _ _ _ _ _ lsC hC hls _ _ _ _ k => lv_if_le hC.1 hC.2.1 hd ht (fun q => absurd ((oi_le (y := 0) hx InR0).mp q) hb) (fun _ => k lsC hls)) (kf hb)
theorem v_iceq {x y : Int} {off : Int} (tgt : Nat) (hd : decode Y.2.1 pc = .ok (.if_icmp .eq off, 3)) (ht : (pc : Int) + off = (tgt : Int)) (hx : InR x) (hy : InR y) (kt : x = y → V G Y d rc rs tgt ls st h F) (kf : ¬ (x = y) → V G Y d rc rs (pc + 3) ls st h F) : V G Y d rc rs pc ls (aI y :: aI x :: st) h F := by
  by_cases hb : x = y
  · exact V.lift (fun _ _ _ _ _ _ _ _ _ _ _ _ _ _ _ lsC hC hls _ _ _ _ k => lv_icmp_eq hC.1 hC.2.1 hd ht (fun _ => k lsC hls) (fun q => absurd ((oi_eq hx hy).mpr hb) q)) (kt hb)
  · exact V.lift (fun _ _ _ _ _ _ _ _ _ _ _ _ _ _ _ lsC hC hls _ _ _ _ k => lv_icmp_eq hC.1 hC.2.1 hd ht (fun q => absurd ((oi_eq hx hy).mp q) hb) (fun _ => k lsC hls)) (kf hb)
theorem v_icne {x y : Int} {off : Int} (tgt : Nat) (hd : decode Y.2.1 pc = .ok (.if_icmp .ne off, 3)) (ht : (pc : Int) + off = (tgt : Int)) (hx : InR x) (hy : InR y) (kt : ¬ x = y → V G Y d rc rs tgt ls st h F) (kf : ¬ (¬ x = y) → V G Y d rc rs (pc + 3) ls st h F) : V G Y d rc rs pc ls (aI y :: aI x :: st) h F := by
  by_cases hb : ¬ x = y
  · exact V.lift (fun _ _ _ _ _ _ _ _ _ _ _ _ _ _ _ lsC hC hls _ _ _ _ k => lv_icmp_ne hC.1 hC.2.1 hd ht (fun _ => k lsC hls) (fun q => ((not_congr (oi_eq hx hy)).mpr hb q).elim)) (kt hb)
  · exact V.lift (fun _ _ _ _ _ _ _ _ _ _ _ _ _ _ _ lsC hC hls _ _ _ _ k => lv_icmp_ne hC.1 hC.2.1 hd ht (fun q => absurd ((not_congr (oi_eq hx hy)).mp q) hb) (fun _ => k lsC hls)) (kf hb)
theorem v_iclt {x y : Int} {off : Int} (tgt : Nat) (hd : decode Y.2.1 pc = .ok (.if_icmp .lt off, 3)) (ht : (pc : Int) + off = (tgt : Int)) (hx : InR x) (hy : InR y) (kt : x < y → V G Y d rc rs tgt ls st h F) (kf : ¬ (x < y) → V G Y d rc rs (pc + 3) ls st h F) : V G Y d rc rs pc ls (aI y :: aI x :: st) h F := by
  by_cases hb : x < y
  · exact V.lift (fun _ _ _ _ _ _ _ _ _ _ _ _ _ _ _ lsC hC hls _ _ _ _ k => lv_icmp_lt hC.1 hC.2.1 hd ht (fun _ => k lsC hls) (fun q => absurd ((oi_lt hx hy).mpr hb) q)) (kt hb)
  · exact V.lift (fun _ _ _ _ _ _ _ _ _ _ _ _ _ _ _ lsC hC hls _ _ _ _ k => lv_icmp_lt hC.1 hC.2.1 hd ht (fun q => absurd ((oi_lt hx hy).mp q) hb) (fun _ => k lsC hls)) (kf hb)
theorem v_icge {x y : Int} {off : Int} (tgt : Nat) (hd : decode Y.2.1 pc = .ok (.if_icmp .ge off, 3)) (ht : (pc : Int) + off = (tgt : Int)) (hx : InR x) (hy : InR y) (kt : y ≤ x → V G Y d rc rs tgt ls st h F) (kf : ¬ (y ≤ x) → V G Y d rc rs (pc + 3) ls st h F) : V G Y d rc rs pc ls (aI y :: aI x :: st) h F := by
  by_cases hb : y ≤ x
  · exact V.lift (fun _ _ _ _ _ _ _ _ _ _ _ _ _ _ _ lsC hC hls _ _ _ _ k => lv_icmp_ge hC.1 hC.2.1 hd ht (fun _ => k lsC hls) (fun q => absurd ((oi_le hy hx).mpr hb) q)) (kt hb)
  · exact V.lift (fun _ _ _ _ _ _ _ _ _ _ _ _ _ _ _ lsC hC hls _ _ _ _ k => lv_icmp_ge hC.1 hC.2.1 hd ht (fun q => absurd ((oi_le hy hx).mp q) hb) (fun _ => k lsC hls)) (kf hb)
theorem v_icgt {x y : Int} {off : Int} (tgt : Nat) (hd : decode Y.2.1 pc = .ok (.if_icmp .gt off, 3)) (ht : (pc : Int) + off = (tgt : Int)) (hx : InR x) (hy : InR y) (kt : y < x → V G Y d rc rs tgt ls st h F) (kf : ¬ (y < x) → V G Y d rc rs (pc + 3) ls st h F) : V G Y d rc rs pc ls (aI y :: aI x :: st) h F := by
  by_cases hb : y < x
  · exact V.lift (fun _ _ _ _ _ _ _ _ _ _ _ _ _ _ _ lsC hC hls _ _ _ _ k => lv_icmp_gt hC.1 hC.2.1 hd ht (fun _ => k lsC hls) (fun q => absurd ((oi_lt hy hx).mpr hb) q)) (kt hb)
  · exact V.lift (fun _ _ _ _ _ _ _ _ _ _ _ _ _ _ _ lsC hC hls _ _ _ _ k => lv_icmp_gt hC.1 hC.2.1 hd ht (fun q => absurd ((oi_lt hy hx).mp q) hb) (fun _ => k lsC hls)) (kf hb)
theorem v_icle {x y : Int} {off : Int} (tgt : Nat) (hd : decode Y.2.1 pc = .ok (.if_icmp .le off, 3)) (ht : (pc : Int) + off = (tgt : Int)) (hx : InR x) (hy : InR y) (kt : x ≤ y → V G Y d rc rs tgt ls st h F) (kf : ¬ (x ≤ y) → V G Y d rc rs (pc + 3) ls st h F) : V G Y d rc rs pc ls (aI y :: aI x :: st) h F := by
  by_cases hb : x ≤ y
  · exact V.lift (fun _ _ _ _ _ _ _ _ _ _ _ _ _ _ _ lsC hC hls _ _ _ _ k => lv_icmp_le hC.1 hC.2.1 hd ht (fun _ => k lsC hls) (fun q => absurd ((oi_le hx hy).mpr hb) q)) (kt hb)
  · exact V.lift (fun _ _ _ _ _ _ _ _ _ _ _ _ _ _ _ lsC hC hls _ _ _ _ k => lv_icmp_le hC.1 hC.2.1 hd ht (fun q => absurd ((oi_le hx hy).mp q) hb) (fun _ => k lsC hls)) (kf hb)
/-- the same number twice -/
theorem v_iceq_same {x : Int} {off : Int} (tgt : Nat) (hd : decode Y.2.1 pc = .ok (.if_icmp .eq off, 3)) (ht : (pc : Int) + off = (tgt : Int)) (kt : V G Y d rc rs tgt ls st h F) : V G Y d rc rs pc ls (aI x :: aI x :: st) h F :=
  V.lift (fun _ _ _ _ _ _ _ _ _ _ _ _ _ _ _ lsC hC hls hc hs hdd hll k => lv_icmp_eq hC.1 hC.2.1 hd ht (fun _ => k lsC hls) (fun q => absurd rfl q)) kt
theorem v_ifnull {a : Nat} {off : Int} (hd : decode Y.2.1 pc = .ok (.ifnull off, 3)) (k : V G Y d rc rs (pc + 3) ls st h F) : V G Y d rc rs pc ls (aR a :: st) h F :=
  V.lift (fun _ _ _ _ _ _ _ _ _ _ _ _ _ _ _ lsC hC hls hc hs hdd hll k => lv_ifnull hC.1 hC.2.1 hd (k lsC hls)) k
theorem v_ifnonnull {a : Nat} {off : Int} (tgt : Nat) (hd : decode Y.2.1 pc = .ok (.ifnonnull off, 3)) (ht : (pc : Int) + off = (tgt : Int)) (k : V G Y d rc rs tgt ls st h F) : V G Y d rc rs pc ls (aR a :: st) h F :=
  V.lift (fun _ _ _ _ _ _ _ _ _ _ _ _ _ _ _ lsC hC hls hc hs hdd hll k => lv_ifnonnull hC.1 hC.2.1 hd ht (k lsC hls)) k
theorem v_lookup {dflt : Int} {ps : Array (Int × Int)} {len : Nat} {x : Int} {off : Int} (tgt : Nat) (hd : decode Y.2.1 pc = .ok (.lookupswitch dflt ps, len)) (hx : InR x) (hp : (ps.toList.zip (ps.toList.drop 1)).all (fun (a, next) => a.1 < next.1) = true) (ho : Op.lookupswitch.offset ps.toList dflt x = off) (ht : (pc : Int) + off = (tgt : Int)) (k : V G Y d rc rs tgt ls st h F) : V G Y d rc rs pc ls (aI x :: st) h F :=
  V.lift (fun _ _ _ _ _ _ _ _ _ _ _ _ _ _ _ lsC hC hls hc hs hdd hll k => lv_lookup hC.1 hC.2.1 hd hp (by rw [oi_toInt hx]; exact ho) ht (k lsC hls)) k
theorem v_tableOut {dflt lo hi : Int} {offs : Array Int} {len : Nat} {x : Int} (tgt : Nat) (hd : decode Y.2.1 pc = .ok (.tableswitch dflt lo hi offs, len)) (hx : InR x) (hb : x < lo ∨ hi < x) (ht : (pc : Int) + dflt = (tgt : Int)) (k : V G Y d rc rs tgt ls st h F) : V G Y d rc rs pc ls (aI x :: st) h F :=
  V.lift (fun _ _ _ _ _ _ _ _ _ _ _ _ _ _ _ lsC hC hls hc hs hdd hll k => lv_tableOut hC.1 hC.2.1 hd (by rw [oi_toInt hx]; exact hb) ht (k lsC hls)) k
theorem v_tableIn {dflt lo hi : Int} {offs : Array Int} {len : Nat} {x : Int} {off : Int} (tgt : Nat) (hd : decode Y.2.1 pc = .ok (.tableswitch dflt lo hi offs, len)) (hx : InR x) (h1 : lo ≤ x) (h2 : x ≤ hi) (ho : offs[(x - lo).toNat]? = some off) (ht : (pc : Int) + off = (tgt : Int)) (k : V G Y d rc rs tgt ls st h F) : V G Y d rc rs pc ls (aI x :: st) h F :=
  V.lift (fun _ _ _ _ _ _ _ _ _ _ _ _ _ _ _ lsC hC hls hc hs hdd hll k => lv_tableIn hC.1 hC.2.1 hd (by rw [oi_toInt hx]; omega) (by rw [oi_toInt hx]; omega) (by rw [oi_toInt hx]; exact ho) ht (k lsC hls)) k
theorem v_ladd {x y : Int} (hd : decode Y.2.1 pc = .ok (.ladd, 1)) (k : V G Y d rc rs (pc + 1) ls (aJ (x + y) :: st) h F) : V G Y d rc rs pc ls (aJ y :: aJ x :: st) h F :=
  V.lift (fun _ _ _ _ _ _ _ _ _ _ _ _ _ _ _ lsC hC hls hc hs hdd hll k => lv_ladd hC.1 hC.2.1 hd (by rw [← Int64.ofInt_add]; exact k lsC hls)) k
theorem v_lsub {x y : Int} (hd : decode Y.2.1 pc = .ok (.lsub, 1)) (k : V G Y d rc rs (pc + 1) ls (aJ (x - y) :: st) h F) : V G Y d rc rs pc ls (aJ y :: aJ x :: st) h F :=
  V.lift (fun _ _ _ _ _ _ _ _ _ _ _ _ _ _ _ lsC hC hls hc hs hdd hll k => lv_lsub hC.1 hC.2.1 hd (by rw [← Int64.ofInt_sub]; exact k lsC hls)) k
theorem v_lmul {x y : Int} (hd : decode Y.2.1 pc = .ok (.lmul, 1)) (k : V G Y d rc rs (pc + 1) ls (aJ (x * y) :: st) h F) : V G Y d rc rs pc ls (aJ y :: aJ x :: st) h F :=
  V.lift (fun _ _ _ _ _ _ _ _ _ _ _ _ _ _ _ lsC hC hls hc hs hdd hll k => lv_lmul hC.1 hC.2.1 hd (by rw [← Int64.ofInt_mul]; exact k lsC hls)) k
theorem v_i2l {x : Int} (hd : decode Y.2.1 pc = .ok (.i2l, 1)) (hx : InR x) (k : V G Y d rc rs (pc + 1) ls (aJ x :: st) h F) : V G Y d rc rs pc ls (aI x :: st) h F :=
  V.lift (fun _ _ _ _ _ _ _ _ _ _ _ _ _ _ _ lsC hC hls hc hs hdd hll k => lv_i2l hC.1 hC.2.1 hd (v := Int64.ofInt x) (Int32.toInt64_ofInt (show Int32.minValue.toInt ≤ x from hx.1) (show x ≤ Int32.maxValue.toInt from hx.2)) (k lsC hls)) k
theorem v_lcmp_same {x : Int} (hd : decode Y.2.1 pc = .ok (.lcmp, 1)) (k : V G Y d rc rs (pc + 1) ls (aI 0 :: st) h F) : V G Y d rc rs pc ls (aJ x :: aJ x :: st) h F :=
  V.lift (fun _ _ _ _ _ _ _ _ _ _ _ _ _ _ _ lsC hC hls hc hs hdd hll k => W.lcmp hC.1 hC.2.1 hd (by rw [show lg_cmp (Int64.ofInt x) (Int64.ofInt x) = Int32.ofInt 0 by simp [lg_cmp]]; exact k lsC hls)) k
theorem st2_get : ∀ (i : Nat) (v : AV) (l : List (Option AV)) (j : Nat) (w : AV), i + 1 < l.length → (st2 i v l)[j]? = some (some w) → (j = i ∧ w = v) ∨ (j ≠ i ∧ j ≠ i + 1 ∧ l[j]? = some (some w) ∧ ¬ (j + 1 = i ∧ isL (some w) = true))
  | 0, v, [], j, w, hi, h => by simp at hi
  | 0, v, [a], j, w, hi, h => by simp at hi
  | 0, v, a :: b :: t, j, w, hi, h => by
    match j, h with
    | 0, h => simp [st2] at h; exact Or.inl ⟨rfl, h.symm⟩
    | 1, h => simp [st2] at h
    | j + 2, h => exact Or.inr ⟨by omega, by omega, by simpa [st2] using h, by omega⟩
  | 1, v, [], j, w, hi, h => by simp at hi
  | 1, v, [a], j, w, hi, h => by simp at hi
  | 1, v, [a, b], j, w, hi, h => by simp at hi
  | 1, v, a :: b :: c :: t, j, w, hi, h => by
    match j, h with
    | 0, h =>
      simp only [st2, List.getElem?_cons_zero, Option.some.injEq, killJ] at h
      split at h
      · cases h
      · rename_i hn
        rw [h] at hn
        exact Or.inr ⟨by omega, by omega, by simp [h], fun q => hn q.2⟩
    | 1, h => simp [st2] at h; exact Or.inl ⟨rfl, h.symm⟩
    | 2, h => simp [st2] at h
    | j + 3, h => exact Or.inr ⟨by omega, by omega, by simpa [st2] using h, by omega⟩
  | i + 2, v, [], j, w, hi, h => by simp at hi
  | i + 2, v, a :: t, j, w, hi, h => by
    cases j with
    | zero => exact Or.inr ⟨by omega, by omega, by simpa [st2] using h, by omega⟩
    | succ j =>
      have hi' : i + 1 + 1 < t.length := by simp at hi; omega
      have := st2_get (i + 1) v t j w hi' (by simpa [st2] using h)
      rcases this with ⟨e1, e2⟩ | ⟨e1, e0, e2, e3⟩
      · exact Or.inl ⟨by omega, e2⟩
      · exact Or.inr ⟨by omega, by omega, by simpa using e2, fun q => e3 ⟨by omega, q.2⟩⟩
theorem aLS.st2 {G : Gx} {ls : List (Option AV)} {ls' : Array Slot} {nL i : Nat} {v : AV} (hi : i + 1 < ls.length)
    (h : lv_has ls' nL ((i, cv G v) :: (prs G 0 ls).filter (fun q => !(q.1 == i) && (!(q.1 == i + 1) && !(q.1 + 1 == i && q.2.category == 2))))) : aLS G (st2 i v ls) ls' nL := by
  refine ⟨h.1, h.2.1, fun q hq => ?_⟩
  obtain ⟨j, w, h1, rfl⟩ := (prs_mem _ 0 _).mp hq
  rw [Nat.zero_add]
  refine h.2.2 (j, cv G w) ?_
  rcases st2_get i v ls j w hi h1 with ⟨rfl, rfl⟩ | ⟨e1, e0, e2, e3⟩
  · exact List.mem_cons_self
  · refine List.mem_cons_of_mem _ (List.mem_filter.mpr ⟨(prs_mem ls 0 _).mpr ⟨j, w, e2, by simp⟩, ?_⟩)
    simp only [Bool.and_eq_true, Bool.not_eq_true', beq_eq_false_iff_ne, ne_eq, Bool.and_eq_false_iff]
    refine ⟨e1, e0, ?_⟩
    by_cases hj : j + 1 = i
    · right
      have : ¬ isL (some w) = true := fun q => e3 ⟨hj, q⟩
      have h2 := mt (isL_cat G w).mp this
      simpa using h2
    · left; exact hj
theorem v_lstore_n {n : Fin 4} {x : Int} (hd : decode Y.2.1 pc = .ok (.lstore_n n, 1)) (hn : (n : Nat) + 1 < Y.2.2.1 ∧ (n : Nat) + 1 < ls.length) (k : V G Y d rc rs (pc + 1) (st2 n (aJ x) ls) st h F) : V G Y d rc rs pc ls (aJ x :: st) h F :=
  V.lift (fun _ _ _ _ _ _ _ _ _ _ _ _ _ _ _ lsC hC hls hc hs hdd hll k => lv_lstore_n hC.1 hC.2.1 hd rfl hls hn.1 rfl (fun ls' h' => k ls' (aLS.st2 (v := aJ x) hn.2 h'))) k
theorem v_lstore {n : Nat} {x : Int} (hd : decode Y.2.1 pc = .ok (.lstore n, 2)) (hn : n + 1 < Y.2.2.1 ∧ n + 1 < ls.length) (k : V G Y d rc rs (pc + 2) (st2 n (aJ x) ls) st h F) : V G Y d rc rs pc ls (aJ x :: st) h F :=
  V.lift (fun _ _ _ _ _ _ _ _ _ _ _ _ _ _ _ lsC hC hls hc hs hdd hll k => lv_lstore hC.1 hC.2.1 hd hls hn.1 rfl (fun ls' h' => k ls' (aLS.st2 (v := aJ x) hn.2 h'))) k
theorem v_ldc {v : Int32} {x : Int} {idx : Nat} (hw : Cond.constant Y.1.cls idx v ∈ wsAll) (hd : decode Y.2.1 pc = .ok (.ldc idx, 2)) (hx : Int32.ofInt x = v) (k : V G Y d rc rs (pc + 2) ls (aI x :: st) h F) : V G Y d rc rs pc ls st h F :=
  V.lift (fun _ _ _ _ _ _ _ _ _ _ _ _ _ _ _ lsC hC hls hc hs hdd hll k => lv_ldc hC.1 hC.2.1 hC.2.2.2.2.2.1 (hC.2.2.2.2.2.2.2.1 _ hw) hd (by rw [← hx]; exact k lsC hls)) k
theorem v_ldc2 {v : Int64} {x : Int} {idx : Nat} (hw : Cond.constantLong Y.1.cls idx v ∈ wsAll) (hd : decode Y.2.1 pc = .ok (.ldc2_w idx, 3)) (hx : Int64.ofInt x = v) (k : V G Y d rc rs (pc + 3) ls (aJ x :: st) h F) : V G Y d rc rs pc ls st h F :=
  V.lift (fun _ _ _ _ _ _ _ _ _ _ _ _ _ _ _ lsC hC hls hc hs hdd hll k => lv_ldc2 hC.1 hC.2.1 hC.2.2.2.2.2.1 (hC.2.2.2.2.2.2.2.1 _ hw) hd (by rw [← hx]; exact k lsC hls)) k
/-- a String constant -/
theorem v_ldcS {i idx : Nat} (hY : Y.1.cls = R_Text) (hi : i < 6) (he : sIdx i = idx) (hd : decode Y.2.1 pc = .ok (.ldc idx, 2)) (k : V G Y d rc rs (pc + 2) ls (aR (1 + i) :: st) h F) : V G Y d rc rs pc ls st h F :=
  V.lift (fun _ _ _ _ _ _ _ _ _ _ _ _ _ _ _ lsC hC hls hc hs hdd hll k => by
    have hz := hC.2.2.2.2.2.2.2.2.2.2.1 i hi
    rw [he] at hz
    have hk := k lsC hls
    have e : Ad G (1 + i) = gS G (1 + i) := by unfold Ad; rw [if_pos (by omega)]
    refine va_ldcS hC.1 hC.2.1 (by rw [← hY]; exact hC.2.2.2.2.2.1) hz hd ?_
    rw [← e]
    exact hk) k
end VR
end
section
/-! bits -/
theorem oi_nat' {x : Int} (h : 0 ≤ x) : Int32.ofInt x = Int32.ofNat x.toNat := by
  rw [← Int32.ofInt_eq_ofNat, Int.toNat_of_nonneg h]
theorem on_and (a b : Nat) : Int32.ofNat a &&& Int32.ofNat b = Int32.ofNat (a &&& b) := by
  apply Int32.toBitVec.inj
  rw [Int32.toBitVec_and]
  show BitVec.ofNat 32 a &&& BitVec.ofNat 32 b = BitVec.ofNat 32 (a &&& b)
  exact (BitVec.ofNat_and).symm
theorem on_or (a b : Nat) : Int32.ofNat a ||| Int32.ofNat b = Int32.ofNat (a ||| b) := by
  apply Int32.toBitVec.inj
  rw [Int32.toBitVec_or]
  show BitVec.ofNat 32 a ||| BitVec.ofNat 32 b = BitVec.ofNat 32 (a ||| b)
  exact (BitVec.ofNat_or).symm
theorem on_xor (a b : Nat) : Int32.ofNat a ^^^ Int32.ofNat b = Int32.ofNat (a ^^^ b) := by
  apply Int32.toBitVec.inj
  rw [Int32.toBitVec_xor]
  show BitVec.ofNat 32 a ^^^ BitVec.ofNat 32 b = BitVec.ofNat 32 (a ^^^ b)
  exact (BitVec.ofNat_xor).symm
theorem oi_emod (x : Int) : Int32.ofInt x = Int32.ofInt (x % 4294967296) := by
  apply Int32.toInt_inj.mp
  rw [Int32.toInt_ofInt, Int32.toInt_ofInt]
  exact (Int.emod_bmod x 4294967296).symm
theorem oi_and {x y : Int} (hx : 0 ≤ x) (hy : 0 ≤ y) : Int32.ofInt x &&& Int32.ofInt y = Int32.ofInt ((x.toNat &&& y.toNat : Nat) : Int) := by
  rw [oi_nat' hx, oi_nat' hy, on_and, Int32.ofInt_eq_ofNat]
theorem oi_or {x y : Int} (hx : 0 ≤ x) (hy : 0 ≤ y) : Int32.ofInt x ||| Int32.ofInt y = Int32.ofInt ((x.toNat ||| y.toNat : Nat) : Int) := by
  rw [oi_nat' hx, oi_nat' hy, on_or, Int32.ofInt_eq_ofNat]
theorem oi_xor {x y : Int} (hx : 0 ≤ x) (hy : 0 ≤ y) : Int32.ofInt x ^^^ Int32.ofInt y = Int32.ofInt ((x.toNat ^^^ y.toNat : Nat) : Int) := by
  rw [oi_nat' hx, oi_nat' hy, on_xor, Int32.ofInt_eq_ofNat]
theorem oi_mask (x : Int) (k : Nat) (hk : k ≤ 31) : Int32.ofInt x &&& Int32.ofInt ((2 ^ k - 1 : Nat) : Int) = Int32.ofInt (x % ((2 ^ k : Nat) : Int)) := by
  rw [oi_emod x, oi_and (Int.emod_nonneg _ (by decide)) (Int.natCast_nonneg _)]
  congr 1
  rw [Int.toNat_natCast, Nat.and_two_pow_sub_one_eq_mod, Int.natCast_emod, Int.toNat_of_nonneg (Int.emod_nonneg _ (by decide))]
  apply Int.emod_emod_of_dvd
  exact_mod_cast (show (2 ^ k) ∣ 4294967296 from Nat.pow_dvd_pow 2 (show k ≤ 32 by omega))
theorem sh_mask : ∀ k : Nat, k < 32 → (Int32.ofNat k &&& 31).toBitVec.smod 32 = BitVec.ofNat 32 k := by decide +kernel
theorem sh_nat : ∀ k : Nat, k < 32 → (BitVec.ofNat 32 k).toNat = k := by decide +kernel
theorem oi_shl {x y : Int} (hy : 0 ≤ y ∧ y ≤ 31) : Int32.ofInt x <<< (Int32.ofInt y &&& 31) = Int32.ofInt (x * (2 ^ y.toNat : Nat)) := by
  have hk : y.toNat < 32 := by omega
  rw [oi_nat' hy.1]
  apply Int32.toBitVec.inj
  show (Int32.ofInt x).toBitVec <<< ((Int32.ofNat y.toNat &&& 31).toBitVec.smod 32) = _
  rw [sh_mask _ hk, BitVec.shiftLeft_eq', sh_nat _ hk, Int32.ofInt_mul, Int32.toBitVec_mul, BitVec.shiftLeft_eq_mul_twoPow]
  congr 1
  apply BitVec.eq_of_toNat_eq
  rw [BitVec.toNat_twoPow, Int32.toBitVec_ofInt, BitVec.ofInt_natCast, BitVec.toNat_ofNat]
theorem oi_shr {x y : Int} (hx : InR x) (hy : 0 ≤ y ∧ y ≤ 31) : Int32.ofInt x >>> (Int32.ofInt y &&& 31) = Int32.ofInt (x / (2 ^ y.toNat : Nat)) := by
  have hk : y.toNat < 32 := by omega
  rw [oi_nat' hy.1]
  apply Int32.toInt_inj.mp
  show (((Int32.ofInt x).toBitVec.sshiftRight' ((Int32.ofNat y.toNat &&& 31).toBitVec.smod 32))).toInt = _
  rw [sh_mask _ hk, BitVec.sshiftRight'_eq, sh_nat _ hk, BitVec.toInt_sshiftRight]
  have e : (Int32.ofInt x).toBitVec.toInt = x := oi_toInt hx
  rw [e, Int.shiftRight_eq_div_pow]
  have hp : (0 : Int) < ((2 ^ y.toNat : Nat) : Int) := by exact_mod_cast Nat.two_pow_pos _
  have hb : InR (x / ((2 ^ y.toNat : Nat) : Int)) := by
    have h1 := hx.1
    have h2 := hx.2
    constructor
    · apply Int.le_ediv_of_mul_le hp
      have : (1 : Int) ≤ ((2 ^ y.toNat : Nat) : Int) := hp
      have h3 : (-2147483648 : Int) * ((2 ^ y.toNat : Nat) : Int) ≤ -2147483648 * 1 := Int.mul_le_mul_of_nonpos_left this (by decide)
      omega
    · rcases Int.le_total 0 x with h | h
      · exact Int.le_trans (Int.ediv_le_self _ h) h2
      · have : x / ((2 ^ y.toNat : Nat) : Int) ≤ 0 := Int.ediv_nonpos_of_nonpos_of_nonneg h (Int.le_of_lt hp)
        omega
  rw [oi_toInt hb]
section VB
variable {G : Gx} {Y : Yx} {d rc rs pc : Nat} {ls : List (Option AV)} {st : List AV} {h : AH} {F : Option AV → AH → Prop}
theorem v_ishl {x y : Int} (hd : decode Y.2.1 pc = .ok (.ishl, 1)) (hy : 0 ≤ y ∧ y ≤ 31) (k : V G Y d rc rs (pc + 1) ls (aI (x * (2 ^ y.toNat : Nat)) :: st) h F) : V G Y d rc rs pc ls (aI y :: aI x :: st) h F :=
  V.lift (fun _ _ _ _ _ _ _ _ _ _ _ _ _ _ _ lsC hC hls _ _ _ _ k => lv_ishl hC.1 hC.2.1 hd (by rw [oi_shl hy]; exact k lsC hls)) k
theorem v_ishr {x y : Int} (hd : decode Y.2.1 pc = .ok (.ishr, 1)) (hx : InR x) (hy : 0 ≤ y ∧ y ≤ 31) (k : V G Y d rc rs (pc + 1) ls (aI (x / (2 ^ y.toNat : Nat)) :: st) h F) : V G Y d rc rs pc ls (aI y :: aI x :: st) h F :=
  V.lift (fun _ _ _ _ _ _ _ _ _ _ _ _ _ _ _ lsC hC hls _ _ _ _ k => lv_ishr hC.1 hC.2.1 hd (by rw [oi_shr hx hy]; exact k lsC hls)) k
theorem v_iand {x y : Int} (hd : decode Y.2.1 pc = .ok (.iand, 1)) (hx : 0 ≤ x) (hy : 0 ≤ y) (k : V G Y d rc rs (pc + 1) ls (aI ((x.toNat &&& y.toNat : Nat) : Int) :: st) h F) : V G Y d rc rs pc ls (aI y :: aI x :: st) h F :=
  V.lift (fun _ _ _ _ _ _ _ _ _ _ _ _ _ _ _ lsC hC hls _ _ _ _ k => lv_iand hC.1 hC.2.1 hd (by rw [oi_and hx hy]; exact k lsC hls)) k
theorem v_ior {x y : Int} (hd : decode Y.2.1 pc = .ok (.ior, 1)) (hx : 0 ≤ x) (hy : 0 ≤ y) (k : V G Y d rc rs (pc + 1) ls (aI ((x.toNat ||| y.toNat : Nat) : Int) :: st) h F) : V G Y d rc rs pc ls (aI y :: aI x :: st) h F :=
  V.lift (fun _ _ _ _ _ _ _ _ _ _ _ _ _ _ _ lsC hC hls _ _ _ _ k => lv_ior hC.1 hC.2.1 hd (by rw [oi_or hx hy]; exact k lsC hls)) k
theorem v_ixor {x y : Int} (hd : decode Y.2.1 pc = .ok (.ixor, 1)) (hx : 0 ≤ x) (hy : 0 ≤ y) (k : V G Y d rc rs (pc + 1) ls (aI ((x.toNat ^^^ y.toNat : Nat) : Int) :: st) h F) : V G Y d rc rs pc ls (aI y :: aI x :: st) h F :=
  V.lift (fun _ _ _ _ _ _ _ _ _ _ _ _ _ _ _ lsC hC hls _ _ _ _ k => lv_ixor hC.1 hC.2.1 hd (by rw [oi_xor hx hy]; exact k lsC hls)) k
/-- and with a mask of the lowest b bits, of any number -/
theorem v_mask {x y : Int} (b : Nat) (hd : decode Y.2.1 pc = .ok (.iand, 1)) (hb : b ≤ 31) (hy : y = ((2 ^ b - 1 : Nat) : Int)) (k : V G Y d rc rs (pc + 1) ls (aI (x % ((2 ^ b : Nat) : Int)) :: st) h F) : V G Y d rc rs pc ls (aI y :: aI x :: st) h F :=
  V.lift (fun _ _ _ _ _ _ _ _ _ _ _ _ _ _ _ lsC hC hls _ _ _ _ k => lv_iand hC.1 hC.2.1 hd (by rw [hy, oi_mask x b hb]; exact k lsC hls)) k
theorem v_i2c {x : Int} (hd : decode Y.2.1 pc = .ok (.i2c, 1)) (hx : 0 ≤ x ∧ x ≤ 65535) (k : V G Y d rc rs (pc + 1) ls (aI x :: st) h F) : V G Y d rc rs pc ls (aI x :: st) h F :=
  V.lift (fun _ _ _ _ _ _ _ _ _ _ _ _ _ _ _ lsC hC hls _ _ _ _ k => lv_i2c hC.1 hC.2.1 hd (v := Int32.ofInt x) (by
    rw [oi_nat' hx.1]
    have hn : x.toNat ≤ 65535 := by omega
    generalize x.toNat = n at hn ⊢
    apply Int32.toBitVec.inj
    apply BitVec.eq_of_toNat_eq
    show (UInt32.ofNat n % 65536).toNat = (BitVec.ofNat 32 n).toNat
    rw [UInt32.toNat_mod, UInt32.toNat_ofNat', BitVec.toNat_ofNat]
    show n % 4294967296 % 65536 = n % 4294967296
    omega) (k lsC hls)) k
/-! Math -/
theorem v_mmax {x y : Int} {idx : Nat} (hd : decode Y.2.1 pc = .ok (.invokestatic idx, 3)) (hl : Cond.methodLink Y.1.cls idx Lib.Math.max.name ∈ wsAll) (hx : InR x) (hy : InR y) (hc : catS st ≤ 8) (hd1 : 1 ≤ d) (k : V G Y d rc rs (pc + 3) ls (aI (max x y) :: st) h F) : V G Y d rc rs pc ls (aI y :: aI x :: st) h F :=
  V.lift (fun _ _ _ R _ _ _ _ _ _ _ _ _ _ _ lsC hC hls hcl hsl hdd hll k => by
    have ht := hC.2.2.2.2.2.2.2.1
    refine va_mmax hC.1 hC.2.1 (by rw [hC.2.2.1]; exact hls.1.symm) hC.2.2.2.2.2.1 (ht _ hl) (ht _ mst_max) (ht _ min_M) (ht _ mco_max) (by omega) (by rw [catS_cS]; omega) hcl hsl hd ?_
    have e : (if Int32.ofInt x < Int32.ofInt y then Int32.ofInt y else Int32.ofInt x) = Int32.ofInt (max x y) := by
      by_cases hb : x < y
      · rw [if_pos ((oi_lt hx hy).mpr hb), Int.max_eq_right (by omega)]
      · rw [if_neg (fun q => hb ((oi_lt hx hy).mp q)), Int.max_eq_left (by omega)]
    rw [e]; exact k lsC hls) k
theorem v_mmin {x y : Int} {idx : Nat} (hd : decode Y.2.1 pc = .ok (.invokestatic idx, 3)) (hl : Cond.methodLink Y.1.cls idx Lib.Math.min.name ∈ wsAll) (hx : InR x) (hy : InR y) (hc : catS st ≤ 8) (hd1 : 1 ≤ d) (k : V G Y d rc rs (pc + 3) ls (aI (min x y) :: st) h F) : V G Y d rc rs pc ls (aI y :: aI x :: st) h F :=
  V.lift (fun _ _ _ R _ _ _ _ _ _ _ _ _ _ _ lsC hC hls hcl hsl hdd hll k => by
    have ht := hC.2.2.2.2.2.2.2.1
    refine va_mmin hC.1 hC.2.1 (by rw [hC.2.2.1]; exact hls.1.symm) hC.2.2.2.2.2.1 (ht _ hl) (ht _ mst_min) (ht _ min_M) (ht _ mco_min) (by omega) (by rw [catS_cS]; omega) hcl hsl hd ?_
    have e : (if Int32.ofInt y < Int32.ofInt x then Int32.ofInt y else Int32.ofInt x) = Int32.ofInt (min x y) := by
      by_cases hb : y < x
      · rw [if_pos ((oi_lt hy hx).mpr hb), Int.min_eq_right (by omega)]
      · rw [if_neg (fun q => hb ((oi_lt hy hx).mp q)), Int.min_eq_left (by omega)]
    rw [e]; exact k lsC hls) k
theorem v_mabs {x : Int} {idx : Nat} (hd : decode Y.2.1 pc = .ok (.invokestatic idx, 3)) (hl : Cond.methodLink Y.1.cls idx Lib.Math.abs.name ∈ wsAll) (hx : InR x) (hc : catS st ≤ 8) (hd1 : 1 ≤ d) (k : V G Y d rc rs (pc + 3) ls (aI (if 0 ≤ x then x else -x) :: st) h F) : V G Y d rc rs pc ls (aI x :: st) h F :=
  V.lift (fun _ _ _ R _ _ _ _ _ _ _ _ _ _ _ lsC hC hls hcl hsl hdd hll k => by
    have ht := hC.2.2.2.2.2.2.2.1
    refine va_mabs hC.1 hC.2.1 (by rw [hC.2.2.1]; exact hls.1.symm) hC.2.2.2.2.2.1 (ht _ hl) (ht _ mst_abs) (ht _ min_M) (ht _ mco_abs) (by omega) (by rw [catS_cS]; omega) hcl hsl hd ?_
    have e : (if 0 ≤ Int32.ofInt x then Int32.ofInt x else 0 - Int32.ofInt x) = Int32.ofInt (if 0 ≤ x then x else -x) := by
      by_cases hb : 0 ≤ x
      · rw [if_pos (show (0 : Int32) ≤ Int32.ofInt x from (oi_le (x := 0) InR0 hx).mpr hb), if_pos hb]
      · rw [if_neg (show ¬ (0 : Int32) ≤ Int32.ofInt x from fun q => hb ((oi_le (x := 0) InR0 hx).mp q)), if_neg hb, show -x = 0 - x by omega, Int32.ofInt_sub]
        rfl
    rw [e]; exact k lsC hls) k
end VB
end
