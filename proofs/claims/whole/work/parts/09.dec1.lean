/-! what each instruction decodes to (written by wip/whole/tools/gen_dec.py) -/
theorem k_Text_formFault_69 : decode Y_Text_formFault.2.1 69 = .ok (.getfield 14, 3) := by decide +kernel
theorem k_Text_formFault_72 : decode Y_Text_formFault.2.1 72 = .ok (.invokevirtual 20, 3) := by decide +kernel
theorem k_Text_formFault_75 : decode Y_Text_formFault.2.1 75 = .ok (.if_icmp .lt 5, 3) := by decide +kernel
theorem k_Text_formFault_78 : decode Y_Text_formFault.2.1 78 = .ok (.iconst 0, 1) := by decide +kernel
theorem k_Text_formFault_79 : decode Y_Text_formFault.2.1 79 = .ok (.ireturn, 1) := by decide +kernel
theorem k_Text_formFault_80 : decode Y_Text_formFault.2.1 80 = .ok (.iinc 2 1, 3) := by decide +kernel
theorem k_Text_formFault_83 : decode Y_Text_formFault.2.1 83 = .ok (.goto (-79), 3) := by decide +kernel
theorem k_Text_formFault_86 : decode Y_Text_formFault.2.1 86 = .ok (.iconst 0, 1) := by decide +kernel
theorem k_Text_formFault_87 : decode Y_Text_formFault.2.1 87 = .ok (.ireturn, 1) := by decide +kernel
theorem k_Text_tellAll_0 : decode Y_Text_tellAll.2.1 0 = .ok (.iconst 0, 1) := by decide +kernel
theorem k_Text_tellAll_1 : decode Y_Text_tellAll.2.1 1 = .ok (.istore_n 2, 1) := by decide +kernel
theorem k_Text_tellAll_2 : decode Y_Text_tellAll.2.1 2 = .ok (.iconst 0, 1) := by decide +kernel
theorem k_Text_tellAll_3 : decode Y_Text_tellAll.2.1 3 = .ok (.istore_n 3, 1) := by decide +kernel
theorem k_Text_tellAll_4 : decode Y_Text_tellAll.2.1 4 = .ok (.iload_n 3, 1) := by decide +kernel
theorem k_Text_tellAll_5 : decode Y_Text_tellAll.2.1 5 = .ok (.bipush 80, 2) := by decide +kernel
theorem k_Text_tellAll_7 : decode Y_Text_tellAll.2.1 7 = .ok (.if_icmp .ge 52, 3) := by decide +kernel
theorem k_Text_tellAll_10 : decode Y_Text_tellAll.2.1 10 = .ok (.iload_n 2, 1) := by decide +kernel
theorem k_Text_tellAll_11 : decode Y_Text_tellAll.2.1 11 = .ok (.aload_n 0, 1) := by decide +kernel
theorem k_Text_tellAll_12 : decode Y_Text_tellAll.2.1 12 = .ok (.getfield 14, 3) := by decide +kernel
theorem k_Text_tellAll_15 : decode Y_Text_tellAll.2.1 15 = .ok (.invokevirtual 20, 3) := by decide +kernel
theorem k_Text_tellAll_18 : decode Y_Text_tellAll.2.1 18 = .ok (.if_icmp .ge 41, 3) := by decide +kernel
theorem k_Text_tellAll_21 : decode Y_Text_tellAll.2.1 21 = .ok (.iload_n 2, 1) := by decide +kernel
theorem k_Text_tellAll_22 : decode Y_Text_tellAll.2.1 22 = .ok (.aload_n 0, 1) := by decide +kernel
theorem k_Text_tellAll_23 : decode Y_Text_tellAll.2.1 23 = .ok (.iload_n 2, 1) := by decide +kernel
theorem k_Text_tellAll_24 : decode Y_Text_tellAll.2.1 24 = .ok (.invokevirtual 68, 3) := by decide +kernel
theorem k_Text_tellAll_27 : decode Y_Text_tellAll.2.1 27 = .ok (.invokevirtual 43, 3) := by decide +kernel
theorem k_Text_tellAll_30 : decode Y_Text_tellAll.2.1 30 = .ok (.iadd, 1) := by decide +kernel
theorem k_Text_tellAll_31 : decode Y_Text_tellAll.2.1 31 = .ok (.istore 4, 2) := by decide +kernel
theorem k_Text_tellAll_33 : decode Y_Text_tellAll.2.1 33 = .ok (.aload_n 0, 1) := by decide +kernel
theorem k_Text_tellAll_34 : decode Y_Text_tellAll.2.1 34 = .ok (.aload_n 1, 1) := by decide +kernel
theorem k_Text_tellAll_35 : decode Y_Text_tellAll.2.1 35 = .ok (.iload_n 2, 1) := by decide +kernel
theorem k_Text_tellAll_36 : decode Y_Text_tellAll.2.1 36 = .ok (.iload 4, 2) := by decide +kernel
theorem k_Text_tellAll_38 : decode Y_Text_tellAll.2.1 38 = .ok (.invokevirtual 76, 3) := by decide +kernel
theorem k_Text_tellAll_41 : decode Y_Text_tellAll.2.1 41 = .ok (.ifCond .ne 9, 3) := by decide +kernel
theorem k_Text_tellAll_44 : decode Y_Text_tellAll.2.1 44 = .ok (.sipush (-2000), 3) := by decide +kernel
theorem k_Text_tellAll_47 : decode Y_Text_tellAll.2.1 47 = .ok (.iload_n 2, 1) := by decide +kernel
theorem k_Text_tellAll_48 : decode Y_Text_tellAll.2.1 48 = .ok (.isub, 1) := by decide +kernel
theorem k_Text_tellAll_49 : decode Y_Text_tellAll.2.1 49 = .ok (.ireturn, 1) := by decide +kernel
theorem k_Text_tellAll_50 : decode Y_Text_tellAll.2.1 50 = .ok (.iload 4, 2) := by decide +kernel
theorem k_Text_tellAll_52 : decode Y_Text_tellAll.2.1 52 = .ok (.istore_n 2, 1) := by decide +kernel
theorem k_Text_tellAll_53 : decode Y_Text_tellAll.2.1 53 = .ok (.iinc 3 1, 3) := by decide +kernel
theorem k_Text_tellAll_56 : decode Y_Text_tellAll.2.1 56 = .ok (.goto (-52), 3) := by decide +kernel
theorem k_Text_tellAll_59 : decode Y_Text_tellAll.2.1 59 = .ok (.iload_n 3, 1) := by decide +kernel
theorem k_Text_tellAll_60 : decode Y_Text_tellAll.2.1 60 = .ok (.ireturn, 1) := by decide +kernel
theorem k_Text_tell_0 : decode Y_Text_tell.2.1 0 = .ok (.aload_n 1, 1) := by decide +kernel
theorem k_Text_tell_1 : decode Y_Text_tell.2.1 1 = .ok (.ifnonnull 5, 3) := by decide +kernel
theorem k_Text_tell_4 : decode Y_Text_tell.2.1 4 = .ok (.iconst 0, 1) := by decide +kernel
theorem k_Text_tell_5 : decode Y_Text_tell.2.1 5 = .ok (.ireturn, 1) := by decide +kernel
theorem k_Text_tell_6 : decode Y_Text_tell.2.1 6 = .ok (.aload_n 0, 1) := by decide +kernel
theorem k_Text_tell_7 : decode Y_Text_tell.2.1 7 = .ok (.iload_n 2, 1) := by decide +kernel
theorem k_Text_tell_8 : decode Y_Text_tell.2.1 8 = .ok (.invokevirtual 38, 3) := by decide +kernel
theorem k_Text_tell_11 : decode Y_Text_tell.2.1 11 = .ok (.tableswitch 129 110 119 #[53, 129, 129, 129, 98, 129, 129, 129, 72, 117], 53) := by decide +kernel
theorem k_Text_tell_64 : decode Y_Text_tell.2.1 64 = .ok (.aload_n 1, 1) := by decide +kernel
theorem k_Text_tell_65 : decode Y_Text_tell.2.1 65 = .ok (.aload_n 0, 1) := by decide +kernel
theorem k_Text_tell_66 : decode Y_Text_tell.2.1 66 = .ok (.iload_n 2, 1) := by decide +kernel
theorem k_Text_tell_67 : decode Y_Text_tell.2.1 67 = .ok (.iconst 1, 1) := by decide +kernel
theorem k_Text_tell_68 : decode Y_Text_tell.2.1 68 = .ok (.iadd, 1) := by decide +kernel
theorem k_Text_tell_69 : decode Y_Text_tell.2.1 69 = .ok (.invokevirtual 80, 3) := by decide +kernel
theorem k_Text_tell_72 : decode Y_Text_tell.2.1 72 = .ok (.aload_n 0, 1) := by decide +kernel
theorem k_Text_tell_73 : decode Y_Text_tell.2.1 73 = .ok (.iload_n 2, 1) := by decide +kernel
theorem k_Text_tell_74 : decode Y_Text_tell.2.1 74 = .ok (.iconst 2, 1) := by decide +kernel
theorem k_Text_tell_75 : decode Y_Text_tell.2.1 75 = .ok (.iadd, 1) := by decide +kernel
theorem k_Text_tell_76 : decode Y_Text_tell.2.1 76 = .ok (.invokevirtual 80, 3) := by decide +kernel
theorem k_Text_tell_79 : decode Y_Text_tell.2.1 79 = .ok (.invokevirtual 83, 3) := by decide +kernel
theorem k_Text_tell_82 : decode Y_Text_tell.2.1 82 = .ok (.ireturn, 1) := by decide +kernel
theorem k_Text_tell_83 : decode Y_Text_tell.2.1 83 = .ok (.aload_n 1, 1) := by decide +kernel
theorem k_Text_tell_84 : decode Y_Text_tell.2.1 84 = .ok (.aload_n 0, 1) := by decide +kernel
theorem k_Text_tell_85 : decode Y_Text_tell.2.1 85 = .ok (.iload_n 2, 1) := by decide +kernel
theorem k_Text_tell_86 : decode Y_Text_tell.2.1 86 = .ok (.iconst 1, 1) := by decide +kernel
theorem k_Text_tell_87 : decode Y_Text_tell.2.1 87 = .ok (.iadd, 1) := by decide +kernel
theorem k_Text_tell_88 : decode Y_Text_tell.2.1 88 = .ok (.invokevirtual 65, 3) := by decide +kernel
theorem k_Text_tell_91 : decode Y_Text_tell.2.1 91 = .ok (.aload_n 0, 1) := by decide +kernel
theorem k_Text_tell_92 : decode Y_Text_tell.2.1 92 = .ok (.iload_n 2, 1) := by decide +kernel
theorem k_Text_tell_93 : decode Y_Text_tell.2.1 93 = .ok (.iconst 2, 1) := by decide +kernel
theorem k_Text_tell_94 : decode Y_Text_tell.2.1 94 = .ok (.iadd, 1) := by decide +kernel
theorem k_Text_tell_95 : decode Y_Text_tell.2.1 95 = .ok (.invokevirtual 89, 3) := by decide +kernel
theorem k_Text_tell_98 : decode Y_Text_tell.2.1 98 = .ok (.aload_n 0, 1) := by decide +kernel
theorem k_Text_tell_99 : decode Y_Text_tell.2.1 99 = .ok (.iload_n 3, 1) := by decide +kernel
theorem k_Text_tell_100 : decode Y_Text_tell.2.1 100 = .ok (.iconst 2, 1) := by decide +kernel
theorem k_Text_tell_101 : decode Y_Text_tell.2.1 101 = .ok (.isub, 1) := by decide +kernel
theorem k_Text_tell_102 : decode Y_Text_tell.2.1 102 = .ok (.invokevirtual 80, 3) := by decide +kernel
theorem k_Text_tell_105 : decode Y_Text_tell.2.1 105 = .ok (.invokevirtual 92, 3) := by decide +kernel
theorem k_Text_tell_108 : decode Y_Text_tell.2.1 108 = .ok (.ireturn, 1) := by decide +kernel
theorem k_Text_tell_109 : decode Y_Text_tell.2.1 109 = .ok (.aload_n 1, 1) := by decide +kernel
theorem k_Text_tell_110 : decode Y_Text_tell.2.1 110 = .ok (.aload_n 0, 1) := by decide +kernel
theorem k_Text_tell_111 : decode Y_Text_tell.2.1 111 = .ok (.iload_n 2, 1) := by decide +kernel
theorem k_Text_tell_112 : decode Y_Text_tell.2.1 112 = .ok (.iconst 1, 1) := by decide +kernel
theorem k_Text_tell_113 : decode Y_Text_tell.2.1 113 = .ok (.iadd, 1) := by decide +kernel
theorem k_Text_tell_114 : decode Y_Text_tell.2.1 114 = .ok (.invokevirtual 80, 3) := by decide +kernel
theorem k_Text_tell_117 : decode Y_Text_tell.2.1 117 = .ok (.aload_n 0, 1) := by decide +kernel
theorem k_Text_tell_118 : decode Y_Text_tell.2.1 118 = .ok (.iload_n 2, 1) := by decide +kernel
theorem k_Text_tell_119 : decode Y_Text_tell.2.1 119 = .ok (.iconst 2, 1) := by decide +kernel
theorem k_Text_tell_120 : decode Y_Text_tell.2.1 120 = .ok (.iadd, 1) := by decide +kernel
theorem k_Text_tell_121 : decode Y_Text_tell.2.1 121 = .ok (.invokevirtual 80, 3) := by decide +kernel
theorem k_Text_tell_124 : decode Y_Text_tell.2.1 124 = .ok (.invokevirtual 96, 3) := by decide +kernel
theorem k_Text_tell_127 : decode Y_Text_tell.2.1 127 = .ok (.ireturn, 1) := by decide +kernel
theorem k_Text_tell_128 : decode Y_Text_tell.2.1 128 = .ok (.aload_n 1, 1) := by decide +kernel
theorem k_Text_tell_129 : decode Y_Text_tell.2.1 129 = .ok (.aload_n 0, 1) := by decide +kernel
theorem k_Text_tell_130 : decode Y_Text_tell.2.1 130 = .ok (.iload_n 2, 1) := by decide +kernel
theorem k_Text_tell_131 : decode Y_Text_tell.2.1 131 = .ok (.iconst 1, 1) := by decide +kernel
theorem k_Text_tell_132 : decode Y_Text_tell.2.1 132 = .ok (.iadd, 1) := by decide +kernel
theorem k_Text_tell_133 : decode Y_Text_tell.2.1 133 = .ok (.invokevirtual 80, 3) := by decide +kernel
theorem k_Text_tell_136 : decode Y_Text_tell.2.1 136 = .ok (.invokevirtual 99, 3) := by decide +kernel
theorem k_Text_tell_139 : decode Y_Text_tell.2.1 139 = .ok (.ireturn, 1) := by decide +kernel
theorem k_Text_tell_140 : decode Y_Text_tell.2.1 140 = .ok (.iconst 0, 1) := by decide +kernel
theorem k_Text_tell_141 : decode Y_Text_tell.2.1 141 = .ok (.ireturn, 1) := by decide +kernel
theorem k_Text_entry_0 : decode Y_Text_entry.2.1 0 = .ok (.aload_n 0, 1) := by decide +kernel
theorem k_Text_entry_1 : decode Y_Text_entry.2.1 1 = .ok (.iload_n 1, 1) := by decide +kernel
theorem k_Text_entry_2 : decode Y_Text_entry.2.1 2 = .ok (.iconst 1, 1) := by decide +kernel
theorem k_Text_entry_3 : decode Y_Text_entry.2.1 3 = .ok (.iadd, 1) := by decide +kernel
theorem k_Text_entry_4 : decode Y_Text_entry.2.1 4 = .ok (.invokevirtual 52, 3) := by decide +kernel
theorem k_Text_entry_7 : decode Y_Text_entry.2.1 7 = .ok (.ifCond .eq 22, 3) := by decide +kernel
theorem k_Text_entry_10 : decode Y_Text_entry.2.1 10 = .ok (.bipush 10, 2) := by decide +kernel
theorem k_Text_entry_12 : decode Y_Text_entry.2.1 12 = .ok (.aload_n 0, 1) := by decide +kernel
theorem k_Text_entry_13 : decode Y_Text_entry.2.1 13 = .ok (.iload_n 1, 1) := by decide +kernel
theorem k_Text_entry_14 : decode Y_Text_entry.2.1 14 = .ok (.invokevirtual 80, 3) := by decide +kernel
theorem k_Text_entry_17 : decode Y_Text_entry.2.1 17 = .ok (.imul, 1) := by decide +kernel
theorem k_Text_entry_18 : decode Y_Text_entry.2.1 18 = .ok (.aload_n 0, 1) := by decide +kernel
theorem k_Text_entry_19 : decode Y_Text_entry.2.1 19 = .ok (.iload_n 1, 1) := by decide +kernel
theorem k_Text_entry_20 : decode Y_Text_entry.2.1 20 = .ok (.iconst 1, 1) := by decide +kernel
theorem k_Text_entry_21 : decode Y_Text_entry.2.1 21 = .ok (.iadd, 1) := by decide +kernel
theorem k_Text_entry_22 : decode Y_Text_entry.2.1 22 = .ok (.invokevirtual 80, 3) := by decide +kernel
theorem k_Text_entry_25 : decode Y_Text_entry.2.1 25 = .ok (.iadd, 1) := by decide +kernel
theorem k_Text_entry_26 : decode Y_Text_entry.2.1 26 = .ok (.goto 8, 3) := by decide +kernel
theorem k_Text_entry_29 : decode Y_Text_entry.2.1 29 = .ok (.aload_n 0, 1) := by decide +kernel
theorem k_Text_entry_30 : decode Y_Text_entry.2.1 30 = .ok (.iload_n 1, 1) := by decide +kernel
theorem k_Text_entry_31 : decode Y_Text_entry.2.1 31 = .ok (.invokevirtual 80, 3) := by decide +kernel
theorem k_Text_entry_34 : decode Y_Text_entry.2.1 34 = .ok (.ireturn, 1) := by decide +kernel
theorem k_Tune_init_0 : decode Y_Tune_init.2.1 0 = .ok (.aload_n 0, 1) := by decide +kernel
theorem k_Tune_init_1 : decode Y_Tune_init.2.1 1 = .ok (.invokespecial 3, 3) := by decide +kernel
theorem k_Tune_init_4 : decode Y_Tune_init.2.1 4 = .ok (.aload_n 0, 1) := by decide +kernel
theorem k_Tune_init_5 : decode Y_Tune_init.2.1 5 = .ok (.new 9, 3) := by decide +kernel
theorem k_Tune_init_8 : decode Y_Tune_init.2.1 8 = .ok (.dup, 1) := by decide +kernel
theorem k_Tune_init_9 : decode Y_Tune_init.2.1 9 = .ok (.bipush 13, 2) := by decide +kernel
theorem k_Tune_init_11 : decode Y_Tune_init.2.1 11 = .ok (.invokespecial 11, 3) := by decide +kernel
theorem k_Tune_init_14 : decode Y_Tune_init.2.1 14 = .ok (.putfield 14, 3) := by decide +kernel
theorem k_Tune_init_17 : decode Y_Tune_init.2.1 17 = .ok (.aload_n 0, 1) := by decide +kernel
theorem k_Tune_init_18 : decode Y_Tune_init.2.1 18 = .ok (.new 9, 3) := by decide +kernel
theorem k_Tune_init_21 : decode Y_Tune_init.2.1 21 = .ok (.dup, 1) := by decide +kernel
theorem k_Tune_init_22 : decode Y_Tune_init.2.1 22 = .ok (.bipush 13, 2) := by decide +kernel
theorem k_Tune_init_24 : decode Y_Tune_init.2.1 24 = .ok (.invokespecial 11, 3) := by decide +kernel
theorem k_Tune_init_27 : decode Y_Tune_init.2.1 27 = .ok (.putfield 20, 3) := by decide +kernel
theorem k_Tune_init_30 : decode Y_Tune_init.2.1 30 = .ok (.aload_n 0, 1) := by decide +kernel
theorem k_Tune_init_31 : decode Y_Tune_init.2.1 31 = .ok (.new 9, 3) := by decide +kernel
theorem k_Tune_init_34 : decode Y_Tune_init.2.1 34 = .ok (.dup, 1) := by decide +kernel
theorem k_Tune_init_35 : decode Y_Tune_init.2.1 35 = .ok (.bipush 37, 2) := by decide +kernel
theorem k_Tune_init_37 : decode Y_Tune_init.2.1 37 = .ok (.invokespecial 11, 3) := by decide +kernel
theorem k_Tune_init_40 : decode Y_Tune_init.2.1 40 = .ok (.putfield 23, 3) := by decide +kernel
theorem k_Tune_init_43 : decode Y_Tune_init.2.1 43 = .ok (.aload_n 0, 1) := by decide +kernel
theorem k_Tune_init_44 : decode Y_Tune_init.2.1 44 = .ok (.iconst 0, 1) := by decide +kernel
theorem k_Tune_init_45 : decode Y_Tune_init.2.1 45 = .ok (.putfield 26, 3) := by decide +kernel
theorem k_Tune_init_48 : decode Y_Tune_init.2.1 48 = .ok (.return_, 1) := by decide +kernel
theorem k_Tune_notes_0 : decode Y_Tune_notes.2.1 0 = .ok (.aload_n 0, 1) := by decide +kernel
theorem k_Tune_notes_1 : decode Y_Tune_notes.2.1 1 = .ok (.getfield 14, 3) := by decide +kernel
theorem k_Tune_notes_4 : decode Y_Tune_notes.2.1 4 = .ok (.invokevirtual 30, 3) := by decide +kernel
theorem k_Tune_notes_7 : decode Y_Tune_notes.2.1 7 = .ok (.ireturn, 1) := by decide +kernel
theorem k_Tune_has_0 : decode Y_Tune_has.2.1 0 = .ok (.aload_n 0, 1) := by decide +kernel
theorem k_Tune_has_1 : decode Y_Tune_has.2.1 1 = .ok (.getfield 14, 3) := by decide +kernel
theorem k_Tune_has_4 : decode Y_Tune_has.2.1 4 = .ok (.iload_n 1, 1) := by decide +kernel
theorem k_Tune_has_5 : decode Y_Tune_has.2.1 5 = .ok (.invokevirtual 34, 3) := by decide +kernel
theorem k_Tune_has_8 : decode Y_Tune_has.2.1 8 = .ok (.ireturn, 1) := by decide +kernel
theorem k_Tune_pitchOf_0 : decode Y_Tune_pitchOf.2.1 0 = .ok (.aload_n 0, 1) := by decide +kernel
theorem k_Tune_pitchOf_1 : decode Y_Tune_pitchOf.2.1 1 = .ok (.getfield 14, 3) := by decide +kernel
theorem k_Tune_pitchOf_4 : decode Y_Tune_pitchOf.2.1 4 = .ok (.iload_n 1, 1) := by decide +kernel
theorem k_Tune_pitchOf_5 : decode Y_Tune_pitchOf.2.1 5 = .ok (.invokevirtual 38, 3) := by decide +kernel
theorem k_Tune_pitchOf_8 : decode Y_Tune_pitchOf.2.1 8 = .ok (.ireturn, 1) := by decide +kernel
theorem k_Tune_lengthOf_0 : decode Y_Tune_lengthOf.2.1 0 = .ok (.aload_n 0, 1) := by decide +kernel
theorem k_Tune_lengthOf_1 : decode Y_Tune_lengthOf.2.1 1 = .ok (.getfield 20, 3) := by decide +kernel
theorem k_Tune_lengthOf_4 : decode Y_Tune_lengthOf.2.1 4 = .ok (.iload_n 1, 1) := by decide +kernel
theorem k_Tune_lengthOf_5 : decode Y_Tune_lengthOf.2.1 5 = .ok (.invokevirtual 38, 3) := by decide +kernel
theorem k_Tune_lengthOf_8 : decode Y_Tune_lengthOf.2.1 8 = .ok (.ireturn, 1) := by decide +kernel
theorem k_Tune_startOf_0 : decode Y_Tune_startOf.2.1 0 = .ok (.iconst 0, 1) := by decide +kernel
theorem k_Tune_startOf_1 : decode Y_Tune_startOf.2.1 1 = .ok (.istore_n 2, 1) := by decide +kernel
theorem k_Tune_startOf_2 : decode Y_Tune_startOf.2.1 2 = .ok (.iconst 0, 1) := by decide +kernel
theorem k_Tune_startOf_3 : decode Y_Tune_startOf.2.1 3 = .ok (.istore_n 3, 1) := by decide +kernel
theorem k_Tune_startOf_4 : decode Y_Tune_startOf.2.1 4 = .ok (.iload_n 3, 1) := by decide +kernel
theorem k_Tune_startOf_5 : decode Y_Tune_startOf.2.1 5 = .ok (.iload_n 1, 1) := by decide +kernel
theorem k_Tune_startOf_6 : decode Y_Tune_startOf.2.1 6 = .ok (.if_icmp .ge 31, 3) := by decide +kernel
theorem k_Tune_startOf_9 : decode Y_Tune_startOf.2.1 9 = .ok (.iload_n 3, 1) := by decide +kernel
theorem k_Tune_startOf_10 : decode Y_Tune_startOf.2.1 10 = .ok (.aload_n 0, 1) := by decide +kernel
theorem k_Tune_startOf_11 : decode Y_Tune_startOf.2.1 11 = .ok (.getfield 20, 3) := by decide +kernel
theorem k_Tune_startOf_14 : decode Y_Tune_startOf.2.1 14 = .ok (.invokevirtual 30, 3) := by decide +kernel
theorem k_Tune_startOf_17 : decode Y_Tune_startOf.2.1 17 = .ok (.if_icmp .ge 20, 3) := by decide +kernel
theorem k_Tune_startOf_20 : decode Y_Tune_startOf.2.1 20 = .ok (.iload_n 2, 1) := by decide +kernel
theorem k_Tune_startOf_21 : decode Y_Tune_startOf.2.1 21 = .ok (.aload_n 0, 1) := by decide +kernel
theorem k_Tune_startOf_22 : decode Y_Tune_startOf.2.1 22 = .ok (.getfield 20, 3) := by decide +kernel
theorem k_Tune_startOf_25 : decode Y_Tune_startOf.2.1 25 = .ok (.iload_n 3, 1) := by decide +kernel
theorem k_Tune_startOf_26 : decode Y_Tune_startOf.2.1 26 = .ok (.invokevirtual 38, 3) := by decide +kernel
theorem k_Tune_startOf_29 : decode Y_Tune_startOf.2.1 29 = .ok (.iadd, 1) := by decide +kernel
theorem k_Tune_startOf_30 : decode Y_Tune_startOf.2.1 30 = .ok (.istore_n 2, 1) := by decide +kernel
theorem k_Tune_startOf_31 : decode Y_Tune_startOf.2.1 31 = .ok (.iinc 3 1, 3) := by decide +kernel
theorem k_Tune_startOf_34 : decode Y_Tune_startOf.2.1 34 = .ok (.goto (-30), 3) := by decide +kernel
theorem k_Tune_startOf_37 : decode Y_Tune_startOf.2.1 37 = .ok (.iload_n 2, 1) := by decide +kernel
theorem k_Tune_startOf_38 : decode Y_Tune_startOf.2.1 38 = .ok (.ireturn, 1) := by decide +kernel
theorem k_Tune_noteAt_0 : decode Y_Tune_noteAt.2.1 0 = .ok (.aload_n 0, 1) := by decide +kernel
theorem k_Tune_noteAt_1 : decode Y_Tune_noteAt.2.1 1 = .ok (.getfield 23, 3) := by decide +kernel
theorem k_Tune_noteAt_4 : decode Y_Tune_noteAt.2.1 4 = .ok (.iload_n 1, 1) := by decide +kernel
theorem k_Tune_noteAt_5 : decode Y_Tune_noteAt.2.1 5 = .ok (.invokevirtual 38, 3) := by decide +kernel
theorem k_Tune_noteAt_8 : decode Y_Tune_noteAt.2.1 8 = .ok (.ireturn, 1) := by decide +kernel
theorem k_Tune_plainAt_0 : decode Y_Tune_plainAt.2.1 0 = .ok (.aload_n 0, 1) := by decide +kernel
theorem k_Tune_plainAt_1 : decode Y_Tune_plainAt.2.1 1 = .ok (.getfield 14, 3) := by decide +kernel
theorem k_Tune_plainAt_4 : decode Y_Tune_plainAt.2.1 4 = .ok (.aload_n 0, 1) := by decide +kernel
theorem k_Tune_plainAt_5 : decode Y_Tune_plainAt.2.1 5 = .ok (.getfield 23, 3) := by decide +kernel
theorem k_Tune_plainAt_8 : decode Y_Tune_plainAt.2.1 8 = .ok (.iload_n 1, 1) := by decide +kernel
theorem k_Tune_plainAt_9 : decode Y_Tune_plainAt.2.1 9 = .ok (.invokevirtual 38, 3) := by decide +kernel
theorem k_Tune_plainAt_12 : decode Y_Tune_plainAt.2.1 12 = .ok (.invokevirtual 38, 3) := by decide +kernel
theorem k_Tune_plainAt_15 : decode Y_Tune_plainAt.2.1 15 = .ok (.ireturn, 1) := by decide +kernel
theorem k_Tune_setPitch_0 : decode Y_Tune_setPitch.2.1 0 = .ok (.aload_n 0, 1) := by decide +kernel
theorem k_Tune_setPitch_1 : decode Y_Tune_setPitch.2.1 1 = .ok (.getfield 14, 3) := by decide +kernel
theorem k_Tune_setPitch_4 : decode Y_Tune_setPitch.2.1 4 = .ok (.iload_n 1, 1) := by decide +kernel
theorem k_Tune_setPitch_5 : decode Y_Tune_setPitch.2.1 5 = .ok (.iload_n 2, 1) := by decide +kernel
theorem k_Tune_setPitch_6 : decode Y_Tune_setPitch.2.1 6 = .ok (.invokevirtual 42, 3) := by decide +kernel
theorem k_Tune_setPitch_9 : decode Y_Tune_setPitch.2.1 9 = .ok (.return_, 1) := by decide +kernel
theorem k_Tune_add_0 : decode Y_Tune_add.2.1 0 = .ok (.aload_n 0, 1) := by decide +kernel
theorem k_Tune_add_1 : decode Y_Tune_add.2.1 1 = .ok (.getfield 14, 3) := by decide +kernel
theorem k_Tune_add_4 : decode Y_Tune_add.2.1 4 = .ok (.invokevirtual 30, 3) := by decide +kernel
theorem k_Tune_add_7 : decode Y_Tune_add.2.1 7 = .ok (.istore_n 3, 1) := by decide +kernel
theorem k_Tune_add_8 : decode Y_Tune_add.2.1 8 = .ok (.aload_n 0, 1) := by decide +kernel
theorem k_Tune_add_9 : decode Y_Tune_add.2.1 9 = .ok (.getfield 14, 3) := by decide +kernel
theorem k_Tune_add_12 : decode Y_Tune_add.2.1 12 = .ok (.iload_n 1, 1) := by decide +kernel
theorem k_Tune_add_13 : decode Y_Tune_add.2.1 13 = .ok (.invokevirtual 46, 3) := by decide +kernel
theorem k_Tune_add_16 : decode Y_Tune_add.2.1 16 = .ok (.aload_n 0, 1) := by decide +kernel
theorem k_Tune_add_17 : decode Y_Tune_add.2.1 17 = .ok (.getfield 20, 3) := by decide +kernel
theorem k_Tune_add_20 : decode Y_Tune_add.2.1 20 = .ok (.iload_n 2, 1) := by decide +kernel
theorem k_Tune_add_21 : decode Y_Tune_add.2.1 21 = .ok (.invokevirtual 46, 3) := by decide +kernel
theorem k_Tune_add_24 : decode Y_Tune_add.2.1 24 = .ok (.iconst 0, 1) := by decide +kernel
theorem k_Tune_add_25 : decode Y_Tune_add.2.1 25 = .ok (.istore 4, 2) := by decide +kernel
theorem k_Tune_add_27 : decode Y_Tune_add.2.1 27 = .ok (.iload 4, 2) := by decide +kernel
theorem k_Tune_add_29 : decode Y_Tune_add.2.1 29 = .ok (.iload_n 2, 1) := by decide +kernel
theorem k_Tune_add_30 : decode Y_Tune_add.2.1 30 = .ok (.if_icmp .ge 23, 3) := by decide +kernel
theorem k_Tune_add_33 : decode Y_Tune_add.2.1 33 = .ok (.iload 4, 2) := by decide +kernel
theorem k_Tune_add_35 : decode Y_Tune_add.2.1 35 = .ok (.iconst 3, 1) := by decide +kernel
theorem k_Tune_add_36 : decode Y_Tune_add.2.1 36 = .ok (.if_icmp .ge 17, 3) := by decide +kernel
theorem k_Tune_add_39 : decode Y_Tune_add.2.1 39 = .ok (.aload_n 0, 1) := by decide +kernel
theorem k_Tune_add_40 : decode Y_Tune_add.2.1 40 = .ok (.getfield 23, 3) := by decide +kernel
theorem k_Tune_add_43 : decode Y_Tune_add.2.1 43 = .ok (.iload_n 3, 1) := by decide +kernel
theorem k_Tune_add_44 : decode Y_Tune_add.2.1 44 = .ok (.invokevirtual 46, 3) := by decide +kernel
theorem k_Tune_add_47 : decode Y_Tune_add.2.1 47 = .ok (.iinc 4 1, 3) := by decide +kernel
theorem k_Tune_add_50 : decode Y_Tune_add.2.1 50 = .ok (.goto (-23), 3) := by decide +kernel
theorem k_Tune_add_53 : decode Y_Tune_add.2.1 53 = .ok (.aload_n 0, 1) := by decide +kernel
theorem k_Tune_add_54 : decode Y_Tune_add.2.1 54 = .ok (.aload_n 0, 1) := by decide +kernel
theorem k_Tune_add_55 : decode Y_Tune_add.2.1 55 = .ok (.getfield 23, 3) := by decide +kernel
theorem k_Tune_add_58 : decode Y_Tune_add.2.1 58 = .ok (.invokevirtual 30, 3) := by decide +kernel
theorem k_Tune_add_61 : decode Y_Tune_add.2.1 61 = .ok (.putfield 26, 3) := by decide +kernel
theorem k_Tune_add_64 : decode Y_Tune_add.2.1 64 = .ok (.return_, 1) := by decide +kernel
theorem k_Tune_isMirror_0 : decode Y_Tune_isMirror.2.1 0 = .ok (.aload_n 0, 1) := by decide +kernel
theorem k_Tune_isMirror_1 : decode Y_Tune_isMirror.2.1 1 = .ok (.getfield 26, 3) := by decide +kernel
theorem k_Tune_isMirror_4 : decode Y_Tune_isMirror.2.1 4 = .ok (.iconst 1, 1) := by decide +kernel
theorem k_Tune_isMirror_5 : decode Y_Tune_isMirror.2.1 5 = .ok (.isub, 1) := by decide +kernel
theorem k_Tune_isMirror_6 : decode Y_Tune_isMirror.2.1 6 = .ok (.istore_n 1, 1) := by decide +kernel
theorem k_Tune_isMirror_7 : decode Y_Tune_isMirror.2.1 7 = .ok (.iconst 0, 1) := by decide +kernel
theorem k_Tune_isMirror_8 : decode Y_Tune_isMirror.2.1 8 = .ok (.istore_n 2, 1) := by decide +kernel
theorem k_Tune_isMirror_9 : decode Y_Tune_isMirror.2.1 9 = .ok (.iload_n 2, 1) := by decide +kernel
theorem k_Tune_isMirror_10 : decode Y_Tune_isMirror.2.1 10 = .ok (.iload_n 1, 1) := by decide +kernel
theorem k_Tune_isMirror_11 : decode Y_Tune_isMirror.2.1 11 = .ok (.iload_n 2, 1) := by decide +kernel
theorem k_Tune_isMirror_12 : decode Y_Tune_isMirror.2.1 12 = .ok (.isub, 1) := by decide +kernel
theorem k_Tune_isMirror_13 : decode Y_Tune_isMirror.2.1 13 = .ok (.if_icmp .ge 26, 3) := by decide +kernel
theorem k_Tune_isMirror_16 : decode Y_Tune_isMirror.2.1 16 = .ok (.aload_n 0, 1) := by decide +kernel
theorem k_Tune_isMirror_17 : decode Y_Tune_isMirror.2.1 17 = .ok (.iload_n 2, 1) := by decide +kernel
theorem k_Tune_isMirror_18 : decode Y_Tune_isMirror.2.1 18 = .ok (.invokevirtual 49, 3) := by decide +kernel
theorem k_Tune_isMirror_21 : decode Y_Tune_isMirror.2.1 21 = .ok (.aload_n 0, 1) := by decide +kernel
theorem k_Tune_isMirror_22 : decode Y_Tune_isMirror.2.1 22 = .ok (.iload_n 1, 1) := by decide +kernel
theorem k_Tune_isMirror_23 : decode Y_Tune_isMirror.2.1 23 = .ok (.iload_n 2, 1) := by decide +kernel
theorem k_Tune_isMirror_24 : decode Y_Tune_isMirror.2.1 24 = .ok (.isub, 1) := by decide +kernel
theorem k_Tune_isMirror_25 : decode Y_Tune_isMirror.2.1 25 = .ok (.invokevirtual 49, 3) := by decide +kernel
theorem k_Tune_isMirror_28 : decode Y_Tune_isMirror.2.1 28 = .ok (.if_icmp .eq 5, 3) := by decide +kernel
theorem k_Tune_isMirror_31 : decode Y_Tune_isMirror.2.1 31 = .ok (.iconst 0, 1) := by decide +kernel
theorem k_Tune_isMirror_32 : decode Y_Tune_isMirror.2.1 32 = .ok (.ireturn, 1) := by decide +kernel
theorem k_Tune_isMirror_33 : decode Y_Tune_isMirror.2.1 33 = .ok (.iinc 2 1, 3) := by decide +kernel
theorem k_Tune_isMirror_36 : decode Y_Tune_isMirror.2.1 36 = .ok (.goto (-27), 3) := by decide +kernel
theorem k_Tune_isMirror_39 : decode Y_Tune_isMirror.2.1 39 = .ok (.iconst 1, 1) := by decide +kernel
theorem k_Tune_isMirror_40 : decode Y_Tune_isMirror.2.1 40 = .ok (.ireturn, 1) := by decide +kernel
theorem k_Tune_copyFrom_0 : decode Y_Tune_copyFrom.2.1 0 = .ok (.aload_n 1, 1) := by decide +kernel
theorem k_Tune_copyFrom_1 : decode Y_Tune_copyFrom.2.1 1 = .ok (.ifnull 44, 3) := by decide +kernel
theorem k_Tune_copyFrom_4 : decode Y_Tune_copyFrom.2.1 4 = .ok (.aload_n 0, 1) := by decide +kernel
theorem k_Tune_copyFrom_5 : decode Y_Tune_copyFrom.2.1 5 = .ok (.getfield 14, 3) := by decide +kernel
theorem k_Tune_copyFrom_8 : decode Y_Tune_copyFrom.2.1 8 = .ok (.aload_n 1, 1) := by decide +kernel
theorem k_Tune_copyFrom_9 : decode Y_Tune_copyFrom.2.1 9 = .ok (.getfield 14, 3) := by decide +kernel
theorem k_Tune_copyFrom_12 : decode Y_Tune_copyFrom.2.1 12 = .ok (.invokevirtual 52, 3) := by decide +kernel
theorem k_Tune_copyFrom_15 : decode Y_Tune_copyFrom.2.1 15 = .ok (.aload_n 0, 1) := by decide +kernel
theorem k_Tune_copyFrom_16 : decode Y_Tune_copyFrom.2.1 16 = .ok (.getfield 20, 3) := by decide +kernel
theorem k_Tune_copyFrom_19 : decode Y_Tune_copyFrom.2.1 19 = .ok (.aload_n 1, 1) := by decide +kernel
theorem k_Tune_copyFrom_20 : decode Y_Tune_copyFrom.2.1 20 = .ok (.getfield 20, 3) := by decide +kernel
theorem k_Tune_copyFrom_23 : decode Y_Tune_copyFrom.2.1 23 = .ok (.invokevirtual 52, 3) := by decide +kernel
theorem k_Tune_copyFrom_26 : decode Y_Tune_copyFrom.2.1 26 = .ok (.aload_n 0, 1) := by decide +kernel
theorem k_Tune_copyFrom_27 : decode Y_Tune_copyFrom.2.1 27 = .ok (.getfield 23, 3) := by decide +kernel
theorem k_Tune_copyFrom_30 : decode Y_Tune_copyFrom.2.1 30 = .ok (.aload_n 1, 1) := by decide +kernel
theorem k_Tune_copyFrom_31 : decode Y_Tune_copyFrom.2.1 31 = .ok (.getfield 23, 3) := by decide +kernel
theorem k_Tune_copyFrom_34 : decode Y_Tune_copyFrom.2.1 34 = .ok (.invokevirtual 52, 3) := by decide +kernel
theorem k_Tune_copyFrom_37 : decode Y_Tune_copyFrom.2.1 37 = .ok (.aload_n 0, 1) := by decide +kernel
theorem k_Tune_copyFrom_38 : decode Y_Tune_copyFrom.2.1 38 = .ok (.aload_n 1, 1) := by decide +kernel
theorem k_Tune_copyFrom_39 : decode Y_Tune_copyFrom.2.1 39 = .ok (.getfield 26, 3) := by decide +kernel
theorem k_Tune_copyFrom_42 : decode Y_Tune_copyFrom.2.1 42 = .ok (.putfield 26, 3) := by decide +kernel
theorem k_Tune_copyFrom_45 : decode Y_Tune_copyFrom.2.1 45 = .ok (.return_, 1) := by decide +kernel
theorem k_Walks_init_0 : decode Y_Walks_init.2.1 0 = .ok (.aload_n 0, 1) := by decide +kernel
theorem k_Walks_init_1 : decode Y_Walks_init.2.1 1 = .ok (.invokespecial 3, 3) := by decide +kernel
theorem k_Walks_init_4 : decode Y_Walks_init.2.1 4 = .ok (.aload_n 0, 1) := by decide +kernel
theorem k_Walks_init_5 : decode Y_Walks_init.2.1 5 = .ok (.bipush 7, 2) := by decide +kernel
theorem k_Walks_init_7 : decode Y_Walks_init.2.1 7 = .ok (.newarray .long, 2) := by decide +kernel
theorem k_Walks_init_9 : decode Y_Walks_init.2.1 9 = .ok (.putfield 9, 3) := by decide +kernel
theorem k_Walks_init_12 : decode Y_Walks_init.2.1 12 = .ok (.aload_n 0, 1) := by decide +kernel
theorem k_Walks_init_13 : decode Y_Walks_init.2.1 13 = .ok (.bipush 7, 2) := by decide +kernel
theorem k_Walks_init_15 : decode Y_Walks_init.2.1 15 = .ok (.newarray .long, 2) := by decide +kernel
theorem k_Walks_init_17 : decode Y_Walks_init.2.1 17 = .ok (.putfield 15, 3) := by decide +kernel
theorem k_Walks_init_20 : decode Y_Walks_init.2.1 20 = .ok (.return_, 1) := by decide +kernel
theorem k_Walks_tunesAgreeing_0 : decode Y_Walks_tunesAgreeing.2.1 0 = .ok (.iload_n 2, 1) := by decide +kernel
theorem k_Walks_tunesAgreeing_1 : decode Y_Walks_tunesAgreeing.2.1 1 = .ok (.iconst 1, 1) := by decide +kernel
theorem k_Walks_tunesAgreeing_2 : decode Y_Walks_tunesAgreeing.2.1 2 = .ok (.if_icmp .ge 5, 3) := by decide +kernel
theorem k_Walks_tunesAgreeing_5 : decode Y_Walks_tunesAgreeing.2.1 5 = .ok (.lconst 0, 1) := by decide +kernel
theorem k_Walks_tunesAgreeing_6 : decode Y_Walks_tunesAgreeing.2.1 6 = .ok (.lreturn, 1) := by decide +kernel
theorem k_Walks_tunesAgreeing_7 : decode Y_Walks_tunesAgreeing.2.1 7 = .ok (.lconst 1, 1) := by decide +kernel
theorem k_Walks_tunesAgreeing_8 : decode Y_Walks_tunesAgreeing.2.1 8 = .ok (.lstore 4, 2) := by decide +kernel
theorem k_Walks_tunesAgreeing_10 : decode Y_Walks_tunesAgreeing.2.1 10 = .ok (.iconst 0, 1) := by decide +kernel
theorem k_Walks_tunesAgreeing_11 : decode Y_Walks_tunesAgreeing.2.1 11 = .ok (.istore 6, 2) := by decide +kernel
theorem k_Walks_tunesAgreeing_13 : decode Y_Walks_tunesAgreeing.2.1 13 = .ok (.iload 6, 2) := by decide +kernel
theorem k_Walks_tunesAgreeing_15 : decode Y_Walks_tunesAgreeing.2.1 15 = .ok (.iload_n 2, 1) := by decide +kernel
theorem k_Walks_tunesAgreeing_16 : decode Y_Walks_tunesAgreeing.2.1 16 = .ok (.if_icmp .ge 35, 3) := by decide +kernel
theorem k_Walks_tunesAgreeing_19 : decode Y_Walks_tunesAgreeing.2.1 19 = .ok (.iload 6, 2) := by decide +kernel
theorem k_Walks_tunesAgreeing_21 : decode Y_Walks_tunesAgreeing.2.1 21 = .ok (.iload_n 1, 1) := by decide +kernel
theorem k_Walks_tunesAgreeing_22 : decode Y_Walks_tunesAgreeing.2.1 22 = .ok (.if_icmp .ge 29, 3) := by decide +kernel
theorem k_Walks_tunesAgreeing_25 : decode Y_Walks_tunesAgreeing.2.1 25 = .ok (.lload 4, 2) := by decide +kernel
theorem k_Walks_tunesAgreeing_27 : decode Y_Walks_tunesAgreeing.2.1 27 = .ok (.aload_n 0, 1) := by decide +kernel
theorem k_Walks_tunesAgreeing_28 : decode Y_Walks_tunesAgreeing.2.1 28 = .ok (.iload_n 1, 1) := by decide +kernel
theorem k_Walks_tunesAgreeing_29 : decode Y_Walks_tunesAgreeing.2.1 29 = .ok (.iconst 1, 1) := by decide +kernel
theorem k_Walks_tunesAgreeing_30 : decode Y_Walks_tunesAgreeing.2.1 30 = .ok (.isub, 1) := by decide +kernel
theorem k_Walks_tunesAgreeing_31 : decode Y_Walks_tunesAgreeing.2.1 31 = .ok (.iload 6, 2) := by decide +kernel
theorem k_Walks_tunesAgreeing_33 : decode Y_Walks_tunesAgreeing.2.1 33 = .ok (.isub, 1) := by decide +kernel
theorem k_Walks_tunesAgreeing_34 : decode Y_Walks_tunesAgreeing.2.1 34 = .ok (.iload_n 2, 1) := by decide +kernel
theorem k_Walks_tunesAgreeing_35 : decode Y_Walks_tunesAgreeing.2.1 35 = .ok (.idiv, 1) := by decide +kernel
theorem k_Walks_tunesAgreeing_36 : decode Y_Walks_tunesAgreeing.2.1 36 = .ok (.iconst 1, 1) := by decide +kernel
theorem k_Walks_tunesAgreeing_37 : decode Y_Walks_tunesAgreeing.2.1 37 = .ok (.iadd, 1) := by decide +kernel
theorem k_Walks_tunesAgreeing_38 : decode Y_Walks_tunesAgreeing.2.1 38 = .ok (.iload_n 3, 1) := by decide +kernel
theorem k_Walks_tunesAgreeing_39 : decode Y_Walks_tunesAgreeing.2.1 39 = .ok (.invokevirtual 18, 3) := by decide +kernel
theorem k_Walks_tunesAgreeing_42 : decode Y_Walks_tunesAgreeing.2.1 42 = .ok (.lmul, 1) := by decide +kernel
theorem k_Walks_tunesAgreeing_43 : decode Y_Walks_tunesAgreeing.2.1 43 = .ok (.lstore 4, 2) := by decide +kernel
theorem k_Walks_tunesAgreeing_45 : decode Y_Walks_tunesAgreeing.2.1 45 = .ok (.iinc 6 1, 3) := by decide +kernel
theorem k_Walks_tunesAgreeing_48 : decode Y_Walks_tunesAgreeing.2.1 48 = .ok (.goto (-35), 3) := by decide +kernel
theorem k_Walks_tunesAgreeing_51 : decode Y_Walks_tunesAgreeing.2.1 51 = .ok (.lload 4, 2) := by decide +kernel
theorem k_Walks_tunesAgreeing_53 : decode Y_Walks_tunesAgreeing.2.1 53 = .ok (.lreturn, 1) := by decide +kernel
theorem k_Walks_chainsOf_0 : decode Y_Walks_chainsOf.2.1 0 = .ok (.iconst 0, 1) := by decide +kernel
theorem k_Walks_chainsOf_1 : decode Y_Walks_chainsOf.2.1 1 = .ok (.istore_n 3, 1) := by decide +kernel
theorem k_Walks_chainsOf_2 : decode Y_Walks_chainsOf.2.1 2 = .ok (.iload_n 3, 1) := by decide +kernel
theorem k_Walks_chainsOf_3 : decode Y_Walks_chainsOf.2.1 3 = .ok (.bipush 7, 2) := by decide +kernel
theorem k_Walks_chainsOf_5 : decode Y_Walks_chainsOf.2.1 5 = .ok (.if_icmp .ge 25, 3) := by decide +kernel
theorem k_Walks_chainsOf_8 : decode Y_Walks_chainsOf.2.1 8 = .ok (.iload_n 3, 1) := by decide +kernel
theorem k_Walks_chainsOf_9 : decode Y_Walks_chainsOf.2.1 9 = .ok (.aload_n 0, 1) := by decide +kernel
theorem k_Walks_chainsOf_10 : decode Y_Walks_chainsOf.2.1 10 = .ok (.getfield 9, 3) := by decide +kernel
theorem k_Walks_chainsOf_13 : decode Y_Walks_chainsOf.2.1 13 = .ok (.arraylength, 1) := by decide +kernel
theorem k_Walks_chainsOf_14 : decode Y_Walks_chainsOf.2.1 14 = .ok (.if_icmp .ge 16, 3) := by decide +kernel
theorem k_Walks_chainsOf_17 : decode Y_Walks_chainsOf.2.1 17 = .ok (.aload_n 0, 1) := by decide +kernel
theorem k_Walks_chainsOf_18 : decode Y_Walks_chainsOf.2.1 18 = .ok (.getfield 9, 3) := by decide +kernel
theorem k_Walks_chainsOf_21 : decode Y_Walks_chainsOf.2.1 21 = .ok (.iload_n 3, 1) := by decide +kernel
theorem k_Walks_chainsOf_22 : decode Y_Walks_chainsOf.2.1 22 = .ok (.lconst 1, 1) := by decide +kernel
theorem k_Walks_chainsOf_23 : decode Y_Walks_chainsOf.2.1 23 = .ok (.lastore, 1) := by decide +kernel
theorem k_Walks_chainsOf_24 : decode Y_Walks_chainsOf.2.1 24 = .ok (.iinc 3 1, 3) := by decide +kernel
theorem k_Walks_chainsOf_27 : decode Y_Walks_chainsOf.2.1 27 = .ok (.goto (-25), 3) := by decide +kernel
theorem k_Walks_chainsOf_30 : decode Y_Walks_chainsOf.2.1 30 = .ok (.iconst 1, 1) := by decide +kernel
theorem k_Walks_chainsOf_31 : decode Y_Walks_chainsOf.2.1 31 = .ok (.istore_n 3, 1) := by decide +kernel
theorem k_Walks_chainsOf_32 : decode Y_Walks_chainsOf.2.1 32 = .ok (.iload_n 3, 1) := by decide +kernel
theorem k_Walks_chainsOf_33 : decode Y_Walks_chainsOf.2.1 33 = .ok (.iload_n 1, 1) := by decide +kernel
theorem k_Walks_chainsOf_34 : decode Y_Walks_chainsOf.2.1 34 = .ok (.if_icmp .ge 14, 3) := by decide +kernel
theorem k_Walks_chainsOf_37 : decode Y_Walks_chainsOf.2.1 37 = .ok (.aload_n 0, 1) := by decide +kernel
theorem k_Walks_chainsOf_38 : decode Y_Walks_chainsOf.2.1 38 = .ok (.iload_n 2, 1) := by decide +kernel
theorem k_Walks_chainsOf_39 : decode Y_Walks_chainsOf.2.1 39 = .ok (.invokevirtual 22, 3) := by decide +kernel
theorem k_Walks_chainsOf_42 : decode Y_Walks_chainsOf.2.1 42 = .ok (.iinc 3 1, 3) := by decide +kernel
theorem k_Walks_chainsOf_45 : decode Y_Walks_chainsOf.2.1 45 = .ok (.goto (-13), 3) := by decide +kernel
theorem k_Walks_chainsOf_48 : decode Y_Walks_chainsOf.2.1 48 = .ok (.lconst 0, 1) := by decide +kernel
theorem k_Walks_chainsOf_49 : decode Y_Walks_chainsOf.2.1 49 = .ok (.lstore_n 3, 1) := by decide +kernel
theorem k_Walks_chainsOf_50 : decode Y_Walks_chainsOf.2.1 50 = .ok (.iconst 0, 1) := by decide +kernel
theorem k_Walks_chainsOf_51 : decode Y_Walks_chainsOf.2.1 51 = .ok (.istore 5, 2) := by decide +kernel
theorem k_Walks_chainsOf_53 : decode Y_Walks_chainsOf.2.1 53 = .ok (.iload 5, 2) := by decide +kernel
theorem k_Walks_chainsOf_55 : decode Y_Walks_chainsOf.2.1 55 = .ok (.bipush 7, 2) := by decide +kernel
theorem k_Walks_chainsOf_57 : decode Y_Walks_chainsOf.2.1 57 = .ok (.if_icmp .ge 29, 3) := by decide +kernel
theorem k_Walks_chainsOf_60 : decode Y_Walks_chainsOf.2.1 60 = .ok (.iload 5, 2) := by decide +kernel
theorem k_Walks_chainsOf_62 : decode Y_Walks_chainsOf.2.1 62 = .ok (.aload_n 0, 1) := by decide +kernel
theorem k_Walks_chainsOf_63 : decode Y_Walks_chainsOf.2.1 63 = .ok (.getfield 9, 3) := by decide +kernel
theorem k_Walks_chainsOf_66 : decode Y_Walks_chainsOf.2.1 66 = .ok (.arraylength, 1) := by decide +kernel
theorem k_Walks_chainsOf_67 : decode Y_Walks_chainsOf.2.1 67 = .ok (.if_icmp .ge 19, 3) := by decide +kernel
theorem k_Walks_chainsOf_70 : decode Y_Walks_chainsOf.2.1 70 = .ok (.lload_n 3, 1) := by decide +kernel
theorem k_Walks_chainsOf_71 : decode Y_Walks_chainsOf.2.1 71 = .ok (.aload_n 0, 1) := by decide +kernel
theorem k_Walks_chainsOf_72 : decode Y_Walks_chainsOf.2.1 72 = .ok (.getfield 9, 3) := by decide +kernel
theorem k_Walks_chainsOf_75 : decode Y_Walks_chainsOf.2.1 75 = .ok (.iload 5, 2) := by decide +kernel
theorem k_Walks_chainsOf_77 : decode Y_Walks_chainsOf.2.1 77 = .ok (.laload, 1) := by decide +kernel
theorem k_Walks_chainsOf_78 : decode Y_Walks_chainsOf.2.1 78 = .ok (.ladd, 1) := by decide +kernel
theorem k_Walks_chainsOf_79 : decode Y_Walks_chainsOf.2.1 79 = .ok (.lstore_n 3, 1) := by decide +kernel
theorem k_Walks_chainsOf_80 : decode Y_Walks_chainsOf.2.1 80 = .ok (.iinc 5 1, 3) := by decide +kernel
theorem k_Walks_chainsOf_83 : decode Y_Walks_chainsOf.2.1 83 = .ok (.goto (-30), 3) := by decide +kernel
theorem k_Walks_chainsOf_86 : decode Y_Walks_chainsOf.2.1 86 = .ok (.lload_n 3, 1) := by decide +kernel
theorem k_Walks_chainsOf_87 : decode Y_Walks_chainsOf.2.1 87 = .ok (.lreturn, 1) := by decide +kernel
theorem k_Walks_lengthen_0 : decode Y_Walks_lengthen.2.1 0 = .ok (.iconst 0, 1) := by decide +kernel
theorem k_Walks_lengthen_1 : decode Y_Walks_lengthen.2.1 1 = .ok (.istore_n 2, 1) := by decide +kernel
theorem k_Walks_lengthen_2 : decode Y_Walks_lengthen.2.1 2 = .ok (.iload_n 2, 1) := by decide +kernel
theorem k_Walks_lengthen_3 : decode Y_Walks_lengthen.2.1 3 = .ok (.bipush 7, 2) := by decide +kernel
theorem k_Walks_lengthen_5 : decode Y_Walks_lengthen.2.1 5 = .ok (.if_icmp .ge 73, 3) := by decide +kernel
theorem k_Walks_lengthen_8 : decode Y_Walks_lengthen.2.1 8 = .ok (.iload_n 2, 1) := by decide +kernel
theorem k_Walks_lengthen_9 : decode Y_Walks_lengthen.2.1 9 = .ok (.aload_n 0, 1) := by decide +kernel
theorem k_Walks_lengthen_10 : decode Y_Walks_lengthen.2.1 10 = .ok (.getfield 15, 3) := by decide +kernel
theorem k_Walks_lengthen_13 : decode Y_Walks_lengthen.2.1 13 = .ok (.arraylength, 1) := by decide +kernel
theorem k_Walks_lengthen_14 : decode Y_Walks_lengthen.2.1 14 = .ok (.if_icmp .ge 64, 3) := by decide +kernel
theorem k_Walks_lengthen_17 : decode Y_Walks_lengthen.2.1 17 = .ok (.aload_n 0, 1) := by decide +kernel
theorem k_Walks_lengthen_18 : decode Y_Walks_lengthen.2.1 18 = .ok (.getfield 15, 3) := by decide +kernel
theorem k_Walks_lengthen_21 : decode Y_Walks_lengthen.2.1 21 = .ok (.iload_n 2, 1) := by decide +kernel
theorem k_Walks_lengthen_22 : decode Y_Walks_lengthen.2.1 22 = .ok (.lconst 0, 1) := by decide +kernel
theorem k_Walks_lengthen_23 : decode Y_Walks_lengthen.2.1 23 = .ok (.lastore, 1) := by decide +kernel
theorem k_Walks_lengthen_24 : decode Y_Walks_lengthen.2.1 24 = .ok (.iconst 0, 1) := by decide +kernel
theorem k_Walks_lengthen_25 : decode Y_Walks_lengthen.2.1 25 = .ok (.istore_n 3, 1) := by decide +kernel
theorem k_Walks_lengthen_26 : decode Y_Walks_lengthen.2.1 26 = .ok (.iload_n 3, 1) := by decide +kernel
theorem k_Walks_lengthen_27 : decode Y_Walks_lengthen.2.1 27 = .ok (.bipush 7, 2) := by decide +kernel
theorem k_Walks_lengthen_29 : decode Y_Walks_lengthen.2.1 29 = .ok (.if_icmp .ge 43, 3) := by decide +kernel
theorem k_Walks_lengthen_32 : decode Y_Walks_lengthen.2.1 32 = .ok (.iload_n 3, 1) := by decide +kernel
theorem k_Walks_lengthen_33 : decode Y_Walks_lengthen.2.1 33 = .ok (.aload_n 0, 1) := by decide +kernel
theorem k_Walks_lengthen_34 : decode Y_Walks_lengthen.2.1 34 = .ok (.getfield 9, 3) := by decide +kernel
theorem k_Walks_lengthen_37 : decode Y_Walks_lengthen.2.1 37 = .ok (.arraylength, 1) := by decide +kernel
theorem k_Walks_lengthen_38 : decode Y_Walks_lengthen.2.1 38 = .ok (.if_icmp .ge 34, 3) := by decide +kernel
theorem k_Walks_lengthen_41 : decode Y_Walks_lengthen.2.1 41 = .ok (.iload_n 1, 1) := by decide +kernel
theorem k_Walks_lengthen_42 : decode Y_Walks_lengthen.2.1 42 = .ok (.iload_n 2, 1) := by decide +kernel
theorem k_Walks_lengthen_43 : decode Y_Walks_lengthen.2.1 43 = .ok (.iload_n 3, 1) := by decide +kernel
theorem k_Walks_lengthen_44 : decode Y_Walks_lengthen.2.1 44 = .ok (.isub, 1) := by decide +kernel
theorem k_Walks_lengthen_45 : decode Y_Walks_lengthen.2.1 45 = .ok (.invokestatic 26, 3) := by decide +kernel
theorem k_Walks_lengthen_48 : decode Y_Walks_lengthen.2.1 48 = .ok (.ifCond .eq 18, 3) := by decide +kernel
theorem k_Walks_lengthen_51 : decode Y_Walks_lengthen.2.1 51 = .ok (.aload_n 0, 1) := by decide +kernel
theorem k_Walks_lengthen_52 : decode Y_Walks_lengthen.2.1 52 = .ok (.getfield 15, 3) := by decide +kernel
theorem k_Walks_lengthen_55 : decode Y_Walks_lengthen.2.1 55 = .ok (.iload_n 2, 1) := by decide +kernel
theorem k_Walks_lengthen_56 : decode Y_Walks_lengthen.2.1 56 = .ok (.dup2, 1) := by decide +kernel
theorem k_Walks_lengthen_57 : decode Y_Walks_lengthen.2.1 57 = .ok (.laload, 1) := by decide +kernel
theorem k_Walks_lengthen_58 : decode Y_Walks_lengthen.2.1 58 = .ok (.aload_n 0, 1) := by decide +kernel
theorem k_Walks_lengthen_59 : decode Y_Walks_lengthen.2.1 59 = .ok (.getfield 9, 3) := by decide +kernel
theorem k_Walks_lengthen_62 : decode Y_Walks_lengthen.2.1 62 = .ok (.iload_n 3, 1) := by decide +kernel
theorem k_Walks_lengthen_63 : decode Y_Walks_lengthen.2.1 63 = .ok (.laload, 1) := by decide +kernel
theorem k_Walks_lengthen_64 : decode Y_Walks_lengthen.2.1 64 = .ok (.ladd, 1) := by decide +kernel
theorem k_Walks_lengthen_65 : decode Y_Walks_lengthen.2.1 65 = .ok (.lastore, 1) := by decide +kernel
theorem k_Walks_lengthen_66 : decode Y_Walks_lengthen.2.1 66 = .ok (.iinc 3 1, 3) := by decide +kernel
theorem k_Walks_lengthen_69 : decode Y_Walks_lengthen.2.1 69 = .ok (.goto (-43), 3) := by decide +kernel
theorem k_Walks_lengthen_72 : decode Y_Walks_lengthen.2.1 72 = .ok (.iinc 2 1, 3) := by decide +kernel
theorem k_Walks_lengthen_75 : decode Y_Walks_lengthen.2.1 75 = .ok (.goto (-73), 3) := by decide +kernel
theorem k_Walks_lengthen_78 : decode Y_Walks_lengthen.2.1 78 = .ok (.iconst 0, 1) := by decide +kernel
theorem k_Walks_lengthen_79 : decode Y_Walks_lengthen.2.1 79 = .ok (.istore_n 2, 1) := by decide +kernel
theorem k_Walks_lengthen_80 : decode Y_Walks_lengthen.2.1 80 = .ok (.iload_n 2, 1) := by decide +kernel
theorem k_Walks_lengthen_81 : decode Y_Walks_lengthen.2.1 81 = .ok (.aload_n 0, 1) := by decide +kernel
theorem k_Walks_lengthen_82 : decode Y_Walks_lengthen.2.1 82 = .ok (.getfield 15, 3) := by decide +kernel
theorem k_Walks_lengthen_85 : decode Y_Walks_lengthen.2.1 85 = .ok (.arraylength, 1) := by decide +kernel
theorem k_Walks_lengthen_86 : decode Y_Walks_lengthen.2.1 86 = .ok (.if_icmp .ge 30, 3) := by decide +kernel
theorem k_Walks_lengthen_89 : decode Y_Walks_lengthen.2.1 89 = .ok (.iload_n 2, 1) := by decide +kernel
theorem k_Walks_lengthen_90 : decode Y_Walks_lengthen.2.1 90 = .ok (.aload_n 0, 1) := by decide +kernel
theorem k_Walks_lengthen_91 : decode Y_Walks_lengthen.2.1 91 = .ok (.getfield 9, 3) := by decide +kernel
theorem k_Walks_lengthen_94 : decode Y_Walks_lengthen.2.1 94 = .ok (.arraylength, 1) := by decide +kernel
theorem k_Walks_lengthen_95 : decode Y_Walks_lengthen.2.1 95 = .ok (.if_icmp .ge 21, 3) := by decide +kernel
theorem k_Walks_lengthen_98 : decode Y_Walks_lengthen.2.1 98 = .ok (.aload_n 0, 1) := by decide +kernel
theorem k_Walks_lengthen_99 : decode Y_Walks_lengthen.2.1 99 = .ok (.getfield 9, 3) := by decide +kernel
theorem k_Walks_lengthen_102 : decode Y_Walks_lengthen.2.1 102 = .ok (.iload_n 2, 1) := by decide +kernel
theorem k_Walks_lengthen_103 : decode Y_Walks_lengthen.2.1 103 = .ok (.aload_n 0, 1) := by decide +kernel
theorem k_Walks_lengthen_104 : decode Y_Walks_lengthen.2.1 104 = .ok (.getfield 15, 3) := by decide +kernel
theorem k_Walks_lengthen_107 : decode Y_Walks_lengthen.2.1 107 = .ok (.iload_n 2, 1) := by decide +kernel
theorem k_Walks_lengthen_108 : decode Y_Walks_lengthen.2.1 108 = .ok (.laload, 1) := by decide +kernel
theorem k_Walks_lengthen_109 : decode Y_Walks_lengthen.2.1 109 = .ok (.lastore, 1) := by decide +kernel
theorem k_Walks_lengthen_110 : decode Y_Walks_lengthen.2.1 110 = .ok (.iinc 2 1, 3) := by decide +kernel
theorem k_Walks_lengthen_113 : decode Y_Walks_lengthen.2.1 113 = .ok (.goto (-33), 3) := by decide +kernel
theorem k_Walks_lengthen_116 : decode Y_Walks_lengthen.2.1 116 = .ok (.return_, 1) := by decide +kernel
theorem k_Main_init_0 : decode Y_Main_init.2.1 0 = .ok (.aload_n 0, 1) := by decide +kernel
theorem k_Main_init_1 : decode Y_Main_init.2.1 1 = .ok (.invokespecial 3, 3) := by decide +kernel
theorem k_Main_init_4 : decode Y_Main_init.2.1 4 = .ok (.aload_n 0, 1) := by decide +kernel
theorem k_Main_init_5 : decode Y_Main_init.2.1 5 = .ok (.new 9, 3) := by decide +kernel
theorem k_Main_init_8 : decode Y_Main_init.2.1 8 = .ok (.dup, 1) := by decide +kernel
theorem k_Main_init_9 : decode Y_Main_init.2.1 9 = .ok (.invokespecial 11, 3) := by decide +kernel
theorem k_Main_init_12 : decode Y_Main_init.2.1 12 = .ok (.putfield 12, 3) := by decide +kernel
theorem k_Main_init_15 : decode Y_Main_init.2.1 15 = .ok (.aload_n 0, 1) := by decide +kernel
theorem k_Main_init_16 : decode Y_Main_init.2.1 16 = .ok (.new 9, 3) := by decide +kernel
theorem k_Main_init_19 : decode Y_Main_init.2.1 19 = .ok (.dup, 1) := by decide +kernel
theorem k_Main_init_20 : decode Y_Main_init.2.1 20 = .ok (.invokespecial 11, 3) := by decide +kernel
theorem k_Main_init_23 : decode Y_Main_init.2.1 23 = .ok (.putfield 16, 3) := by decide +kernel
theorem k_Main_init_26 : decode Y_Main_init.2.1 26 = .ok (.aload_n 0, 1) := by decide +kernel
theorem k_Main_init_27 : decode Y_Main_init.2.1 27 = .ok (.iconst 0, 1) := by decide +kernel
theorem k_Main_init_28 : decode Y_Main_init.2.1 28 = .ok (.putfield 19, 3) := by decide +kernel
theorem k_Main_init_31 : decode Y_Main_init.2.1 31 = .ok (.aload_n 0, 1) := by decide +kernel
theorem k_Main_init_32 : decode Y_Main_init.2.1 32 = .ok (.new 23, 3) := by decide +kernel
theorem k_Main_init_35 : decode Y_Main_init.2.1 35 = .ok (.dup, 1) := by decide +kernel
theorem k_Main_init_36 : decode Y_Main_init.2.1 36 = .ok (.invokespecial 25, 3) := by decide +kernel
theorem k_Main_init_39 : decode Y_Main_init.2.1 39 = .ok (.putfield 26, 3) := by decide +kernel
theorem k_Main_init_42 : decode Y_Main_init.2.1 42 = .ok (.aload_n 0, 1) := by decide +kernel
theorem k_Main_init_43 : decode Y_Main_init.2.1 43 = .ok (.new 30, 3) := by decide +kernel
theorem k_Main_init_46 : decode Y_Main_init.2.1 46 = .ok (.dup, 1) := by decide +kernel
theorem k_Main_init_47 : decode Y_Main_init.2.1 47 = .ok (.invokespecial 32, 3) := by decide +kernel
theorem k_Main_init_50 : decode Y_Main_init.2.1 50 = .ok (.putfield 33, 3) := by decide +kernel
theorem k_Main_init_53 : decode Y_Main_init.2.1 53 = .ok (.aload_n 0, 1) := by decide +kernel
theorem k_Main_init_54 : decode Y_Main_init.2.1 54 = .ok (.new 37, 3) := by decide +kernel
theorem k_Main_init_57 : decode Y_Main_init.2.1 57 = .ok (.dup, 1) := by decide +kernel
theorem k_Main_init_58 : decode Y_Main_init.2.1 58 = .ok (.invokespecial 39, 3) := by decide +kernel
theorem k_Main_init_61 : decode Y_Main_init.2.1 61 = .ok (.putfield 40, 3) := by decide +kernel
theorem k_Main_init_64 : decode Y_Main_init.2.1 64 = .ok (.aload_n 0, 1) := by decide +kernel
theorem k_Main_init_65 : decode Y_Main_init.2.1 65 = .ok (.new 44, 3) := by decide +kernel
theorem k_Main_init_68 : decode Y_Main_init.2.1 68 = .ok (.dup, 1) := by decide +kernel
theorem k_Main_init_69 : decode Y_Main_init.2.1 69 = .ok (.bipush 12, 2) := by decide +kernel
theorem k_Main_init_71 : decode Y_Main_init.2.1 71 = .ok (.invokespecial 46, 3) := by decide +kernel
theorem k_Main_init_74 : decode Y_Main_init.2.1 74 = .ok (.putfield 49, 3) := by decide +kernel
theorem k_Main_init_77 : decode Y_Main_init.2.1 77 = .ok (.aload_n 0, 1) := by decide +kernel
theorem k_Main_init_78 : decode Y_Main_init.2.1 78 = .ok (.new 44, 3) := by decide +kernel
theorem k_Main_init_81 : decode Y_Main_init.2.1 81 = .ok (.dup, 1) := by decide +kernel
theorem k_Main_init_82 : decode Y_Main_init.2.1 82 = .ok (.bipush 6, 2) := by decide +kernel
theorem k_Main_init_84 : decode Y_Main_init.2.1 84 = .ok (.invokespecial 46, 3) := by decide +kernel
theorem k_Main_init_87 : decode Y_Main_init.2.1 87 = .ok (.putfield 53, 3) := by decide +kernel
theorem k_Main_init_90 : decode Y_Main_init.2.1 90 = .ok (.iconst 0, 1) := by decide +kernel
theorem k_Main_init_91 : decode Y_Main_init.2.1 91 = .ok (.istore_n 1, 1) := by decide +kernel
theorem k_Main_init_92 : decode Y_Main_init.2.1 92 = .ok (.iload_n 1, 1) := by decide +kernel
theorem k_Main_init_93 : decode Y_Main_init.2.1 93 = .ok (.bipush 6, 2) := by decide +kernel
theorem k_Main_init_95 : decode Y_Main_init.2.1 95 = .ok (.if_icmp .ge 17, 3) := by decide +kernel
theorem k_Main_init_98 : decode Y_Main_init.2.1 98 = .ok (.aload_n 0, 1) := by decide +kernel
theorem k_Main_init_99 : decode Y_Main_init.2.1 99 = .ok (.getfield 53, 3) := by decide +kernel
theorem k_Main_init_102 : decode Y_Main_init.2.1 102 = .ok (.iconst 0, 1) := by decide +kernel
theorem k_Main_init_103 : decode Y_Main_init.2.1 103 = .ok (.invokevirtual 56, 3) := by decide +kernel
theorem k_Main_init_106 : decode Y_Main_init.2.1 106 = .ok (.iinc 1 1, 3) := by decide +kernel
theorem k_Main_init_109 : decode Y_Main_init.2.1 109 = .ok (.goto (-17), 3) := by decide +kernel
theorem k_Main_init_112 : decode Y_Main_init.2.1 112 = .ok (.return_, 1) := by decide +kernel
theorem k_Main_letter_0 : decode Y_Main_letter.2.1 0 = .ok (.iload_n 1, 1) := by decide +kernel
theorem k_Main_letter_1 : decode Y_Main_letter.2.1 1 = .ok (.iconst 0, 1) := by decide +kernel
theorem k_Main_letter_2 : decode Y_Main_letter.2.1 2 = .ok (.sipush 255, 3) := by decide +kernel
theorem k_Main_letter_5 : decode Y_Main_letter.2.1 5 = .ok (.invokestatic 59, 3) := by decide +kernel
theorem k_Main_letter_8 : decode Y_Main_letter.2.1 8 = .ok (.istore_n 2, 1) := by decide +kernel
theorem k_Main_letter_9 : decode Y_Main_letter.2.1 9 = .ok (.iload_n 2, 1) := by decide +kernel
theorem k_Main_letter_10 : decode Y_Main_letter.2.1 10 = .ok (.ifCond .ne 18, 3) := by decide +kernel
theorem k_Main_letter_13 : decode Y_Main_letter.2.1 13 = .ok (.aload_n 0, 1) := by decide +kernel
theorem k_Main_letter_14 : decode Y_Main_letter.2.1 14 = .ok (.getfield 40, 3) := by decide +kernel
theorem k_Main_letter_17 : decode Y_Main_letter.2.1 17 = .ok (.invokevirtual 63, 3) := by decide +kernel
theorem k_Main_letter_20 : decode Y_Main_letter.2.1 20 = .ok (.bipush 80, 2) := by decide +kernel
theorem k_Main_letter_22 : decode Y_Main_letter.2.1 22 = .ok (.if_icmp .lt 6, 3) := by decide +kernel
theorem k_Main_letter_25 : decode Y_Main_letter.2.1 25 = .ok (.bipush (-6), 2) := by decide +kernel
theorem k_Main_letter_27 : decode Y_Main_letter.2.1 27 = .ok (.istore_n 2, 1) := by decide +kernel
theorem k_Main_letter_28 : decode Y_Main_letter.2.1 28 = .ok (.iload_n 2, 1) := by decide +kernel
theorem k_Main_letter_29 : decode Y_Main_letter.2.1 29 = .ok (.ifCond .eq 11, 3) := by decide +kernel
theorem k_Main_letter_32 : decode Y_Main_letter.2.1 32 = .ok (.aload_n 0, 1) := by decide +kernel
theorem k_Main_letter_33 : decode Y_Main_letter.2.1 33 = .ok (.iload_n 2, 1) := by decide +kernel
theorem k_Main_letter_34 : decode Y_Main_letter.2.1 34 = .ok (.invokevirtual 67, 3) := by decide +kernel
theorem k_Main_letter_37 : decode Y_Main_letter.2.1 37 = .ok (.goto 11, 3) := by decide +kernel
theorem k_Main_letter_40 : decode Y_Main_letter.2.1 40 = .ok (.aload_n 0, 1) := by decide +kernel
theorem k_Main_letter_41 : decode Y_Main_letter.2.1 41 = .ok (.getfield 40, 3) := by decide +kernel
theorem k_Main_letter_44 : decode Y_Main_letter.2.1 44 = .ok (.iload_n 1, 1) := by decide +kernel
theorem k_Main_letter_45 : decode Y_Main_letter.2.1 45 = .ok (.invokevirtual 71, 3) := by decide +kernel
theorem k_Main_letter_48 : decode Y_Main_letter.2.1 48 = .ok (.ireturn, 1) := by decide +kernel
theorem k_Main_canon_0 : decode Y_Main_canon.2.1 0 = .ok (.aload_n 0, 1) := by decide +kernel
theorem k_Main_canon_1 : decode Y_Main_canon.2.1 1 = .ok (.getfield 40, 3) := by decide +kernel
theorem k_Main_canon_4 : decode Y_Main_canon.2.1 4 = .ok (.invokevirtual 73, 3) := by decide +kernel
theorem k_Main_canon_7 : decode Y_Main_canon.2.1 7 = .ok (.istore_n 1, 1) := by decide +kernel
theorem k_Main_canon_8 : decode Y_Main_canon.2.1 8 = .ok (.iload_n 1, 1) := by decide +kernel
theorem k_Main_canon_9 : decode Y_Main_canon.2.1 9 = .ok (.ifCond .ne 36, 3) := by decide +kernel
theorem k_Main_canon_12 : decode Y_Main_canon.2.1 12 = .ok (.aload_n 0, 1) := by decide +kernel
theorem k_Main_canon_13 : decode Y_Main_canon.2.1 13 = .ok (.getfield 26, 3) := by decide +kernel
theorem k_Main_canon_16 : decode Y_Main_canon.2.1 16 = .ok (.aload_n 0, 1) := by decide +kernel
theorem k_Main_canon_17 : decode Y_Main_canon.2.1 17 = .ok (.getfield 12, 3) := by decide +kernel
theorem k_Main_canon_20 : decode Y_Main_canon.2.1 20 = .ok (.invokevirtual 76, 3) := by decide +kernel
theorem k_Main_canon_23 : decode Y_Main_canon.2.1 23 = .ok (.astore_n 2, 1) := by decide +kernel
theorem k_Main_canon_24 : decode Y_Main_canon.2.1 24 = .ok (.aload_n 0, 1) := by decide +kernel
theorem k_Main_canon_25 : decode Y_Main_canon.2.1 25 = .ok (.getfield 40, 3) := by decide +kernel
theorem k_Main_canon_28 : decode Y_Main_canon.2.1 28 = .ok (.aload_n 2, 1) := by decide +kernel
theorem k_Main_canon_29 : decode Y_Main_canon.2.1 29 = .ok (.invokevirtual 80, 3) := by decide +kernel
theorem k_Main_canon_32 : decode Y_Main_canon.2.1 32 = .ok (.istore_n 1, 1) := by decide +kernel
theorem k_Main_canon_33 : decode Y_Main_canon.2.1 33 = .ok (.iload_n 1, 1) := by decide +kernel
theorem k_Main_canon_34 : decode Y_Main_canon.2.1 34 = .ok (.ifCond .le 11, 3) := by decide +kernel
theorem k_Main_canon_37 : decode Y_Main_canon.2.1 37 = .ok (.aload_n 0, 1) := by decide +kernel
theorem k_Main_canon_38 : decode Y_Main_canon.2.1 38 = .ok (.getfield 12, 3) := by decide +kernel
theorem k_Main_canon_41 : decode Y_Main_canon.2.1 41 = .ok (.aload_n 2, 1) := by decide +kernel
theorem k_Main_canon_42 : decode Y_Main_canon.2.1 42 = .ok (.invokevirtual 84, 3) := by decide +kernel
theorem k_Main_canon_45 : decode Y_Main_canon.2.1 45 = .ok (.aload_n 0, 1) := by decide +kernel
theorem k_Main_canon_46 : decode Y_Main_canon.2.1 46 = .ok (.getfield 40, 3) := by decide +kernel
theorem k_Main_canon_49 : decode Y_Main_canon.2.1 49 = .ok (.invokevirtual 88, 3) := by decide +kernel
theorem k_Main_canon_52 : decode Y_Main_canon.2.1 52 = .ok (.iload_n 1, 1) := by decide +kernel
theorem k_Main_canon_53 : decode Y_Main_canon.2.1 53 = .ok (.ireturn, 1) := by decide +kernel
theorem k_Main_note_0 : decode Y_Main_note.2.1 0 = .ok (.aload_n 0, 1) := by decide +kernel
theorem k_Main_note_1 : decode Y_Main_note.2.1 1 = .ok (.getfield 12, 3) := by decide +kernel
theorem k_Main_note_4 : decode Y_Main_note.2.1 4 = .ok (.getfield 91, 3) := by decide +kernel
theorem k_Main_note_7 : decode Y_Main_note.2.1 7 = .ok (.iload_n 1, 1) := by decide +kernel
theorem k_Main_note_8 : decode Y_Main_note.2.1 8 = .ok (.invokevirtual 95, 3) := by decide +kernel
theorem k_Main_note_11 : decode Y_Main_note.2.1 11 = .ok (.ifCond .ne 9, 3) := by decide +kernel
theorem k_Main_note_14 : decode Y_Main_note.2.1 14 = .ok (.aload_n 0, 1) := by decide +kernel
theorem k_Main_note_15 : decode Y_Main_note.2.1 15 = .ok (.iconst (-1), 1) := by decide +kernel
theorem k_Main_note_16 : decode Y_Main_note.2.1 16 = .ok (.invokevirtual 67, 3) := by decide +kernel
theorem k_Main_note_19 : decode Y_Main_note.2.1 19 = .ok (.ireturn, 1) := by decide +kernel
theorem k_Main_note_20 : decode Y_Main_note.2.1 20 = .ok (.iload_n 2, 1) := by decide +kernel
theorem k_Main_note_21 : decode Y_Main_note.2.1 21 = .ok (.tableswitch 63 0 2 #[27, 39, 51], 27) := by decide +kernel
theorem k_Main_note_48 : decode Y_Main_note.2.1 48 = .ok (.aload_n 0, 1) := by decide +kernel
theorem k_Main_note_49 : decode Y_Main_note.2.1 49 = .ok (.getfield 12, 3) := by decide +kernel
theorem k_Main_note_52 : decode Y_Main_note.2.1 52 = .ok (.getfield 91, 3) := by decide +kernel
theorem k_Main_note_55 : decode Y_Main_note.2.1 55 = .ok (.iload_n 1, 1) := by decide +kernel
theorem k_Main_note_56 : decode Y_Main_note.2.1 56 = .ok (.invokevirtual 101, 3) := by decide +kernel
theorem k_Main_note_59 : decode Y_Main_note.2.1 59 = .ok (.ireturn, 1) := by decide +kernel
theorem k_Main_note_60 : decode Y_Main_note.2.1 60 = .ok (.aload_n 0, 1) := by decide +kernel
theorem k_Main_note_61 : decode Y_Main_note.2.1 61 = .ok (.getfield 12, 3) := by decide +kernel
theorem k_Main_note_64 : decode Y_Main_note.2.1 64 = .ok (.getfield 91, 3) := by decide +kernel
theorem k_Main_note_67 : decode Y_Main_note.2.1 67 = .ok (.iload_n 1, 1) := by decide +kernel
theorem k_Main_note_68 : decode Y_Main_note.2.1 68 = .ok (.invokevirtual 104, 3) := by decide +kernel
theorem k_Main_note_71 : decode Y_Main_note.2.1 71 = .ok (.ireturn, 1) := by decide +kernel
theorem k_Main_note_72 : decode Y_Main_note.2.1 72 = .ok (.aload_n 0, 1) := by decide +kernel
theorem k_Main_note_73 : decode Y_Main_note.2.1 73 = .ok (.getfield 12, 3) := by decide +kernel
theorem k_Main_note_76 : decode Y_Main_note.2.1 76 = .ok (.getfield 91, 3) := by decide +kernel
theorem k_Main_note_79 : decode Y_Main_note.2.1 79 = .ok (.iload_n 1, 1) := by decide +kernel
theorem k_Main_note_80 : decode Y_Main_note.2.1 80 = .ok (.invokevirtual 107, 3) := by decide +kernel
theorem k_Main_note_83 : decode Y_Main_note.2.1 83 = .ok (.ireturn, 1) := by decide +kernel
theorem k_Main_note_84 : decode Y_Main_note.2.1 84 = .ok (.aload_n 0, 1) := by decide +kernel
theorem k_Main_note_85 : decode Y_Main_note.2.1 85 = .ok (.bipush (-2), 2) := by decide +kernel
theorem k_Main_note_87 : decode Y_Main_note.2.1 87 = .ok (.invokevirtual 67, 3) := by decide +kernel
theorem k_Main_note_90 : decode Y_Main_note.2.1 90 = .ok (.ireturn, 1) := by decide +kernel
theorem k_Main_voice_0 : decode Y_Main_voice.2.1 0 = .ok (.aload_n 0, 1) := by decide +kernel
theorem k_Main_voice_1 : decode Y_Main_voice.2.1 1 = .ok (.getfield 12, 3) := by decide +kernel
theorem k_Main_voice_4 : decode Y_Main_voice.2.1 4 = .ok (.iload_n 1, 1) := by decide +kernel
theorem k_Main_voice_5 : decode Y_Main_voice.2.1 5 = .ok (.invokevirtual 110, 3) := by decide +kernel
theorem k_Main_voice_8 : decode Y_Main_voice.2.1 8 = .ok (.ifCond .ne 9, 3) := by decide +kernel
theorem k_Main_voice_11 : decode Y_Main_voice.2.1 11 = .ok (.aload_n 0, 1) := by decide +kernel
theorem k_Main_voice_12 : decode Y_Main_voice.2.1 12 = .ok (.iconst (-1), 1) := by decide +kernel
theorem k_Main_voice_13 : decode Y_Main_voice.2.1 13 = .ok (.invokevirtual 67, 3) := by decide +kernel
theorem k_Main_voice_16 : decode Y_Main_voice.2.1 16 = .ok (.ireturn, 1) := by decide +kernel
theorem k_Main_voice_17 : decode Y_Main_voice.2.1 17 = .ok (.iload_n 2, 1) := by decide +kernel
theorem k_Main_voice_18 : decode Y_Main_voice.2.1 18 = .ok (.tableswitch 79 0 4 #[34, 43, 52, 61, 70], 34) := by decide +kernel
theorem k_Main_voice_52 : decode Y_Main_voice.2.1 52 = .ok (.aload_n 0, 1) := by decide +kernel
theorem k_Main_voice_53 : decode Y_Main_voice.2.1 53 = .ok (.getfield 12, 3) := by decide +kernel
theorem k_Main_voice_56 : decode Y_Main_voice.2.1 56 = .ok (.iload_n 1, 1) := by decide +kernel
theorem k_Main_voice_57 : decode Y_Main_voice.2.1 57 = .ok (.invokevirtual 113, 3) := by decide +kernel
theorem k_Main_voice_60 : decode Y_Main_voice.2.1 60 = .ok (.ireturn, 1) := by decide +kernel
theorem k_Main_voice_61 : decode Y_Main_voice.2.1 61 = .ok (.aload_n 0, 1) := by decide +kernel
theorem k_Main_voice_62 : decode Y_Main_voice.2.1 62 = .ok (.getfield 12, 3) := by decide +kernel
theorem k_Main_voice_65 : decode Y_Main_voice.2.1 65 = .ok (.iload_n 1, 1) := by decide +kernel
theorem k_Main_voice_66 : decode Y_Main_voice.2.1 66 = .ok (.invokevirtual 116, 3) := by decide +kernel
theorem k_Main_voice_69 : decode Y_Main_voice.2.1 69 = .ok (.ireturn, 1) := by decide +kernel
theorem k_Main_voice_70 : decode Y_Main_voice.2.1 70 = .ok (.aload_n 0, 1) := by decide +kernel
theorem k_Main_voice_71 : decode Y_Main_voice.2.1 71 = .ok (.getfield 12, 3) := by decide +kernel
theorem k_Main_voice_74 : decode Y_Main_voice.2.1 74 = .ok (.iload_n 1, 1) := by decide +kernel
theorem k_Main_voice_75 : decode Y_Main_voice.2.1 75 = .ok (.invokevirtual 119, 3) := by decide +kernel
theorem k_Main_voice_78 : decode Y_Main_voice.2.1 78 = .ok (.ireturn, 1) := by decide +kernel
theorem k_Main_voice_79 : decode Y_Main_voice.2.1 79 = .ok (.aload_n 0, 1) := by decide +kernel
theorem k_Main_voice_80 : decode Y_Main_voice.2.1 80 = .ok (.getfield 12, 3) := by decide +kernel
theorem k_Main_voice_83 : decode Y_Main_voice.2.1 83 = .ok (.iload_n 1, 1) := by decide +kernel
theorem k_Main_voice_84 : decode Y_Main_voice.2.1 84 = .ok (.invokevirtual 122, 3) := by decide +kernel
theorem k_Main_voice_87 : decode Y_Main_voice.2.1 87 = .ok (.ireturn, 1) := by decide +kernel
theorem k_Main_voice_88 : decode Y_Main_voice.2.1 88 = .ok (.aload_n 0, 1) := by decide +kernel
theorem k_Main_voice_89 : decode Y_Main_voice.2.1 89 = .ok (.getfield 12, 3) := by decide +kernel
theorem k_Main_voice_92 : decode Y_Main_voice.2.1 92 = .ok (.iload_n 1, 1) := by decide +kernel
theorem k_Main_voice_93 : decode Y_Main_voice.2.1 93 = .ok (.invokevirtual 125, 3) := by decide +kernel
theorem k_Main_voice_96 : decode Y_Main_voice.2.1 96 = .ok (.ireturn, 1) := by decide +kernel
theorem k_Main_voice_97 : decode Y_Main_voice.2.1 97 = .ok (.aload_n 0, 1) := by decide +kernel
theorem k_Main_voice_98 : decode Y_Main_voice.2.1 98 = .ok (.bipush (-2), 2) := by decide +kernel
theorem k_Main_voice_100 : decode Y_Main_voice.2.1 100 = .ok (.invokevirtual 67, 3) := by decide +kernel
theorem k_Main_voice_103 : decode Y_Main_voice.2.1 103 = .ok (.ireturn, 1) := by decide +kernel
theorem k_Main_pitch_0 : decode Y_Main_pitch.2.1 0 = .ok (.aload_n 0, 1) := by decide +kernel
theorem k_Main_pitch_1 : decode Y_Main_pitch.2.1 1 = .ok (.getfield 12, 3) := by decide +kernel
theorem k_Main_pitch_4 : decode Y_Main_pitch.2.1 4 = .ok (.getfield 91, 3) := by decide +kernel
theorem k_Main_pitch_7 : decode Y_Main_pitch.2.1 7 = .ok (.iload_n 1, 1) := by decide +kernel
theorem k_Main_pitch_8 : decode Y_Main_pitch.2.1 8 = .ok (.invokevirtual 95, 3) := by decide +kernel
theorem k_Main_pitch_11 : decode Y_Main_pitch.2.1 11 = .ok (.ifCond .eq 13, 3) := by decide +kernel
theorem k_Main_pitch_14 : decode Y_Main_pitch.2.1 14 = .ok (.iload_n 2, 1) := by decide +kernel
theorem k_Main_pitch_15 : decode Y_Main_pitch.2.1 15 = .ok (.iconst 0, 1) := by decide +kernel
theorem k_Main_pitch_16 : decode Y_Main_pitch.2.1 16 = .ok (.bipush 9, 2) := by decide +kernel
theorem k_Main_pitch_18 : decode Y_Main_pitch.2.1 18 = .ok (.invokestatic 59, 3) := by decide +kernel
theorem k_Main_pitch_21 : decode Y_Main_pitch.2.1 21 = .ok (.goto 4, 3) := by decide +kernel
theorem k_Main_pitch_24 : decode Y_Main_pitch.2.1 24 = .ok (.iconst (-1), 1) := by decide +kernel
theorem k_Main_pitch_25 : decode Y_Main_pitch.2.1 25 = .ok (.istore_n 3, 1) := by decide +kernel
theorem k_Main_pitch_26 : decode Y_Main_pitch.2.1 26 = .ok (.iload_n 3, 1) := by decide +kernel
theorem k_Main_pitch_27 : decode Y_Main_pitch.2.1 27 = .ok (.ifCond .eq 9, 3) := by decide +kernel
theorem k_Main_pitch_30 : decode Y_Main_pitch.2.1 30 = .ok (.aload_n 0, 1) := by decide +kernel
theorem k_Main_pitch_31 : decode Y_Main_pitch.2.1 31 = .ok (.iload_n 3, 1) := by decide +kernel
theorem k_Main_pitch_32 : decode Y_Main_pitch.2.1 32 = .ok (.invokevirtual 67, 3) := by decide +kernel
theorem k_Main_pitch_35 : decode Y_Main_pitch.2.1 35 = .ok (.ireturn, 1) := by decide +kernel
theorem k_Main_pitch_36 : decode Y_Main_pitch.2.1 36 = .ok (.aload_n 0, 1) := by decide +kernel
theorem k_Main_pitch_37 : decode Y_Main_pitch.2.1 37 = .ok (.getfield 12, 3) := by decide +kernel
theorem k_Main_pitch_40 : decode Y_Main_pitch.2.1 40 = .ok (.getfield 91, 3) := by decide +kernel
theorem k_Main_pitch_43 : decode Y_Main_pitch.2.1 43 = .ok (.iload_n 1, 1) := by decide +kernel
theorem k_Main_pitch_44 : decode Y_Main_pitch.2.1 44 = .ok (.invokevirtual 101, 3) := by decide +kernel
theorem k_Main_pitch_47 : decode Y_Main_pitch.2.1 47 = .ok (.istore 4, 2) := by decide +kernel
theorem k_Main_pitch_49 : decode Y_Main_pitch.2.1 49 = .ok (.aload_n 0, 1) := by decide +kernel
theorem k_Main_pitch_50 : decode Y_Main_pitch.2.1 50 = .ok (.getfield 12, 3) := by decide +kernel
theorem k_Main_pitch_53 : decode Y_Main_pitch.2.1 53 = .ok (.getfield 91, 3) := by decide +kernel
theorem k_Main_pitch_56 : decode Y_Main_pitch.2.1 56 = .ok (.iload_n 1, 1) := by decide +kernel
theorem k_Main_pitch_57 : decode Y_Main_pitch.2.1 57 = .ok (.iload_n 2, 1) := by decide +kernel
theorem k_Main_pitch_58 : decode Y_Main_pitch.2.1 58 = .ok (.invokevirtual 128, 3) := by decide +kernel
theorem k_Main_pitch_61 : decode Y_Main_pitch.2.1 61 = .ok (.iload 4, 2) := by decide +kernel
theorem k_Main_pitch_63 : decode Y_Main_pitch.2.1 63 = .ok (.ireturn, 1) := by decide +kernel
theorem k_Main_enter_0 : decode Y_Main_enter.2.1 0 = .ok (.aload_n 0, 1) := by decide +kernel
theorem k_Main_enter_1 : decode Y_Main_enter.2.1 1 = .ok (.getfield 12, 3) := by decide +kernel
theorem k_Main_enter_4 : decode Y_Main_enter.2.1 4 = .ok (.iload_n 1, 1) := by decide +kernel
theorem k_Main_enter_5 : decode Y_Main_enter.2.1 5 = .ok (.invokevirtual 110, 3) := by decide +kernel
theorem k_Main_enter_8 : decode Y_Main_enter.2.1 8 = .ok (.ifCond .eq 13, 3) := by decide +kernel
theorem k_Main_enter_11 : decode Y_Main_enter.2.1 11 = .ok (.iload_n 2, 1) := by decide +kernel
theorem k_Main_enter_12 : decode Y_Main_enter.2.1 12 = .ok (.iconst 0, 1) := by decide +kernel
theorem k_Main_enter_13 : decode Y_Main_enter.2.1 13 = .ok (.bipush 60, 2) := by decide +kernel
theorem k_Main_enter_15 : decode Y_Main_enter.2.1 15 = .ok (.invokestatic 59, 3) := by decide +kernel
theorem k_Main_enter_18 : decode Y_Main_enter.2.1 18 = .ok (.goto 4, 3) := by decide +kernel
theorem k_Main_enter_21 : decode Y_Main_enter.2.1 21 = .ok (.iconst (-1), 1) := by decide +kernel
theorem k_Main_enter_22 : decode Y_Main_enter.2.1 22 = .ok (.istore_n 3, 1) := by decide +kernel
theorem k_Main_enter_23 : decode Y_Main_enter.2.1 23 = .ok (.iload_n 3, 1) := by decide +kernel
theorem k_Main_enter_24 : decode Y_Main_enter.2.1 24 = .ok (.ifCond .eq 9, 3) := by decide +kernel
theorem k_Main_enter_27 : decode Y_Main_enter.2.1 27 = .ok (.aload_n 0, 1) := by decide +kernel
theorem k_Main_enter_28 : decode Y_Main_enter.2.1 28 = .ok (.iload_n 3, 1) := by decide +kernel
theorem k_Main_enter_29 : decode Y_Main_enter.2.1 29 = .ok (.invokevirtual 67, 3) := by decide +kernel
theorem k_Main_enter_32 : decode Y_Main_enter.2.1 32 = .ok (.ireturn, 1) := by decide +kernel
theorem k_Main_enter_33 : decode Y_Main_enter.2.1 33 = .ok (.aload_n 0, 1) := by decide +kernel
theorem k_Main_enter_34 : decode Y_Main_enter.2.1 34 = .ok (.getfield 12, 3) := by decide +kernel
theorem k_Main_enter_37 : decode Y_Main_enter.2.1 37 = .ok (.iload_n 1, 1) := by decide +kernel
theorem k_Main_enter_38 : decode Y_Main_enter.2.1 38 = .ok (.invokevirtual 116, 3) := by decide +kernel
theorem k_Main_enter_41 : decode Y_Main_enter.2.1 41 = .ok (.istore 4, 2) := by decide +kernel
theorem k_Main_enter_43 : decode Y_Main_enter.2.1 43 = .ok (.aload_n 0, 1) := by decide +kernel
theorem k_Main_enter_44 : decode Y_Main_enter.2.1 44 = .ok (.getfield 12, 3) := by decide +kernel
theorem k_Main_enter_47 : decode Y_Main_enter.2.1 47 = .ok (.iload_n 1, 1) := by decide +kernel
theorem k_Main_enter_48 : decode Y_Main_enter.2.1 48 = .ok (.iload_n 2, 1) := by decide +kernel
theorem k_Main_enter_49 : decode Y_Main_enter.2.1 49 = .ok (.invokevirtual 132, 3) := by decide +kernel
theorem k_Main_enter_52 : decode Y_Main_enter.2.1 52 = .ok (.iload 4, 2) := by decide +kernel
theorem k_Main_enter_54 : decode Y_Main_enter.2.1 54 = .ok (.ireturn, 1) := by decide +kernel
theorem k_Main_rounds_0 : decode Y_Main_rounds.2.1 0 = .ok (.iload_n 1, 1) := by decide +kernel
theorem k_Main_rounds_1 : decode Y_Main_rounds.2.1 1 = .ok (.iconst 1, 1) := by decide +kernel
theorem k_Main_rounds_2 : decode Y_Main_rounds.2.1 2 = .ok (.iconst 4, 1) := by decide +kernel
theorem k_Main_rounds_3 : decode Y_Main_rounds.2.1 3 = .ok (.invokestatic 59, 3) := by decide +kernel
theorem k_Main_rounds_6 : decode Y_Main_rounds.2.1 6 = .ok (.istore_n 2, 1) := by decide +kernel
theorem k_Main_rounds_7 : decode Y_Main_rounds.2.1 7 = .ok (.iload_n 2, 1) := by decide +kernel
theorem k_Main_rounds_8 : decode Y_Main_rounds.2.1 8 = .ok (.ifCond .eq 9, 3) := by decide +kernel
theorem k_Main_rounds_11 : decode Y_Main_rounds.2.1 11 = .ok (.aload_n 0, 1) := by decide +kernel
theorem k_Main_rounds_12 : decode Y_Main_rounds.2.1 12 = .ok (.iload_n 2, 1) := by decide +kernel
theorem k_Main_rounds_13 : decode Y_Main_rounds.2.1 13 = .ok (.invokevirtual 67, 3) := by decide +kernel
theorem k_Main_rounds_16 : decode Y_Main_rounds.2.1 16 = .ok (.ireturn, 1) := by decide +kernel
theorem k_Main_rounds_17 : decode Y_Main_rounds.2.1 17 = .ok (.aload_n 0, 1) := by decide +kernel
theorem k_Main_rounds_18 : decode Y_Main_rounds.2.1 18 = .ok (.getfield 12, 3) := by decide +kernel
theorem k_Main_rounds_21 : decode Y_Main_rounds.2.1 21 = .ok (.getfield 135, 3) := by decide +kernel
theorem k_Main_rounds_24 : decode Y_Main_rounds.2.1 24 = .ok (.istore_n 3, 1) := by decide +kernel
theorem k_Main_rounds_25 : decode Y_Main_rounds.2.1 25 = .ok (.aload_n 0, 1) := by decide +kernel
theorem k_Main_rounds_26 : decode Y_Main_rounds.2.1 26 = .ok (.getfield 12, 3) := by decide +kernel
theorem k_Main_rounds_29 : decode Y_Main_rounds.2.1 29 = .ok (.iload_n 1, 1) := by decide +kernel
theorem k_Main_rounds_30 : decode Y_Main_rounds.2.1 30 = .ok (.putfield 135, 3) := by decide +kernel
theorem k_Main_rounds_33 : decode Y_Main_rounds.2.1 33 = .ok (.iload_n 3, 1) := by decide +kernel
theorem k_Main_rounds_34 : decode Y_Main_rounds.2.1 34 = .ok (.ireturn, 1) := by decide +kernel
theorem k_Main_step_0 : decode Y_Main_step.2.1 0 = .ok (.iload_n 1, 1) := by decide +kernel
theorem k_Main_step_1 : decode Y_Main_step.2.1 1 = .ok (.iconst 0, 1) := by decide +kernel
theorem k_Main_step_2 : decode Y_Main_step.2.1 2 = .ok (.iconst 2, 1) := by decide +kernel
theorem k_Main_step_3 : decode Y_Main_step.2.1 3 = .ok (.invokestatic 59, 3) := by decide +kernel
theorem k_Main_step_6 : decode Y_Main_step.2.1 6 = .ok (.istore_n 2, 1) := by decide +kernel
theorem k_Main_step_7 : decode Y_Main_step.2.1 7 = .ok (.iload_n 2, 1) := by decide +kernel
theorem k_Main_step_8 : decode Y_Main_step.2.1 8 = .ok (.ifCond .eq 9, 3) := by decide +kernel
theorem k_Main_step_11 : decode Y_Main_step.2.1 11 = .ok (.aload_n 0, 1) := by decide +kernel
theorem k_Main_step_12 : decode Y_Main_step.2.1 12 = .ok (.iload_n 2, 1) := by decide +kernel
theorem k_Main_step_13 : decode Y_Main_step.2.1 13 = .ok (.invokevirtual 67, 3) := by decide +kernel
theorem k_Main_step_16 : decode Y_Main_step.2.1 16 = .ok (.ireturn, 1) := by decide +kernel
theorem k_Main_step_17 : decode Y_Main_step.2.1 17 = .ok (.aload_n 0, 1) := by decide +kernel
theorem k_Main_step_18 : decode Y_Main_step.2.1 18 = .ok (.getfield 12, 3) := by decide +kernel
theorem k_Main_step_21 : decode Y_Main_step.2.1 21 = .ok (.getfield 139, 3) := by decide +kernel
theorem k_Main_step_24 : decode Y_Main_step.2.1 24 = .ok (.istore_n 3, 1) := by decide +kernel
theorem k_Main_step_25 : decode Y_Main_step.2.1 25 = .ok (.aload_n 0, 1) := by decide +kernel
theorem k_Main_step_26 : decode Y_Main_step.2.1 26 = .ok (.getfield 12, 3) := by decide +kernel
theorem k_Main_step_29 : decode Y_Main_step.2.1 29 = .ok (.iload_n 1, 1) := by decide +kernel
theorem k_Main_step_30 : decode Y_Main_step.2.1 30 = .ok (.putfield 139, 3) := by decide +kernel
theorem k_Main_step_33 : decode Y_Main_step.2.1 33 = .ok (.iload_n 3, 1) := by decide +kernel
theorem k_Main_step_34 : decode Y_Main_step.2.1 34 = .ok (.ireturn, 1) := by decide +kernel
theorem k_Main_law_0 : decode Y_Main_law.2.1 0 = .ok (.iload_n 1, 1) := by decide +kernel
theorem k_Main_law_1 : decode Y_Main_law.2.1 1 = .ok (.iconst 0, 1) := by decide +kernel
theorem k_Main_law_2 : decode Y_Main_law.2.1 2 = .ok (.bipush 127, 2) := by decide +kernel
theorem k_Main_law_4 : decode Y_Main_law.2.1 4 = .ok (.invokestatic 59, 3) := by decide +kernel
theorem k_Main_law_7 : decode Y_Main_law.2.1 7 = .ok (.istore_n 2, 1) := by decide +kernel
theorem k_Main_law_8 : decode Y_Main_law.2.1 8 = .ok (.iload_n 2, 1) := by decide +kernel
theorem k_Main_law_9 : decode Y_Main_law.2.1 9 = .ok (.ifCond .eq 9, 3) := by decide +kernel
theorem k_Main_law_12 : decode Y_Main_law.2.1 12 = .ok (.aload_n 0, 1) := by decide +kernel
theorem k_Main_law_13 : decode Y_Main_law.2.1 13 = .ok (.iload_n 2, 1) := by decide +kernel
theorem k_Main_law_14 : decode Y_Main_law.2.1 14 = .ok (.invokevirtual 67, 3) := by decide +kernel
theorem k_Main_law_17 : decode Y_Main_law.2.1 17 = .ok (.ireturn, 1) := by decide +kernel
theorem k_Main_law_18 : decode Y_Main_law.2.1 18 = .ok (.aload_n 0, 1) := by decide +kernel
theorem k_Main_law_19 : decode Y_Main_law.2.1 19 = .ok (.getfield 12, 3) := by decide +kernel
theorem k_Main_law_22 : decode Y_Main_law.2.1 22 = .ok (.getfield 142, 3) := by decide +kernel
theorem k_Main_law_25 : decode Y_Main_law.2.1 25 = .ok (.istore_n 3, 1) := by decide +kernel
theorem k_Main_law_26 : decode Y_Main_law.2.1 26 = .ok (.aload_n 0, 1) := by decide +kernel
theorem k_Main_law_27 : decode Y_Main_law.2.1 27 = .ok (.getfield 12, 3) := by decide +kernel
theorem k_Main_law_30 : decode Y_Main_law.2.1 30 = .ok (.iload_n 1, 1) := by decide +kernel
theorem k_Main_law_31 : decode Y_Main_law.2.1 31 = .ok (.putfield 142, 3) := by decide +kernel
theorem k_Main_law_34 : decode Y_Main_law.2.1 34 = .ok (.iload_n 3, 1) := by decide +kernel
theorem k_Main_law_35 : decode Y_Main_law.2.1 35 = .ok (.ireturn, 1) := by decide +kernel
theorem k_Main_sound_0 : decode Y_Main_sound.2.1 0 = .ok (.aload_n 0, 1) := by decide +kernel
theorem k_Main_sound_1 : decode Y_Main_sound.2.1 1 = .ok (.getfield 12, 3) := by decide +kernel
theorem k_Main_sound_4 : decode Y_Main_sound.2.1 4 = .ok (.iload_n 1, 1) := by decide +kernel
theorem k_Main_sound_5 : decode Y_Main_sound.2.1 5 = .ok (.invokevirtual 110, 3) := by decide +kernel
theorem k_Main_sound_8 : decode Y_Main_sound.2.1 8 = .ok (.ifCond .eq 14, 3) := by decide +kernel
theorem k_Main_sound_11 : decode Y_Main_sound.2.1 11 = .ok (.iload_n 2, 1) := by decide +kernel
theorem k_Main_sound_12 : decode Y_Main_sound.2.1 12 = .ok (.iconst 0, 1) := by decide +kernel
theorem k_Main_sound_13 : decode Y_Main_sound.2.1 13 = .ok (.sipush 400, 3) := by decide +kernel
theorem k_Main_sound_16 : decode Y_Main_sound.2.1 16 = .ok (.invokestatic 59, 3) := by decide +kernel
theorem k_Main_sound_19 : decode Y_Main_sound.2.1 19 = .ok (.goto 4, 3) := by decide +kernel
theorem k_Main_sound_22 : decode Y_Main_sound.2.1 22 = .ok (.iconst (-1), 1) := by decide +kernel
theorem k_Main_sound_23 : decode Y_Main_sound.2.1 23 = .ok (.istore_n 3, 1) := by decide +kernel
theorem k_Main_sound_24 : decode Y_Main_sound.2.1 24 = .ok (.iload_n 3, 1) := by decide +kernel
theorem k_Main_sound_25 : decode Y_Main_sound.2.1 25 = .ok (.ifCond .eq 14, 3) := by decide +kernel
theorem k_Main_sound_28 : decode Y_Main_sound.2.1 28 = .ok (.ldc 145, 2) := by decide +kernel
theorem k_Main_sound_30 : decode Y_Main_sound.2.1 30 = .ok (.aload_n 0, 1) := by decide +kernel
theorem k_Main_sound_31 : decode Y_Main_sound.2.1 31 = .ok (.iload_n 3, 1) := by decide +kernel
theorem k_Main_sound_32 : decode Y_Main_sound.2.1 32 = .ok (.invokevirtual 67, 3) := by decide +kernel
theorem k_Main_sound_35 : decode Y_Main_sound.2.1 35 = .ok (.isub, 1) := by decide +kernel
theorem k_Main_sound_36 : decode Y_Main_sound.2.1 36 = .ok (.goto 12, 3) := by decide +kernel
theorem k_Main_sound_39 : decode Y_Main_sound.2.1 39 = .ok (.aload_n 0, 1) := by decide +kernel
theorem k_Main_sound_40 : decode Y_Main_sound.2.1 40 = .ok (.getfield 12, 3) := by decide +kernel
theorem k_Main_sound_43 : decode Y_Main_sound.2.1 43 = .ok (.iload_n 1, 1) := by decide +kernel
theorem k_Main_sound_44 : decode Y_Main_sound.2.1 44 = .ok (.iload_n 2, 1) := by decide +kernel
theorem k_Main_sound_45 : decode Y_Main_sound.2.1 45 = .ok (.invokevirtual 146, 3) := by decide +kernel
theorem k_Main_sound_48 : decode Y_Main_sound.2.1 48 = .ok (.ireturn, 1) := by decide +kernel
theorem k_Main_ill_0 : decode Y_Main_ill.2.1 0 = .ok (.iload_n 1, 1) := by decide +kernel
theorem k_Main_ill_1 : decode Y_Main_ill.2.1 1 = .ok (.iconst 0, 1) := by decide +kernel
theorem k_Main_ill_2 : decode Y_Main_ill.2.1 2 = .ok (.sipush 400, 3) := by decide +kernel
theorem k_Main_ill_5 : decode Y_Main_ill.2.1 5 = .ok (.invokestatic 59, 3) := by decide +kernel
theorem k_Main_ill_8 : decode Y_Main_ill.2.1 8 = .ok (.istore_n 2, 1) := by decide +kernel
theorem k_Main_ill_9 : decode Y_Main_ill.2.1 9 = .ok (.iload_n 2, 1) := by decide +kernel
theorem k_Main_ill_10 : decode Y_Main_ill.2.1 10 = .ok (.ifCond .eq 11, 3) := by decide +kernel
theorem k_Main_ill_13 : decode Y_Main_ill.2.1 13 = .ok (.aload_n 0, 1) := by decide +kernel
theorem k_Main_ill_14 : decode Y_Main_ill.2.1 14 = .ok (.iload_n 2, 1) := by decide +kernel
theorem k_Main_ill_15 : decode Y_Main_ill.2.1 15 = .ok (.invokevirtual 67, 3) := by decide +kernel
theorem k_Main_ill_18 : decode Y_Main_ill.2.1 18 = .ok (.goto 11, 3) := by decide +kernel
theorem k_Main_ill_21 : decode Y_Main_ill.2.1 21 = .ok (.aload_n 0, 1) := by decide +kernel
theorem k_Main_ill_22 : decode Y_Main_ill.2.1 22 = .ok (.getfield 12, 3) := by decide +kernel
theorem k_Main_ill_25 : decode Y_Main_ill.2.1 25 = .ok (.iload_n 1, 1) := by decide +kernel
theorem k_Main_ill_26 : decode Y_Main_ill.2.1 26 = .ok (.invokevirtual 150, 3) := by decide +kernel
theorem k_Main_ill_29 : decode Y_Main_ill.2.1 29 = .ok (.ireturn, 1) := by decide +kernel
theorem k_Main_first_0 : decode Y_Main_first.2.1 0 = .ok (.iload_n 1, 1) := by decide +kernel
theorem k_Main_first_1 : decode Y_Main_first.2.1 1 = .ok (.ifCond .eq 15, 3) := by decide +kernel
theorem k_Main_first_4 : decode Y_Main_first.2.1 4 = .ok (.iload_n 1, 1) := by decide +kernel
theorem k_Main_first_5 : decode Y_Main_first.2.1 5 = .ok (.iconst 1, 1) := by decide +kernel
theorem k_Main_first_6 : decode Y_Main_first.2.1 6 = .ok (.if_icmp .eq 10, 3) := by decide +kernel
theorem k_Main_first_9 : decode Y_Main_first.2.1 9 = .ok (.aload_n 0, 1) := by decide +kernel
theorem k_Main_first_10 : decode Y_Main_first.2.1 10 = .ok (.bipush (-2), 2) := by decide +kernel
theorem k_Main_first_12 : decode Y_Main_first.2.1 12 = .ok (.invokevirtual 67, 3) := by decide +kernel
theorem k_Main_first_15 : decode Y_Main_first.2.1 15 = .ok (.ireturn, 1) := by decide +kernel
theorem k_Main_first_16 : decode Y_Main_first.2.1 16 = .ok (.aload_n 0, 1) := by decide +kernel
theorem k_Main_first_17 : decode Y_Main_first.2.1 17 = .ok (.getfield 12, 3) := by decide +kernel
theorem k_Main_first_20 : decode Y_Main_first.2.1 20 = .ok (.invokevirtual 153, 3) := by decide +kernel
theorem k_Main_first_23 : decode Y_Main_first.2.1 23 = .ok (.istore_n 2, 1) := by decide +kernel
theorem k_Main_first_24 : decode Y_Main_first.2.1 24 = .ok (.iload_n 1, 1) := by decide +kernel
theorem k_Main_first_25 : decode Y_Main_first.2.1 25 = .ok (.ifCond .eq 9, 3) := by decide +kernel
theorem k_Main_first_28 : decode Y_Main_first.2.1 28 = .ok (.iload_n 2, 1) := by decide +kernel
theorem k_Main_first_29 : decode Y_Main_first.2.1 29 = .ok (.bipush (-9), 2) := by decide +kernel
theorem k_Main_first_31 : decode Y_Main_first.2.1 31 = .ok (.if_icmp .ne 7, 3) := by decide +kernel
theorem k_Main_first_34 : decode Y_Main_first.2.1 34 = .ok (.iload_n 2, 1) := by decide +kernel
theorem k_Main_first_35 : decode Y_Main_first.2.1 35 = .ok (.goto 11, 3) := by decide +kernel
theorem k_Main_first_38 : decode Y_Main_first.2.1 38 = .ok (.aload_n 0, 1) := by decide +kernel
theorem k_Main_first_39 : decode Y_Main_first.2.1 39 = .ok (.getfield 12, 3) := by decide +kernel
theorem k_Main_first_42 : decode Y_Main_first.2.1 42 = .ok (.iload_n 2, 1) := by decide +kernel
theorem k_Main_first_43 : decode Y_Main_first.2.1 43 = .ok (.invokevirtual 156, 3) := by decide +kernel
theorem k_Main_first_46 : decode Y_Main_first.2.1 46 = .ok (.ireturn, 1) := by decide +kernel
theorem k_Main_allIll_0 : decode Y_Main_allIll.2.1 0 = .ok (.aload_n 0, 1) := by decide +kernel
theorem k_Main_allIll_1 : decode Y_Main_allIll.2.1 1 = .ok (.getfield 12, 3) := by decide +kernel
theorem k_Main_allIll_4 : decode Y_Main_allIll.2.1 4 = .ok (.invokevirtual 159, 3) := by decide +kernel
theorem k_Main_allIll_7 : decode Y_Main_allIll.2.1 7 = .ok (.ireturn, 1) := by decide +kernel
theorem k_Main_entries_0 : decode Y_Main_entries.2.1 0 = .ok (.iload_n 1, 1) := by decide +kernel
theorem k_Main_entries_1 : decode Y_Main_entries.2.1 1 = .ok (.ifCond .lt 8, 3) := by decide +kernel
theorem k_Main_entries_4 : decode Y_Main_entries.2.1 4 = .ok (.iload_n 1, 1) := by decide +kernel
theorem k_Main_entries_5 : decode Y_Main_entries.2.1 5 = .ok (.iconst 5, 1) := by decide +kernel
theorem k_Main_entries_6 : decode Y_Main_entries.2.1 6 = .ok (.if_icmp .le 8, 3) := by decide +kernel
theorem k_Main_entries_9 : decode Y_Main_entries.2.1 9 = .ok (.bipush (-2), 2) := by decide +kernel
theorem k_Main_entries_11 : decode Y_Main_entries.2.1 11 = .ok (.goto 10, 3) := by decide +kernel
theorem k_Main_entries_14 : decode Y_Main_entries.2.1 14 = .ok (.iload_n 2, 1) := by decide +kernel
theorem k_Main_entries_15 : decode Y_Main_entries.2.1 15 = .ok (.iconst 0, 1) := by decide +kernel
theorem k_Main_entries_16 : decode Y_Main_entries.2.1 16 = .ok (.bipush 9, 2) := by decide +kernel
theorem k_Main_entries_18 : decode Y_Main_entries.2.1 18 = .ok (.invokestatic 59, 3) := by decide +kernel
theorem k_Main_entries_21 : decode Y_Main_entries.2.1 21 = .ok (.istore_n 3, 1) := by decide +kernel
theorem k_Main_entries_22 : decode Y_Main_entries.2.1 22 = .ok (.iload_n 3, 1) := by decide +kernel
theorem k_Main_entries_23 : decode Y_Main_entries.2.1 23 = .ok (.ifCond .eq 11, 3) := by decide +kernel
theorem k_Main_entries_26 : decode Y_Main_entries.2.1 26 = .ok (.aload_n 0, 1) := by decide +kernel
theorem k_Main_entries_27 : decode Y_Main_entries.2.1 27 = .ok (.iload_n 3, 1) := by decide +kernel
theorem k_Main_entries_28 : decode Y_Main_entries.2.1 28 = .ok (.invokevirtual 67, 3) := by decide +kernel
theorem k_Main_entries_31 : decode Y_Main_entries.2.1 31 = .ok (.goto 16, 3) := by decide +kernel
theorem k_Main_entries_34 : decode Y_Main_entries.2.1 34 = .ok (.aload_n 0, 1) := by decide +kernel
theorem k_Main_entries_35 : decode Y_Main_entries.2.1 35 = .ok (.getfield 26, 3) := by decide +kernel
theorem k_Main_entries_38 : decode Y_Main_entries.2.1 38 = .ok (.aload_n 0, 1) := by decide +kernel
theorem k_Main_entries_39 : decode Y_Main_entries.2.1 39 = .ok (.getfield 12, 3) := by decide +kernel
theorem k_Main_entries_42 : decode Y_Main_entries.2.1 42 = .ok (.iload_n 1, 1) := by decide +kernel
theorem k_Main_entries_43 : decode Y_Main_entries.2.1 43 = .ok (.iload_n 2, 1) := by decide +kernel
theorem k_Main_entries_44 : decode Y_Main_entries.2.1 44 = .ok (.invokevirtual 162, 3) := by decide +kernel
theorem k_Main_entries_47 : decode Y_Main_entries.2.1 47 = .ok (.ireturn, 1) := by decide +kernel
theorem k_Main_added_0 : decode Y_Main_added.2.1 0 = .ok (.aload_n 0, 1) := by decide +kernel
theorem k_Main_added_1 : decode Y_Main_added.2.1 1 = .ok (.getfield 26, 3) := by decide +kernel
theorem k_Main_added_4 : decode Y_Main_added.2.1 4 = .ok (.aload_n 0, 1) := by decide +kernel
theorem k_Main_added_5 : decode Y_Main_added.2.1 5 = .ok (.getfield 12, 3) := by decide +kernel
theorem k_Main_added_8 : decode Y_Main_added.2.1 8 = .ok (.invokevirtual 166, 3) := by decide +kernel
theorem k_Main_added_11 : decode Y_Main_added.2.1 11 = .ok (.ireturn, 1) := by decide +kernel
theorem k_Main_silent_0 : decode Y_Main_silent.2.1 0 = .ok (.aload_n 0, 1) := by decide +kernel
theorem k_Main_silent_1 : decode Y_Main_silent.2.1 1 = .ok (.getfield 12, 3) := by decide +kernel
theorem k_Main_silent_4 : decode Y_Main_silent.2.1 4 = .ok (.invokevirtual 169, 3) := by decide +kernel
theorem k_Main_silent_7 : decode Y_Main_silent.2.1 7 = .ok (.ireturn, 1) := by decide +kernel
theorem k_Main_changed_0 : decode Y_Main_changed.2.1 0 = .ok (.iload_n 1, 1) := by decide +kernel
theorem k_Main_changed_1 : decode Y_Main_changed.2.1 1 = .ok (.lookupswitch 51 #[(0, 27), (1, 39)], 27) := by decide +kernel
theorem k_Main_changed_28 : decode Y_Main_changed.2.1 28 = .ok (.aload_n 0, 1) := by decide +kernel
theorem k_Main_changed_29 : decode Y_Main_changed.2.1 29 = .ok (.getfield 26, 3) := by decide +kernel
theorem k_Main_changed_32 : decode Y_Main_changed.2.1 32 = .ok (.aload_n 0, 1) := by decide +kernel
theorem k_Main_changed_33 : decode Y_Main_changed.2.1 33 = .ok (.getfield 12, 3) := by decide +kernel
theorem k_Main_changed_36 : decode Y_Main_changed.2.1 36 = .ok (.invokevirtual 172, 3) := by decide +kernel
theorem k_Main_changed_39 : decode Y_Main_changed.2.1 39 = .ok (.ireturn, 1) := by decide +kernel
theorem k_Main_changed_40 : decode Y_Main_changed.2.1 40 = .ok (.aload_n 0, 1) := by decide +kernel
theorem k_Main_changed_41 : decode Y_Main_changed.2.1 41 = .ok (.getfield 26, 3) := by decide +kernel
theorem k_Main_changed_44 : decode Y_Main_changed.2.1 44 = .ok (.aload_n 0, 1) := by decide +kernel
theorem k_Main_changed_45 : decode Y_Main_changed.2.1 45 = .ok (.getfield 12, 3) := by decide +kernel
theorem k_Main_changed_48 : decode Y_Main_changed.2.1 48 = .ok (.invokevirtual 175, 3) := by decide +kernel
theorem k_Main_changed_51 : decode Y_Main_changed.2.1 51 = .ok (.ireturn, 1) := by decide +kernel
theorem k_Main_changed_52 : decode Y_Main_changed.2.1 52 = .ok (.aload_n 0, 1) := by decide +kernel
theorem k_Main_changed_53 : decode Y_Main_changed.2.1 53 = .ok (.bipush (-2), 2) := by decide +kernel
theorem k_Main_changed_55 : decode Y_Main_changed.2.1 55 = .ok (.invokevirtual 67, 3) := by decide +kernel
theorem k_Main_changed_58 : decode Y_Main_changed.2.1 58 = .ok (.ireturn, 1) := by decide +kernel
theorem k_Main_better_0 : decode Y_Main_better.2.1 0 = .ok (.aload_n 0, 1) := by decide +kernel
theorem k_Main_better_1 : decode Y_Main_better.2.1 1 = .ok (.getfield 26, 3) := by decide +kernel
theorem k_Main_better_4 : decode Y_Main_better.2.1 4 = .ok (.aload_n 0, 1) := by decide +kernel
theorem k_Main_better_5 : decode Y_Main_better.2.1 5 = .ok (.getfield 12, 3) := by decide +kernel
theorem k_Main_better_8 : decode Y_Main_better.2.1 8 = .ok (.invokevirtual 178, 3) := by decide +kernel
theorem k_Main_better_11 : decode Y_Main_better.2.1 11 = .ok (.ireturn, 1) := by decide +kernel
theorem k_Main_mirror_0 : decode Y_Main_mirror.2.1 0 = .ok (.aload_n 0, 1) := by decide +kernel
theorem k_Main_mirror_1 : decode Y_Main_mirror.2.1 1 = .ok (.getfield 12, 3) := by decide +kernel
theorem k_Main_mirror_4 : decode Y_Main_mirror.2.1 4 = .ok (.getfield 91, 3) := by decide +kernel
theorem k_Main_mirror_7 : decode Y_Main_mirror.2.1 7 = .ok (.invokevirtual 181, 3) := by decide +kernel
theorem k_Main_mirror_10 : decode Y_Main_mirror.2.1 10 = .ok (.ifCond .eq 7, 3) := by decide +kernel
theorem k_Main_mirror_13 : decode Y_Main_mirror.2.1 13 = .ok (.iconst 1, 1) := by decide +kernel
theorem k_Main_mirror_14 : decode Y_Main_mirror.2.1 14 = .ok (.goto 4, 3) := by decide +kernel
theorem k_Main_mirror_17 : decode Y_Main_mirror.2.1 17 = .ok (.iconst 0, 1) := by decide +kernel
theorem k_Main_mirror_18 : decode Y_Main_mirror.2.1 18 = .ok (.ireturn, 1) := by decide +kernel
theorem k_Main_agreeing_0 : decode Y_Main_agreeing.2.1 0 = .ok (.iload_n 1, 1) := by decide +kernel
theorem k_Main_agreeing_1 : decode Y_Main_agreeing.2.1 1 = .ok (.iload_n 2, 1) := by decide +kernel
theorem k_Main_agreeing_2 : decode Y_Main_agreeing.2.1 2 = .ok (.invokestatic 185, 3) := by decide +kernel
theorem k_Main_agreeing_5 : decode Y_Main_agreeing.2.1 5 = .ok (.iconst 1, 1) := by decide +kernel
theorem k_Main_agreeing_6 : decode Y_Main_agreeing.2.1 6 = .ok (.if_icmp .ge 8, 3) := by decide +kernel
theorem k_Main_agreeing_9 : decode Y_Main_agreeing.2.1 9 = .ok (.bipush (-4), 2) := by decide +kernel
theorem k_Main_agreeing_11 : decode Y_Main_agreeing.2.1 11 = .ok (.goto 14, 3) := by decide +kernel
theorem k_Main_agreeing_14 : decode Y_Main_agreeing.2.1 14 = .ok (.iload_n 1, 1) := by decide +kernel
theorem k_Main_agreeing_15 : decode Y_Main_agreeing.2.1 15 = .ok (.iload_n 2, 1) := by decide +kernel
theorem k_Main_agreeing_16 : decode Y_Main_agreeing.2.1 16 = .ok (.invokestatic 190, 3) := by decide +kernel
theorem k_Main_agreeing_19 : decode Y_Main_agreeing.2.1 19 = .ok (.iconst 1, 1) := by decide +kernel
theorem k_Main_agreeing_20 : decode Y_Main_agreeing.2.1 20 = .ok (.bipush 12, 2) := by decide +kernel
theorem k_Main_agreeing_22 : decode Y_Main_agreeing.2.1 22 = .ok (.invokestatic 59, 3) := by decide +kernel
theorem k_Main_agreeing_25 : decode Y_Main_agreeing.2.1 25 = .ok (.istore_n 3, 1) := by decide +kernel
theorem k_Main_agreeing_26 : decode Y_Main_agreeing.2.1 26 = .ok (.iload_n 3, 1) := by decide +kernel
theorem k_Main_agreeing_27 : decode Y_Main_agreeing.2.1 27 = .ok (.ifCond .eq 16, 3) := by decide +kernel
theorem k_Main_agreeing_30 : decode Y_Main_agreeing.2.1 30 = .ok (.ldc2_w 193, 3) := by decide +kernel
theorem k_Main_agreeing_33 : decode Y_Main_agreeing.2.1 33 = .ok (.aload_n 0, 1) := by decide +kernel
theorem k_Main_agreeing_34 : decode Y_Main_agreeing.2.1 34 = .ok (.iload_n 3, 1) := by decide +kernel
theorem k_Main_agreeing_35 : decode Y_Main_agreeing.2.1 35 = .ok (.invokevirtual 67, 3) := by decide +kernel
theorem k_Main_agreeing_38 : decode Y_Main_agreeing.2.1 38 = .ok (.i2l, 1) := by decide +kernel
theorem k_Main_agreeing_39 : decode Y_Main_agreeing.2.1 39 = .ok (.lsub, 1) := by decide +kernel
theorem k_Main_agreeing_40 : decode Y_Main_agreeing.2.1 40 = .ok (.goto 19, 3) := by decide +kernel
theorem k_Main_agreeing_43 : decode Y_Main_agreeing.2.1 43 = .ok (.aload_n 0, 1) := by decide +kernel
theorem k_Main_agreeing_44 : decode Y_Main_agreeing.2.1 44 = .ok (.getfield 33, 3) := by decide +kernel
theorem k_Main_agreeing_47 : decode Y_Main_agreeing.2.1 47 = .ok (.iload_n 1, 1) := by decide +kernel
theorem k_Main_agreeing_48 : decode Y_Main_agreeing.2.1 48 = .ok (.iload_n 2, 1) := by decide +kernel
theorem k_Main_agreeing_49 : decode Y_Main_agreeing.2.1 49 = .ok (.aload_n 0, 1) := by decide +kernel
theorem k_Main_agreeing_50 : decode Y_Main_agreeing.2.1 50 = .ok (.getfield 12, 3) := by decide +kernel
theorem k_Main_agreeing_53 : decode Y_Main_agreeing.2.1 53 = .ok (.getfield 142, 3) := by decide +kernel
theorem k_Main_agreeing_56 : decode Y_Main_agreeing.2.1 56 = .ok (.invokevirtual 195, 3) := by decide +kernel
theorem k_Main_agreeing_59 : decode Y_Main_agreeing.2.1 59 = .ok (.lreturn, 1) := by decide +kernel
theorem k_Main_range_0 : decode Y_Main_range.2.1 0 = .ok (.aload_n 0, 1) := by decide +kernel
theorem k_Main_range_1 : decode Y_Main_range.2.1 1 = .ok (.getfield 12, 3) := by decide +kernel
theorem k_Main_range_4 : decode Y_Main_range.2.1 4 = .ok (.iload_n 1, 1) := by decide +kernel
theorem k_Main_range_5 : decode Y_Main_range.2.1 5 = .ok (.invokevirtual 110, 3) := by decide +kernel
theorem k_Main_range_8 : decode Y_Main_range.2.1 8 = .ok (.ifCond .ne 7, 3) := by decide +kernel
theorem k_Main_range_11 : decode Y_Main_range.2.1 11 = .ok (.iconst (-1), 1) := by decide +kernel
theorem k_Main_range_12 : decode Y_Main_range.2.1 12 = .ok (.goto 18, 3) := by decide +kernel
theorem k_Main_range_15 : decode Y_Main_range.2.1 15 = .ok (.iload_n 2, 1) := by decide +kernel
theorem k_Main_range_16 : decode Y_Main_range.2.1 16 = .ok (.ifCond .eq 13, 3) := by decide +kernel
theorem k_Main_range_19 : decode Y_Main_range.2.1 19 = .ok (.iload_n 2, 1) := by decide +kernel
theorem k_Main_range_20 : decode Y_Main_range.2.1 20 = .ok (.iconst 1, 1) := by decide +kernel
theorem k_Main_range_21 : decode Y_Main_range.2.1 21 = .ok (.if_icmp .eq 8, 3) := by decide +kernel
theorem k_Main_range_24 : decode Y_Main_range.2.1 24 = .ok (.bipush (-2), 2) := by decide +kernel
theorem k_Main_range_26 : decode Y_Main_range.2.1 26 = .ok (.goto 4, 3) := by decide +kernel
theorem k_Main_range_29 : decode Y_Main_range.2.1 29 = .ok (.iconst 0, 1) := by decide +kernel
theorem k_Main_range_30 : decode Y_Main_range.2.1 30 = .ok (.istore_n 3, 1) := by decide +kernel
theorem k_Main_range_31 : decode Y_Main_range.2.1 31 = .ok (.iload_n 3, 1) := by decide +kernel
theorem k_Main_range_32 : decode Y_Main_range.2.1 32 = .ok (.ifCond .eq 12, 3) := by decide +kernel
theorem k_Main_range_35 : decode Y_Main_range.2.1 35 = .ok (.ldc 145, 2) := by decide +kernel
theorem k_Main_range_37 : decode Y_Main_range.2.1 37 = .ok (.aload_n 0, 1) := by decide +kernel
theorem k_Main_range_38 : decode Y_Main_range.2.1 38 = .ok (.iload_n 3, 1) := by decide +kernel
theorem k_Main_range_39 : decode Y_Main_range.2.1 39 = .ok (.invokevirtual 67, 3) := by decide +kernel
theorem k_Main_range_42 : decode Y_Main_range.2.1 42 = .ok (.isub, 1) := by decide +kernel
theorem k_Main_range_43 : decode Y_Main_range.2.1 43 = .ok (.ireturn, 1) := by decide +kernel
theorem k_Main_range_44 : decode Y_Main_range.2.1 44 = .ok (.aload_n 0, 1) := by decide +kernel
theorem k_Main_range_45 : decode Y_Main_range.2.1 45 = .ok (.getfield 12, 3) := by decide +kernel
theorem k_Main_range_48 : decode Y_Main_range.2.1 48 = .ok (.iload_n 1, 1) := by decide +kernel
theorem k_Main_range_49 : decode Y_Main_range.2.1 49 = .ok (.iload_n 2, 1) := by decide +kernel
theorem k_Main_range_50 : decode Y_Main_range.2.1 50 = .ok (.iconst 1, 1) := by decide +kernel
theorem k_Main_range_51 : decode Y_Main_range.2.1 51 = .ok (.if_icmp .ne 7, 3) := by decide +kernel
theorem k_Main_range_54 : decode Y_Main_range.2.1 54 = .ok (.iconst 1, 1) := by decide +kernel
theorem k_Main_range_55 : decode Y_Main_range.2.1 55 = .ok (.goto 4, 3) := by decide +kernel
theorem k_Main_range_58 : decode Y_Main_range.2.1 58 = .ok (.iconst 0, 1) := by decide +kernel
theorem k_Main_range_59 : decode Y_Main_range.2.1 59 = .ok (.invokevirtual 199, 3) := by decide +kernel
theorem k_Main_range_62 : decode Y_Main_range.2.1 62 = .ok (.ireturn, 1) := by decide +kernel
theorem k_Main_stop_0 : decode Y_Main_stop.2.1 0 = .ok (.iload_n 1, 1) := by decide +kernel
theorem k_Main_stop_1 : decode Y_Main_stop.2.1 1 = .ok (.iconst 0, 1) := by decide +kernel
theorem k_Main_stop_2 : decode Y_Main_stop.2.1 2 = .ok (.sipush 400, 3) := by decide +kernel
theorem k_Main_stop_5 : decode Y_Main_stop.2.1 5 = .ok (.invokestatic 59, 3) := by decide +kernel
theorem k_Main_stop_8 : decode Y_Main_stop.2.1 8 = .ok (.istore_n 2, 1) := by decide +kernel
theorem k_Main_stop_9 : decode Y_Main_stop.2.1 9 = .ok (.iload_n 2, 1) := by decide +kernel
theorem k_Main_stop_10 : decode Y_Main_stop.2.1 10 = .ok (.ifCond .eq 11, 3) := by decide +kernel
theorem k_Main_stop_13 : decode Y_Main_stop.2.1 13 = .ok (.aload_n 0, 1) := by decide +kernel
theorem k_Main_stop_14 : decode Y_Main_stop.2.1 14 = .ok (.iload_n 2, 1) := by decide +kernel
theorem k_Main_stop_15 : decode Y_Main_stop.2.1 15 = .ok (.invokevirtual 67, 3) := by decide +kernel
theorem k_Main_stop_18 : decode Y_Main_stop.2.1 18 = .ok (.goto 11, 3) := by decide +kernel
theorem k_Main_stop_21 : decode Y_Main_stop.2.1 21 = .ok (.aload_n 0, 1) := by decide +kernel
theorem k_Main_stop_22 : decode Y_Main_stop.2.1 22 = .ok (.getfield 12, 3) := by decide +kernel
theorem k_Main_stop_25 : decode Y_Main_stop.2.1 25 = .ok (.iload_n 1, 1) := by decide +kernel
theorem k_Main_stop_26 : decode Y_Main_stop.2.1 26 = .ok (.invokevirtual 203, 3) := by decide +kernel
theorem k_Main_stop_29 : decode Y_Main_stop.2.1 29 = .ok (.ireturn, 1) := by decide +kernel
theorem k_Main_unison_0 : decode Y_Main_unison.2.1 0 = .ok (.aload_n 0, 1) := by decide +kernel
theorem k_Main_unison_1 : decode Y_Main_unison.2.1 1 = .ok (.getfield 12, 3) := by decide +kernel
theorem k_Main_unison_4 : decode Y_Main_unison.2.1 4 = .ok (.invokevirtual 206, 3) := by decide +kernel
theorem k_Main_unison_7 : decode Y_Main_unison.2.1 7 = .ok (.ireturn, 1) := by decide +kernel
theorem k_Main_row_0 : decode Y_Main_row.2.1 0 = .ok (.iload_n 1, 1) := by decide +kernel
theorem k_Main_row_1 : decode Y_Main_row.2.1 1 = .ok (.iconst 0, 1) := by decide +kernel
theorem k_Main_row_2 : decode Y_Main_row.2.1 2 = .ok (.bipush 60, 2) := by decide +kernel
theorem k_Main_row_4 : decode Y_Main_row.2.1 4 = .ok (.invokestatic 59, 3) := by decide +kernel
theorem k_Main_row_7 : decode Y_Main_row.2.1 7 = .ok (.istore_n 2, 1) := by decide +kernel
theorem k_Main_row_8 : decode Y_Main_row.2.1 8 = .ok (.iload_n 2, 1) := by decide +kernel
theorem k_Main_row_9 : decode Y_Main_row.2.1 9 = .ok (.ifCond .ne 18, 3) := by decide +kernel
theorem k_Main_row_12 : decode Y_Main_row.2.1 12 = .ok (.aload_n 0, 1) := by decide +kernel
theorem k_Main_row_13 : decode Y_Main_row.2.1 13 = .ok (.getfield 49, 3) := by decide +kernel
theorem k_Main_row_16 : decode Y_Main_row.2.1 16 = .ok (.invokevirtual 209, 3) := by decide +kernel
theorem k_Main_row_19 : decode Y_Main_row.2.1 19 = .ok (.bipush 12, 2) := by decide +kernel
theorem k_Main_row_21 : decode Y_Main_row.2.1 21 = .ok (.if_icmp .lt 6, 3) := by decide +kernel
theorem k_Main_row_24 : decode Y_Main_row.2.1 24 = .ok (.bipush (-6), 2) := by decide +kernel
theorem k_Main_row_26 : decode Y_Main_row.2.1 26 = .ok (.istore_n 2, 1) := by decide +kernel
theorem k_Main_row_27 : decode Y_Main_row.2.1 27 = .ok (.iload_n 2, 1) := by decide +kernel
theorem k_Main_row_28 : decode Y_Main_row.2.1 28 = .ok (.ifCond .eq 9, 3) := by decide +kernel
theorem k_Main_row_31 : decode Y_Main_row.2.1 31 = .ok (.aload_n 0, 1) := by decide +kernel
theorem k_Main_row_32 : decode Y_Main_row.2.1 32 = .ok (.iload_n 2, 1) := by decide +kernel
theorem k_Main_row_33 : decode Y_Main_row.2.1 33 = .ok (.invokevirtual 67, 3) := by decide +kernel
theorem k_Main_row_36 : decode Y_Main_row.2.1 36 = .ok (.ireturn, 1) := by decide +kernel
theorem k_Main_row_37 : decode Y_Main_row.2.1 37 = .ok (.aload_n 0, 1) := by decide +kernel
theorem k_Main_row_38 : decode Y_Main_row.2.1 38 = .ok (.getfield 49, 3) := by decide +kernel
theorem k_Main_row_41 : decode Y_Main_row.2.1 41 = .ok (.iload_n 1, 1) := by decide +kernel
theorem k_Main_row_42 : decode Y_Main_row.2.1 42 = .ok (.invokevirtual 56, 3) := by decide +kernel
theorem k_Main_row_45 : decode Y_Main_row.2.1 45 = .ok (.aload_n 0, 1) := by decide +kernel
theorem k_Main_row_46 : decode Y_Main_row.2.1 46 = .ok (.getfield 49, 3) := by decide +kernel
theorem k_Main_row_49 : decode Y_Main_row.2.1 49 = .ok (.invokevirtual 209, 3) := by decide +kernel
theorem k_Main_row_52 : decode Y_Main_row.2.1 52 = .ok (.ireturn, 1) := by decide +kernel
theorem k_Main_who_0 : decode Y_Main_who.2.1 0 = .ok (.iload_n 1, 1) := by decide +kernel
theorem k_Main_who_1 : decode Y_Main_who.2.1 1 = .ok (.iconst 0, 1) := by decide +kernel
theorem k_Main_who_2 : decode Y_Main_who.2.1 2 = .ok (.sipush 400, 3) := by decide +kernel
theorem k_Main_who_5 : decode Y_Main_who.2.1 5 = .ok (.invokestatic 59, 3) := by decide +kernel
theorem k_Main_who_8 : decode Y_Main_who.2.1 8 = .ok (.istore_n 2, 1) := by decide +kernel
theorem k_Main_who_9 : decode Y_Main_who.2.1 9 = .ok (.iload_n 2, 1) := by decide +kernel
theorem k_Main_who_10 : decode Y_Main_who.2.1 10 = .ok (.ifCond .eq 9, 3) := by decide +kernel
theorem k_Main_who_13 : decode Y_Main_who.2.1 13 = .ok (.aload_n 0, 1) := by decide +kernel
theorem k_Main_who_14 : decode Y_Main_who.2.1 14 = .ok (.iload_n 2, 1) := by decide +kernel
theorem k_Main_who_15 : decode Y_Main_who.2.1 15 = .ok (.invokevirtual 67, 3) := by decide +kernel
theorem k_Main_who_18 : decode Y_Main_who.2.1 18 = .ok (.ireturn, 1) := by decide +kernel
theorem k_Main_who_19 : decode Y_Main_who.2.1 19 = .ok (.iconst 0, 1) := by decide +kernel
theorem k_Main_who_20 : decode Y_Main_who.2.1 20 = .ok (.istore_n 3, 1) := by decide +kernel
theorem k_Main_who_21 : decode Y_Main_who.2.1 21 = .ok (.iconst 0, 1) := by decide +kernel
theorem k_Main_who_22 : decode Y_Main_who.2.1 22 = .ok (.istore 4, 2) := by decide +kernel
theorem k_Main_who_24 : decode Y_Main_who.2.1 24 = .ok (.iload 4, 2) := by decide +kernel
theorem k_Main_who_26 : decode Y_Main_who.2.1 26 = .ok (.aload_n 0, 1) := by decide +kernel
theorem k_Main_who_27 : decode Y_Main_who.2.1 27 = .ok (.getfield 12, 3) := by decide +kernel
theorem k_Main_who_30 : decode Y_Main_who.2.1 30 = .ok (.invokevirtual 210, 3) := by decide +kernel
theorem k_Main_who_33 : decode Y_Main_who.2.1 33 = .ok (.if_icmp .ge 35, 3) := by decide +kernel
theorem k_Main_who_36 : decode Y_Main_who.2.1 36 = .ok (.aload_n 0, 1) := by decide +kernel
theorem k_Main_who_37 : decode Y_Main_who.2.1 37 = .ok (.getfield 12, 3) := by decide +kernel
theorem k_Main_who_40 : decode Y_Main_who.2.1 40 = .ok (.iload 4, 2) := by decide +kernel
theorem k_Main_who_42 : decode Y_Main_who.2.1 42 = .ok (.iload_n 1, 1) := by decide +kernel
theorem k_Main_who_43 : decode Y_Main_who.2.1 43 = .ok (.aload_n 0, 1) := by decide +kernel
theorem k_Main_who_44 : decode Y_Main_who.2.1 44 = .ok (.getfield 49, 3) := by decide +kernel
theorem k_Main_who_47 : decode Y_Main_who.2.1 47 = .ok (.invokevirtual 213, 3) := by decide +kernel
theorem k_Main_who_50 : decode Y_Main_who.2.1 50 = .ok (.bipush (-9), 2) := by decide +kernel
theorem k_Main_who_52 : decode Y_Main_who.2.1 52 = .ok (.if_icmp .ne 10, 3) := by decide +kernel
theorem k_Main_who_55 : decode Y_Main_who.2.1 55 = .ok (.iload_n 3, 1) := by decide +kernel
theorem k_Main_who_56 : decode Y_Main_who.2.1 56 = .ok (.iconst 1, 1) := by decide +kernel
theorem k_Main_who_57 : decode Y_Main_who.2.1 57 = .ok (.iload 4, 2) := by decide +kernel
theorem k_Main_who_59 : decode Y_Main_who.2.1 59 = .ok (.ishl, 1) := by decide +kernel
theorem k_Main_who_60 : decode Y_Main_who.2.1 60 = .ok (.ior, 1) := by decide +kernel
theorem k_Main_who_61 : decode Y_Main_who.2.1 61 = .ok (.istore_n 3, 1) := by decide +kernel
theorem k_Main_who_62 : decode Y_Main_who.2.1 62 = .ok (.iinc 4 1, 3) := by decide +kernel
theorem k_Main_who_65 : decode Y_Main_who.2.1 65 = .ok (.goto (-41), 3) := by decide +kernel
theorem k_Main_who_68 : decode Y_Main_who.2.1 68 = .ok (.iload_n 3, 1) := by decide +kernel
theorem k_Main_who_69 : decode Y_Main_who.2.1 69 = .ok (.ireturn, 1) := by decide +kernel
theorem k_Main_judge_0 : decode Y_Main_judge.2.1 0 = .ok (.aload_n 0, 1) := by decide +kernel
theorem k_Main_judge_1 : decode Y_Main_judge.2.1 1 = .ok (.getfield 12, 3) := by decide +kernel
theorem k_Main_judge_4 : decode Y_Main_judge.2.1 4 = .ok (.iload_n 1, 1) := by decide +kernel
theorem k_Main_judge_5 : decode Y_Main_judge.2.1 5 = .ok (.invokevirtual 110, 3) := by decide +kernel
theorem k_Main_judge_8 : decode Y_Main_judge.2.1 8 = .ok (.ifCond .eq 14, 3) := by decide +kernel
theorem k_Main_judge_11 : decode Y_Main_judge.2.1 11 = .ok (.iload_n 2, 1) := by decide +kernel
theorem k_Main_judge_12 : decode Y_Main_judge.2.1 12 = .ok (.iconst 0, 1) := by decide +kernel
theorem k_Main_judge_13 : decode Y_Main_judge.2.1 13 = .ok (.sipush 400, 3) := by decide +kernel
theorem k_Main_judge_16 : decode Y_Main_judge.2.1 16 = .ok (.invokestatic 59, 3) := by decide +kernel
theorem k_Main_judge_19 : decode Y_Main_judge.2.1 19 = .ok (.goto 4, 3) := by decide +kernel
theorem k_Main_judge_22 : decode Y_Main_judge.2.1 22 = .ok (.iconst (-1), 1) := by decide +kernel
theorem k_Main_judge_23 : decode Y_Main_judge.2.1 23 = .ok (.istore_n 3, 1) := by decide +kernel
theorem k_Main_judge_24 : decode Y_Main_judge.2.1 24 = .ok (.iload_n 3, 1) := by decide +kernel
theorem k_Main_judge_25 : decode Y_Main_judge.2.1 25 = .ok (.ifCond .eq 9, 3) := by decide +kernel
theorem k_Main_judge_28 : decode Y_Main_judge.2.1 28 = .ok (.aload_n 0, 1) := by decide +kernel
theorem k_Main_judge_29 : decode Y_Main_judge.2.1 29 = .ok (.iload_n 3, 1) := by decide +kernel
theorem k_Main_judge_30 : decode Y_Main_judge.2.1 30 = .ok (.invokevirtual 67, 3) := by decide +kernel
theorem k_Main_judge_33 : decode Y_Main_judge.2.1 33 = .ok (.ireturn, 1) := by decide +kernel
theorem k_Main_judge_34 : decode Y_Main_judge.2.1 34 = .ok (.aload_n 0, 1) := by decide +kernel
theorem k_Main_judge_35 : decode Y_Main_judge.2.1 35 = .ok (.getfield 12, 3) := by decide +kernel
theorem k_Main_judge_38 : decode Y_Main_judge.2.1 38 = .ok (.iload_n 1, 1) := by decide +kernel
theorem k_Main_judge_39 : decode Y_Main_judge.2.1 39 = .ok (.iload_n 2, 1) := by decide +kernel
theorem k_Main_judge_40 : decode Y_Main_judge.2.1 40 = .ok (.aload_n 0, 1) := by decide +kernel
theorem k_Main_judge_41 : decode Y_Main_judge.2.1 41 = .ok (.getfield 49, 3) := by decide +kernel
theorem k_Main_judge_44 : decode Y_Main_judge.2.1 44 = .ok (.invokevirtual 213, 3) := by decide +kernel
theorem k_Main_judge_47 : decode Y_Main_judge.2.1 47 = .ok (.istore 4, 2) := by decide +kernel
theorem k_Main_judge_49 : decode Y_Main_judge.2.1 49 = .ok (.aload_n 0, 1) := by decide +kernel
theorem k_Main_judge_50 : decode Y_Main_judge.2.1 50 = .ok (.getfield 49, 3) := by decide +kernel
theorem k_Main_judge_53 : decode Y_Main_judge.2.1 53 = .ok (.invokevirtual 217, 3) := by decide +kernel
theorem k_Main_judge_56 : decode Y_Main_judge.2.1 56 = .ok (.iload 4, 2) := by decide +kernel
theorem k_Main_judge_58 : decode Y_Main_judge.2.1 58 = .ok (.ireturn, 1) := by decide +kernel
theorem k_Main_seeds_0 : decode Y_Main_seeds.2.1 0 = .ok (.iload_n 1, 1) := by decide +kernel
theorem k_Main_seeds_1 : decode Y_Main_seeds.2.1 1 = .ok (.iconst 1, 1) := by decide +kernel
theorem k_Main_seeds_2 : decode Y_Main_seeds.2.1 2 = .ok (.bipush 20, 2) := by decide +kernel
theorem k_Main_seeds_4 : decode Y_Main_seeds.2.1 4 = .ok (.invokestatic 59, 3) := by decide +kernel
theorem k_Main_seeds_7 : decode Y_Main_seeds.2.1 7 = .ok (.istore_n 3, 1) := by decide +kernel
theorem k_Main_seeds_8 : decode Y_Main_seeds.2.1 8 = .ok (.iload_n 3, 1) := by decide +kernel
theorem k_Main_seeds_9 : decode Y_Main_seeds.2.1 9 = .ok (.ifCond .eq 11, 3) := by decide +kernel
theorem k_Main_seeds_12 : decode Y_Main_seeds.2.1 12 = .ok (.aload_n 0, 1) := by decide +kernel
theorem k_Main_seeds_13 : decode Y_Main_seeds.2.1 13 = .ok (.iload_n 3, 1) := by decide +kernel
theorem k_Main_seeds_14 : decode Y_Main_seeds.2.1 14 = .ok (.invokevirtual 67, 3) := by decide +kernel
theorem k_Main_seeds_17 : decode Y_Main_seeds.2.1 17 = .ok (.goto 16, 3) := by decide +kernel
theorem k_Main_seeds_20 : decode Y_Main_seeds.2.1 20 = .ok (.aload_n 0, 1) := by decide +kernel
theorem k_Main_seeds_21 : decode Y_Main_seeds.2.1 21 = .ok (.getfield 26, 3) := by decide +kernel
theorem k_Main_seeds_24 : decode Y_Main_seeds.2.1 24 = .ok (.aload_n 0, 1) := by decide +kernel
theorem k_Main_seeds_25 : decode Y_Main_seeds.2.1 25 = .ok (.getfield 12, 3) := by decide +kernel
theorem k_Main_seeds_28 : decode Y_Main_seeds.2.1 28 = .ok (.iload_n 1, 1) := by decide +kernel
theorem k_Main_seeds_29 : decode Y_Main_seeds.2.1 29 = .ok (.iload_n 2, 1) := by decide +kernel
theorem k_Main_seeds_30 : decode Y_Main_seeds.2.1 30 = .ok (.invokevirtual 218, 3) := by decide +kernel
theorem k_Main_seeds_33 : decode Y_Main_seeds.2.1 33 = .ok (.ireturn, 1) := by decide +kernel
theorem k_Main_image_0 : decode Y_Main_image.2.1 0 = .ok (.aload_n 0, 1) := by decide +kernel
theorem k_Main_image_1 : decode Y_Main_image.2.1 1 = .ok (.getfield 16, 3) := by decide +kernel
theorem k_Main_image_4 : decode Y_Main_image.2.1 4 = .ok (.aload_n 0, 1) := by decide +kernel
theorem k_Main_image_5 : decode Y_Main_image.2.1 5 = .ok (.getfield 12, 3) := by decide +kernel
theorem k_Main_image_8 : decode Y_Main_image.2.1 8 = .ok (.invokevirtual 84, 3) := by decide +kernel
theorem k_Main_image_11 : decode Y_Main_image.2.1 11 = .ok (.aload_n 0, 1) := by decide +kernel
theorem k_Main_image_12 : decode Y_Main_image.2.1 12 = .ok (.iconst 1, 1) := by decide +kernel
theorem k_Main_image_13 : decode Y_Main_image.2.1 13 = .ok (.putfield 19, 3) := by decide +kernel
theorem k_Main_image_16 : decode Y_Main_image.2.1 16 = .ok (.aload_n 0, 1) := by decide +kernel
theorem k_Main_image_17 : decode Y_Main_image.2.1 17 = .ok (.getfield 12, 3) := by decide +kernel
theorem k_Main_image_20 : decode Y_Main_image.2.1 20 = .ok (.getfield 91, 3) := by decide +kernel
theorem k_Main_image_23 : decode Y_Main_image.2.1 23 = .ok (.invokevirtual 221, 3) := by decide +kernel
theorem k_Main_image_26 : decode Y_Main_image.2.1 26 = .ok (.ireturn, 1) := by decide +kernel
theorem k_Main_on_0 : decode Y_Main_on.2.1 0 = .ok (.aload_n 0, 1) := by decide +kernel
theorem k_Main_on_1 : decode Y_Main_on.2.1 1 = .ok (.getfield 19, 3) := by decide +kernel
theorem k_Main_on_4 : decode Y_Main_on.2.1 4 = .ok (.ifCond .ne 10, 3) := by decide +kernel
theorem k_Main_on_7 : decode Y_Main_on.2.1 7 = .ok (.aload_n 0, 1) := by decide +kernel
theorem k_Main_on_8 : decode Y_Main_on.2.1 8 = .ok (.bipush (-3), 2) := by decide +kernel
theorem k_Main_on_10 : decode Y_Main_on.2.1 10 = .ok (.invokevirtual 67, 3) := by decide +kernel
theorem k_Main_on_13 : decode Y_Main_on.2.1 13 = .ok (.ireturn, 1) := by decide +kernel
theorem k_Main_on_14 : decode Y_Main_on.2.1 14 = .ok (.aload_n 0, 1) := by decide +kernel
theorem k_Main_on_15 : decode Y_Main_on.2.1 15 = .ok (.getfield 12, 3) := by decide +kernel
theorem k_Main_on_18 : decode Y_Main_on.2.1 18 = .ok (.aload_n 0, 1) := by decide +kernel
theorem k_Main_on_19 : decode Y_Main_on.2.1 19 = .ok (.getfield 16, 3) := by decide +kernel
theorem k_Main_on_22 : decode Y_Main_on.2.1 22 = .ok (.invokevirtual 84, 3) := by decide +kernel
theorem k_Main_on_25 : decode Y_Main_on.2.1 25 = .ok (.aload_n 0, 1) := by decide +kernel
theorem k_Main_on_26 : decode Y_Main_on.2.1 26 = .ok (.getfield 12, 3) := by decide +kernel
theorem k_Main_on_29 : decode Y_Main_on.2.1 29 = .ok (.getfield 91, 3) := by decide +kernel
theorem k_Main_on_32 : decode Y_Main_on.2.1 32 = .ok (.invokevirtual 221, 3) := by decide +kernel
theorem k_Main_on_35 : decode Y_Main_on.2.1 35 = .ok (.ireturn, 1) := by decide +kernel
theorem k_Main_count_0 : decode Y_Main_count.2.1 0 = .ok (.iload_n 1, 1) := by decide +kernel
theorem k_Main_count_1 : decode Y_Main_count.2.1 1 = .ok (.tableswitch 129 0 8 #[51, 62, 70, 81, 89, 97, 105, 113, 121], 51) := by decide +kernel
theorem k_Main_count_52 : decode Y_Main_count.2.1 52 = .ok (.aload_n 0, 1) := by decide +kernel
theorem k_Main_count_53 : decode Y_Main_count.2.1 53 = .ok (.getfield 12, 3) := by decide +kernel
theorem k_Main_count_56 : decode Y_Main_count.2.1 56 = .ok (.getfield 91, 3) := by decide +kernel
theorem k_Main_count_59 : decode Y_Main_count.2.1 59 = .ok (.invokevirtual 221, 3) := by decide +kernel
theorem k_Main_count_62 : decode Y_Main_count.2.1 62 = .ok (.ireturn, 1) := by decide +kernel
theorem k_Main_count_63 : decode Y_Main_count.2.1 63 = .ok (.aload_n 0, 1) := by decide +kernel
theorem k_Main_count_64 : decode Y_Main_count.2.1 64 = .ok (.getfield 12, 3) := by decide +kernel
theorem k_Main_count_67 : decode Y_Main_count.2.1 67 = .ok (.invokevirtual 210, 3) := by decide +kernel
theorem k_Main_count_70 : decode Y_Main_count.2.1 70 = .ok (.ireturn, 1) := by decide +kernel
theorem k_Main_count_71 : decode Y_Main_count.2.1 71 = .ok (.aload_n 0, 1) := by decide +kernel
theorem k_Main_count_72 : decode Y_Main_count.2.1 72 = .ok (.getfield 12, 3) := by decide +kernel
theorem k_Main_count_75 : decode Y_Main_count.2.1 75 = .ok (.getfield 91, 3) := by decide +kernel
theorem k_Main_count_78 : decode Y_Main_count.2.1 78 = .ok (.getfield 224, 3) := by decide +kernel
theorem k_Main_count_81 : decode Y_Main_count.2.1 81 = .ok (.ireturn, 1) := by decide +kernel
theorem k_Main_count_82 : decode Y_Main_count.2.1 82 = .ok (.aload_n 0, 1) := by decide +kernel
theorem k_Main_count_83 : decode Y_Main_count.2.1 83 = .ok (.getfield 12, 3) := by decide +kernel
theorem k_Main_count_86 : decode Y_Main_count.2.1 86 = .ok (.invokevirtual 227, 3) := by decide +kernel
theorem k_Main_count_89 : decode Y_Main_count.2.1 89 = .ok (.ireturn, 1) := by decide +kernel
theorem k_Main_count_90 : decode Y_Main_count.2.1 90 = .ok (.aload_n 0, 1) := by decide +kernel
theorem k_Main_count_91 : decode Y_Main_count.2.1 91 = .ok (.getfield 12, 3) := by decide +kernel
theorem k_Main_count_94 : decode Y_Main_count.2.1 94 = .ok (.getfield 135, 3) := by decide +kernel
theorem k_Main_count_97 : decode Y_Main_count.2.1 97 = .ok (.ireturn, 1) := by decide +kernel
theorem k_Main_count_98 : decode Y_Main_count.2.1 98 = .ok (.aload_n 0, 1) := by decide +kernel
theorem k_Main_count_99 : decode Y_Main_count.2.1 99 = .ok (.getfield 12, 3) := by decide +kernel
theorem k_Main_count_102 : decode Y_Main_count.2.1 102 = .ok (.getfield 139, 3) := by decide +kernel
theorem k_Main_count_105 : decode Y_Main_count.2.1 105 = .ok (.ireturn, 1) := by decide +kernel
theorem k_Main_count_106 : decode Y_Main_count.2.1 106 = .ok (.aload_n 0, 1) := by decide +kernel
theorem k_Main_count_107 : decode Y_Main_count.2.1 107 = .ok (.getfield 12, 3) := by decide +kernel
theorem k_Main_count_110 : decode Y_Main_count.2.1 110 = .ok (.getfield 142, 3) := by decide +kernel
theorem k_Main_count_113 : decode Y_Main_count.2.1 113 = .ok (.ireturn, 1) := by decide +kernel
theorem k_Main_count_114 : decode Y_Main_count.2.1 114 = .ok (.aload_n 0, 1) := by decide +kernel
theorem k_Main_count_115 : decode Y_Main_count.2.1 115 = .ok (.getfield 49, 3) := by decide +kernel
theorem k_Main_count_118 : decode Y_Main_count.2.1 118 = .ok (.invokevirtual 209, 3) := by decide +kernel
theorem k_Main_count_121 : decode Y_Main_count.2.1 121 = .ok (.ireturn, 1) := by decide +kernel
theorem k_Main_count_122 : decode Y_Main_count.2.1 122 = .ok (.aload_n 0, 1) := by decide +kernel
theorem k_Main_count_123 : decode Y_Main_count.2.1 123 = .ok (.getfield 40, 3) := by decide +kernel
theorem k_Main_count_126 : decode Y_Main_count.2.1 126 = .ok (.invokevirtual 63, 3) := by decide +kernel
theorem k_Main_count_129 : decode Y_Main_count.2.1 129 = .ok (.ireturn, 1) := by decide +kernel
theorem k_Main_count_130 : decode Y_Main_count.2.1 130 = .ok (.iload_n 1, 1) := by decide +kernel
theorem k_Main_count_131 : decode Y_Main_count.2.1 131 = .ok (.bipush 11, 2) := by decide +kernel
theorem k_Main_count_133 : decode Y_Main_count.2.1 133 = .ok (.if_icmp .lt 23, 3) := by decide +kernel
theorem k_Main_count_136 : decode Y_Main_count.2.1 136 = .ok (.iload_n 1, 1) := by decide +kernel
theorem k_Main_count_137 : decode Y_Main_count.2.1 137 = .ok (.bipush 16, 2) := by decide +kernel
theorem k_Main_count_139 : decode Y_Main_count.2.1 139 = .ok (.if_icmp .gt 17, 3) := by decide +kernel
theorem k_Main_count_142 : decode Y_Main_count.2.1 142 = .ok (.aload_n 0, 1) := by decide +kernel
theorem k_Main_count_143 : decode Y_Main_count.2.1 143 = .ok (.getfield 53, 3) := by decide +kernel
theorem k_Main_count_146 : decode Y_Main_count.2.1 146 = .ok (.iload_n 1, 1) := by decide +kernel
theorem k_Main_count_147 : decode Y_Main_count.2.1 147 = .ok (.bipush 11, 2) := by decide +kernel
theorem k_Main_count_149 : decode Y_Main_count.2.1 149 = .ok (.isub, 1) := by decide +kernel
theorem k_Main_count_150 : decode Y_Main_count.2.1 150 = .ok (.invokevirtual 230, 3) := by decide +kernel
theorem k_Main_count_153 : decode Y_Main_count.2.1 153 = .ok (.goto 5, 3) := by decide +kernel
theorem k_Main_count_156 : decode Y_Main_count.2.1 156 = .ok (.bipush (-9), 2) := by decide +kernel
theorem k_Main_count_158 : decode Y_Main_count.2.1 158 = .ok (.ireturn, 1) := by decide +kernel
theorem k_Main_outside_0 : decode Y_Main_outside.2.1 0 = .ok (.iload_n 0, 1) := by decide +kernel
theorem k_Main_outside_1 : decode Y_Main_outside.2.1 1 = .ok (.iload_n 1, 1) := by decide +kernel
theorem k_Main_outside_2 : decode Y_Main_outside.2.1 2 = .ok (.if_icmp .ge 8, 3) := by decide +kernel
theorem k_Main_outside_5 : decode Y_Main_outside.2.1 5 = .ok (.bipush (-4), 2) := by decide +kernel
theorem k_Main_outside_7 : decode Y_Main_outside.2.1 7 = .ok (.goto 14, 3) := by decide +kernel
theorem k_Main_outside_10 : decode Y_Main_outside.2.1 10 = .ok (.iload_n 0, 1) := by decide +kernel
theorem k_Main_outside_11 : decode Y_Main_outside.2.1 11 = .ok (.iload_n 2, 1) := by decide +kernel
theorem k_Main_outside_12 : decode Y_Main_outside.2.1 12 = .ok (.if_icmp .le 8, 3) := by decide +kernel
theorem k_Main_outside_15 : decode Y_Main_outside.2.1 15 = .ok (.bipush (-6), 2) := by decide +kernel
theorem k_Main_outside_17 : decode Y_Main_outside.2.1 17 = .ok (.goto 4, 3) := by decide +kernel
theorem k_Main_outside_20 : decode Y_Main_outside.2.1 20 = .ok (.iconst 0, 1) := by decide +kernel
theorem k_Main_outside_21 : decode Y_Main_outside.2.1 21 = .ok (.ireturn, 1) := by decide +kernel
theorem k_Main_soundsWell_0 : decode Y_Main_soundsWell.2.1 0 = .ok (.iload_n 0, 1) := by decide +kernel
theorem k_Main_soundsWell_1 : decode Y_Main_soundsWell.2.1 1 = .ok (.iload_n 1, 1) := by decide +kernel
theorem k_Main_soundsWell_2 : decode Y_Main_soundsWell.2.1 2 = .ok (.invokestatic 233, 3) := by decide +kernel
theorem k_Main_soundsWell_5 : decode Y_Main_soundsWell.2.1 5 = .ok (.bipush 7, 2) := by decide +kernel
theorem k_Main_soundsWell_7 : decode Y_Main_soundsWell.2.1 7 = .ok (.irem, 1) := by decide +kernel
theorem k_Main_soundsWell_8 : decode Y_Main_soundsWell.2.1 8 = .ok (.ishr, 1) := by decide +kernel
theorem k_Main_soundsWell_9 : decode Y_Main_soundsWell.2.1 9 = .ok (.iconst 1, 1) := by decide +kernel
theorem k_Main_soundsWell_10 : decode Y_Main_soundsWell.2.1 10 = .ok (.iand, 1) := by decide +kernel
theorem k_Main_soundsWell_11 : decode Y_Main_soundsWell.2.1 11 = .ok (.iconst 1, 1) := by decide +kernel
theorem k_Main_soundsWell_12 : decode Y_Main_soundsWell.2.1 12 = .ok (.if_icmp .ne 7, 3) := by decide +kernel
theorem k_Main_soundsWell_15 : decode Y_Main_soundsWell.2.1 15 = .ok (.iconst 1, 1) := by decide +kernel
theorem k_Main_soundsWell_16 : decode Y_Main_soundsWell.2.1 16 = .ok (.goto 4, 3) := by decide +kernel
theorem k_Main_soundsWell_19 : decode Y_Main_soundsWell.2.1 19 = .ok (.iconst 0, 1) := by decide +kernel
theorem k_Main_soundsWell_20 : decode Y_Main_soundsWell.2.1 20 = .ok (.ireturn, 1) := by decide +kernel
theorem k_Main_refuse_0 : decode Y_Main_refuse.2.1 0 = .ok (.iconst (-1), 1) := by decide +kernel
theorem k_Main_refuse_1 : decode Y_Main_refuse.2.1 1 = .ok (.iload_n 1, 1) := by decide +kernel
theorem k_Main_refuse_2 : decode Y_Main_refuse.2.1 2 = .ok (.isub, 1) := by decide +kernel
theorem k_Main_refuse_3 : decode Y_Main_refuse.2.1 3 = .ok (.istore_n 2, 1) := by decide +kernel
theorem k_Main_refuse_4 : decode Y_Main_refuse.2.1 4 = .ok (.aload_n 0, 1) := by decide +kernel
theorem k_Main_refuse_5 : decode Y_Main_refuse.2.1 5 = .ok (.getfield 53, 3) := by decide +kernel
theorem k_Main_refuse_8 : decode Y_Main_refuse.2.1 8 = .ok (.iload_n 2, 1) := by decide +kernel
theorem k_Main_refuse_9 : decode Y_Main_refuse.2.1 9 = .ok (.aload_n 0, 1) := by decide +kernel
theorem k_Main_refuse_10 : decode Y_Main_refuse.2.1 10 = .ok (.getfield 53, 3) := by decide +kernel
theorem k_Main_refuse_13 : decode Y_Main_refuse.2.1 13 = .ok (.iload_n 2, 1) := by decide +kernel
theorem k_Main_refuse_14 : decode Y_Main_refuse.2.1 14 = .ok (.invokevirtual 230, 3) := by decide +kernel
theorem k_Main_refuse_17 : decode Y_Main_refuse.2.1 17 = .ok (.iconst 1, 1) := by decide +kernel
theorem k_Main_refuse_18 : decode Y_Main_refuse.2.1 18 = .ok (.iadd, 1) := by decide +kernel
theorem k_Main_refuse_19 : decode Y_Main_refuse.2.1 19 = .ok (.invokevirtual 236, 3) := by decide +kernel
theorem k_Main_refuse_22 : decode Y_Main_refuse.2.1 22 = .ok (.iload_n 1, 1) := by decide +kernel
theorem k_Main_refuse_23 : decode Y_Main_refuse.2.1 23 = .ok (.ireturn, 1) := by decide +kernel
theorem k_Model_no_0 : decode Y_Model_no.2.1 0 = .ok (.aload_n 0, 1) := by decide +kernel
theorem k_Model_no_1 : decode Y_Model_no.2.1 1 = .ok (.getfield 1, 3) := by decide +kernel
theorem k_Model_no_4 : decode Y_Model_no.2.1 4 = .ok (.iload_n 1, 1) := by decide +kernel
theorem k_Model_no_5 : decode Y_Model_no.2.1 5 = .ok (.ineg, 1) := by decide +kernel
theorem k_Model_no_6 : decode Y_Model_no.2.1 6 = .ok (.dup2, 1) := by decide +kernel
theorem k_Model_no_7 : decode Y_Model_no.2.1 7 = .ok (.iaload, 1) := by decide +kernel
theorem k_Model_no_8 : decode Y_Model_no.2.1 8 = .ok (.iconst 1, 1) := by decide +kernel
theorem k_Model_no_9 : decode Y_Model_no.2.1 9 = .ok (.iadd, 1) := by decide +kernel
theorem k_Model_no_10 : decode Y_Model_no.2.1 10 = .ok (.iastore, 1) := by decide +kernel
theorem k_Model_no_11 : decode Y_Model_no.2.1 11 = .ok (.iload_n 1, 1) := by decide +kernel
theorem k_Model_no_12 : decode Y_Model_no.2.1 12 = .ok (.ireturn, 1) := by decide +kernel
theorem k_Model_init_0 : decode Y_Model_init.2.1 0 = .ok (.aload_n 0, 1) := by decide +kernel
theorem k_Model_init_1 : decode Y_Model_init.2.1 1 = .ok (.invokespecial 7, 3) := by decide +kernel
theorem k_Model_init_4 : decode Y_Model_init.2.1 4 = .ok (.aload_n 0, 1) := by decide +kernel
theorem k_Model_init_5 : decode Y_Model_init.2.1 5 = .ok (.bipush 7, 2) := by decide +kernel
theorem k_Model_init_7 : decode Y_Model_init.2.1 7 = .ok (.newarray .int, 2) := by decide +kernel
theorem k_Model_init_9 : decode Y_Model_init.2.1 9 = .ok (.putfield 1, 3) := by decide +kernel
theorem k_Model_init_12 : decode Y_Model_init.2.1 12 = .ok (.aload_n 0, 1) := by decide +kernel
theorem k_Model_init_13 : decode Y_Model_init.2.1 13 = .ok (.bipush 80, 2) := by decide +kernel
theorem k_Model_init_15 : decode Y_Model_init.2.1 15 = .ok (.newarray .int, 2) := by decide +kernel
theorem k_Model_init_17 : decode Y_Model_init.2.1 17 = .ok (.putfield 13, 3) := by decide +kernel
theorem k_Model_init_20 : decode Y_Model_init.2.1 20 = .ok (.aload_n 0, 1) := by decide +kernel
theorem k_Model_init_21 : decode Y_Model_init.2.1 21 = .ok (.bipush 80, 2) := by decide +kernel
theorem k_Model_init_23 : decode Y_Model_init.2.1 23 = .ok (.newarray .int, 2) := by decide +kernel
theorem k_Model_init_25 : decode Y_Model_init.2.1 25 = .ok (.putfield 16, 3) := by decide +kernel
theorem k_Model_init_28 : decode Y_Model_init.2.1 28 = .ok (.aload_n 0, 1) := by decide +kernel
theorem k_Model_init_29 : decode Y_Model_init.2.1 29 = .ok (.bipush 80, 2) := by decide +kernel
theorem k_Model_init_31 : decode Y_Model_init.2.1 31 = .ok (.newarray .int, 2) := by decide +kernel
theorem k_Model_init_33 : decode Y_Model_init.2.1 33 = .ok (.putfield 19, 3) := by decide +kernel
theorem k_Model_init_36 : decode Y_Model_init.2.1 36 = .ok (.aload_n 0, 1) := by decide +kernel
theorem k_Model_init_37 : decode Y_Model_init.2.1 37 = .ok (.bipush 80, 2) := by decide +kernel
theorem k_Model_init_39 : decode Y_Model_init.2.1 39 = .ok (.newarray .int, 2) := by decide +kernel
theorem k_Model_init_41 : decode Y_Model_init.2.1 41 = .ok (.putfield 22, 3) := by decide +kernel
theorem k_Model_init_44 : decode Y_Model_init.2.1 44 = .ok (.aload_n 0, 1) := by decide +kernel
theorem k_Model_init_45 : decode Y_Model_init.2.1 45 = .ok (.iconst 4, 1) := by decide +kernel
theorem k_Model_init_46 : decode Y_Model_init.2.1 46 = .ok (.newarray .char, 2) := by decide +kernel
theorem k_Model_init_48 : decode Y_Model_init.2.1 48 = .ok (.dup, 1) := by decide +kernel
theorem k_Model_init_49 : decode Y_Model_init.2.1 49 = .ok (.iconst 0, 1) := by decide +kernel
theorem k_Model_init_50 : decode Y_Model_init.2.1 50 = .ok (.bipush 110, 2) := by decide +kernel
theorem k_Model_init_52 : decode Y_Model_init.2.1 52 = .ok (.castore, 1) := by decide +kernel
theorem k_Model_init_53 : decode Y_Model_init.2.1 53 = .ok (.dup, 1) := by decide +kernel
theorem k_Model_init_54 : decode Y_Model_init.2.1 54 = .ok (.iconst 1, 1) := by decide +kernel
theorem k_Model_init_55 : decode Y_Model_init.2.1 55 = .ok (.bipush 118, 2) := by decide +kernel
theorem k_Model_init_57 : decode Y_Model_init.2.1 57 = .ok (.castore, 1) := by decide +kernel
theorem k_Model_init_58 : decode Y_Model_init.2.1 58 = .ok (.dup, 1) := by decide +kernel
theorem k_Model_init_59 : decode Y_Model_init.2.1 59 = .ok (.iconst 2, 1) := by decide +kernel
theorem k_Model_init_60 : decode Y_Model_init.2.1 60 = .ok (.bipush 114, 2) := by decide +kernel
theorem k_Model_init_62 : decode Y_Model_init.2.1 62 = .ok (.castore, 1) := by decide +kernel
theorem k_Model_init_63 : decode Y_Model_init.2.1 63 = .ok (.dup, 1) := by decide +kernel
theorem k_Model_init_64 : decode Y_Model_init.2.1 64 = .ok (.iconst 3, 1) := by decide +kernel
theorem k_Model_init_65 : decode Y_Model_init.2.1 65 = .ok (.bipush 119, 2) := by decide +kernel
theorem k_Model_init_67 : decode Y_Model_init.2.1 67 = .ok (.castore, 1) := by decide +kernel
theorem k_Model_init_68 : decode Y_Model_init.2.1 68 = .ok (.putfield 25, 3) := by decide +kernel
theorem k_Model_init_71 : decode Y_Model_init.2.1 71 = .ok (.aload_n 0, 1) := by decide +kernel
theorem k_Model_init_72 : decode Y_Model_init.2.1 72 = .ok (.bipush 6, 2) := by decide +kernel
theorem k_Model_init_74 : decode Y_Model_init.2.1 74 = .ok (.newarray .char, 2) := by decide +kernel
theorem k_Model_init_76 : decode Y_Model_init.2.1 76 = .ok (.dup, 1) := by decide +kernel
theorem k_Model_init_77 : decode Y_Model_init.2.1 77 = .ok (.iconst 0, 1) := by decide +kernel
theorem k_Model_init_78 : decode Y_Model_init.2.1 78 = .ok (.bipush 118, 2) := by decide +kernel
theorem k_Model_init_80 : decode Y_Model_init.2.1 80 = .ok (.castore, 1) := by decide +kernel
theorem k_Model_init_81 : decode Y_Model_init.2.1 81 = .ok (.dup, 1) := by decide +kernel
theorem k_Model_init_82 : decode Y_Model_init.2.1 82 = .ok (.iconst 1, 1) := by decide +kernel
theorem k_Model_init_83 : decode Y_Model_init.2.1 83 = .ok (.bipush 98, 2) := by decide +kernel
theorem k_Model_init_85 : decode Y_Model_init.2.1 85 = .ok (.castore, 1) := by decide +kernel
theorem k_Model_init_86 : decode Y_Model_init.2.1 86 = .ok (.dup, 1) := by decide +kernel
theorem k_Model_init_87 : decode Y_Model_init.2.1 87 = .ok (.iconst 2, 1) := by decide +kernel
theorem k_Model_init_88 : decode Y_Model_init.2.1 88 = .ok (.bipush 116, 2) := by decide +kernel
theorem k_Model_init_90 : decode Y_Model_init.2.1 90 = .ok (.castore, 1) := by decide +kernel
theorem k_Model_init_91 : decode Y_Model_init.2.1 91 = .ok (.dup, 1) := by decide +kernel
theorem k_Model_init_92 : decode Y_Model_init.2.1 92 = .ok (.iconst 3, 1) := by decide +kernel
theorem k_Model_init_93 : decode Y_Model_init.2.1 93 = .ok (.bipush 115, 2) := by decide +kernel
theorem k_Model_init_95 : decode Y_Model_init.2.1 95 = .ok (.castore, 1) := by decide +kernel
theorem k_Model_init_96 : decode Y_Model_init.2.1 96 = .ok (.dup, 1) := by decide +kernel
theorem k_Model_init_97 : decode Y_Model_init.2.1 97 = .ok (.iconst 4, 1) := by decide +kernel
theorem k_Model_init_98 : decode Y_Model_init.2.1 98 = .ok (.bipush 102, 2) := by decide +kernel
theorem k_Model_init_100 : decode Y_Model_init.2.1 100 = .ok (.castore, 1) := by decide +kernel
theorem k_Model_init_101 : decode Y_Model_init.2.1 101 = .ok (.dup, 1) := by decide +kernel
theorem k_Model_init_102 : decode Y_Model_init.2.1 102 = .ok (.iconst 5, 1) := by decide +kernel
theorem k_Model_init_103 : decode Y_Model_init.2.1 103 = .ok (.bipush 120, 2) := by decide +kernel
theorem k_Model_init_105 : decode Y_Model_init.2.1 105 = .ok (.castore, 1) := by decide +kernel
theorem k_Model_init_106 : decode Y_Model_init.2.1 106 = .ok (.putfield 29, 3) := by decide +kernel
theorem k_Model_init_109 : decode Y_Model_init.2.1 109 = .ok (.aload_n 0, 1) := by decide +kernel
theorem k_Model_init_110 : decode Y_Model_init.2.1 110 = .ok (.iconst 3, 1) := by decide +kernel
theorem k_Model_init_111 : decode Y_Model_init.2.1 111 = .ok (.newarray .int, 2) := by decide +kernel
theorem k_Model_init_113 : decode Y_Model_init.2.1 113 = .ok (.putfield 32, 3) := by decide +kernel
theorem k_Model_init_116 : decode Y_Model_init.2.1 116 = .ok (.aload_n 0, 1) := by decide +kernel
theorem k_Model_init_117 : decode Y_Model_init.2.1 117 = .ok (.bipush 6, 2) := by decide +kernel
theorem k_Model_init_119 : decode Y_Model_init.2.1 119 = .ok (.newarray .int, 2) := by decide +kernel
theorem k_Model_init_121 : decode Y_Model_init.2.1 121 = .ok (.putfield 35, 3) := by decide +kernel
theorem k_Model_init_124 : decode Y_Model_init.2.1 124 = .ok (.aload_n 0, 1) := by decide +kernel
theorem k_Model_init_125 : decode Y_Model_init.2.1 125 = .ok (.bipush 12, 2) := by decide +kernel
theorem k_Model_init_127 : decode Y_Model_init.2.1 127 = .ok (.newarray .int, 2) := by decide +kernel
theorem k_Model_init_129 : decode Y_Model_init.2.1 129 = .ok (.putfield 38, 3) := by decide +kernel
theorem k_Model_init_132 : decode Y_Model_init.2.1 132 = .ok (.aload_n 0, 1) := by decide +kernel
theorem k_Model_init_133 : decode Y_Model_init.2.1 133 = .ok (.getfield 13, 3) := by decide +kernel
theorem k_Model_init_136 : decode Y_Model_init.2.1 136 = .ok (.iconst 2, 1) := by decide +kernel
theorem k_Model_init_137 : decode Y_Model_init.2.1 137 = .ok (.iconst 1, 1) := by decide +kernel
theorem k_Model_init_138 : decode Y_Model_init.2.1 138 = .ok (.iastore, 1) := by decide +kernel
theorem k_Model_init_139 : decode Y_Model_init.2.1 139 = .ok (.aload_n 0, 1) := by decide +kernel
theorem k_Model_init_140 : decode Y_Model_init.2.1 140 = .ok (.getfield 13, 3) := by decide +kernel
theorem k_Model_init_143 : decode Y_Model_init.2.1 143 = .ok (.iconst 4, 1) := by decide +kernel
theorem k_Model_init_144 : decode Y_Model_init.2.1 144 = .ok (.bipush 53, 2) := by decide +kernel
theorem k_Model_init_146 : decode Y_Model_init.2.1 146 = .ok (.iastore, 1) := by decide +kernel
theorem k_Model_init_147 : decode Y_Model_init.2.1 147 = .ok (.return_, 1) := by decide +kernel
theorem k_Model_move_0 : decode Y_Model_move.2.1 0 = .ok (.iconst 0, 1) := by decide +kernel
theorem k_Model_move_1 : decode Y_Model_move.2.1 1 = .ok (.istore_n 2, 1) := by decide +kernel
theorem k_Model_move_2 : decode Y_Model_move.2.1 2 = .ok (.iload_n 2, 1) := by decide +kernel
theorem k_Model_move_3 : decode Y_Model_move.2.1 3 = .ok (.bipush 80, 2) := by decide +kernel
theorem k_Model_move_5 : decode Y_Model_move.2.1 5 = .ok (.if_icmp .ge 15, 3) := by decide +kernel
theorem k_Model_move_8 : decode Y_Model_move.2.1 8 = .ok (.aload_n 1, 1) := by decide +kernel
theorem k_Model_move_9 : decode Y_Model_move.2.1 9 = .ok (.iload_n 2, 1) := by decide +kernel
theorem k_Model_move_10 : decode Y_Model_move.2.1 10 = .ok (.aload_n 0, 1) := by decide +kernel
theorem k_Model_move_11 : decode Y_Model_move.2.1 11 = .ok (.iload_n 2, 1) := by decide +kernel
theorem k_Model_move_12 : decode Y_Model_move.2.1 12 = .ok (.iaload, 1) := by decide +kernel
theorem k_Model_move_13 : decode Y_Model_move.2.1 13 = .ok (.iastore, 1) := by decide +kernel
theorem k_Model_move_14 : decode Y_Model_move.2.1 14 = .ok (.iinc 2 1, 3) := by decide +kernel
theorem k_Model_move_17 : decode Y_Model_move.2.1 17 = .ok (.goto (-15), 3) := by decide +kernel
theorem k_Model_move_20 : decode Y_Model_move.2.1 20 = .ok (.return_, 1) := by decide +kernel
theorem k_Model_image_0 : decode Y_Model_image.2.1 0 = .ok (.aload_n 0, 1) := by decide +kernel
theorem k_Model_image_1 : decode Y_Model_image.2.1 1 = .ok (.iconst 1, 1) := by decide +kernel
theorem k_Model_image_2 : decode Y_Model_image.2.1 2 = .ok (.putfield 41, 3) := by decide +kernel
theorem k_Model_image_5 : decode Y_Model_image.2.1 5 = .ok (.aload_n 0, 1) := by decide +kernel
theorem k_Model_image_6 : decode Y_Model_image.2.1 6 = .ok (.getfield 13, 3) := by decide +kernel
theorem k_Model_image_9 : decode Y_Model_image.2.1 9 = .ok (.aload_n 0, 1) := by decide +kernel
theorem k_Model_image_10 : decode Y_Model_image.2.1 10 = .ok (.getfield 16, 3) := by decide +kernel
theorem k_Model_image_13 : decode Y_Model_image.2.1 13 = .ok (.invokestatic 45, 3) := by decide +kernel
theorem k_Model_image_16 : decode Y_Model_image.2.1 16 = .ok (.aload_n 0, 1) := by decide +kernel
theorem k_Model_image_17 : decode Y_Model_image.2.1 17 = .ok (.getfield 13, 3) := by decide +kernel
theorem k_Model_image_20 : decode Y_Model_image.2.1 20 = .ok (.iconst 0, 1) := by decide +kernel
theorem k_Model_image_21 : decode Y_Model_image.2.1 21 = .ok (.iaload, 1) := by decide +kernel
theorem k_Model_image_22 : decode Y_Model_image.2.1 22 = .ok (.ireturn, 1) := by decide +kernel
theorem k_Model_on_0 : decode Y_Model_on.2.1 0 = .ok (.aload_n 0, 1) := by decide +kernel
theorem k_Model_on_1 : decode Y_Model_on.2.1 1 = .ok (.getfield 41, 3) := by decide +kernel
theorem k_Model_on_4 : decode Y_Model_on.2.1 4 = .ok (.ifCond .ne 10, 3) := by decide +kernel
theorem k_Model_on_7 : decode Y_Model_on.2.1 7 = .ok (.aload_n 0, 1) := by decide +kernel
theorem k_Model_on_8 : decode Y_Model_on.2.1 8 = .ok (.bipush (-3), 2) := by decide +kernel
theorem k_Model_on_10 : decode Y_Model_on.2.1 10 = .ok (.invokevirtual 49, 3) := by decide +kernel
theorem k_Model_on_13 : decode Y_Model_on.2.1 13 = .ok (.ireturn, 1) := by decide +kernel
theorem k_Model_on_14 : decode Y_Model_on.2.1 14 = .ok (.aload_n 0, 1) := by decide +kernel
theorem k_Model_on_15 : decode Y_Model_on.2.1 15 = .ok (.getfield 16, 3) := by decide +kernel
theorem k_Model_on_18 : decode Y_Model_on.2.1 18 = .ok (.aload_n 0, 1) := by decide +kernel
theorem k_Model_on_19 : decode Y_Model_on.2.1 19 = .ok (.getfield 13, 3) := by decide +kernel
theorem k_Model_on_22 : decode Y_Model_on.2.1 22 = .ok (.invokestatic 45, 3) := by decide +kernel
theorem k_Model_on_25 : decode Y_Model_on.2.1 25 = .ok (.aload_n 0, 1) := by decide +kernel
theorem k_Model_on_26 : decode Y_Model_on.2.1 26 = .ok (.getfield 13, 3) := by decide +kernel
theorem k_Model_on_29 : decode Y_Model_on.2.1 29 = .ok (.iconst 0, 1) := by decide +kernel
theorem k_Model_on_30 : decode Y_Model_on.2.1 30 = .ok (.iaload, 1) := by decide +kernel
theorem k_Model_on_31 : decode Y_Model_on.2.1 31 = .ok (.ireturn, 1) := by decide +kernel
theorem k_Model_letter_0 : decode Y_Model_letter.2.1 0 = .ok (.iload_n 1, 1) := by decide +kernel
theorem k_Model_letter_1 : decode Y_Model_letter.2.1 1 = .ok (.ifCond .ge 10, 3) := by decide +kernel
theorem k_Model_letter_4 : decode Y_Model_letter.2.1 4 = .ok (.aload_n 0, 1) := by decide +kernel
theorem k_Model_letter_5 : decode Y_Model_letter.2.1 5 = .ok (.bipush (-4), 2) := by decide +kernel
theorem k_Model_letter_7 : decode Y_Model_letter.2.1 7 = .ok (.invokevirtual 49, 3) := by decide +kernel
theorem k_Model_letter_10 : decode Y_Model_letter.2.1 10 = .ok (.ireturn, 1) := by decide +kernel
theorem k_Model_letter_11 : decode Y_Model_letter.2.1 11 = .ok (.iload_n 1, 1) := by decide +kernel
theorem k_Model_letter_12 : decode Y_Model_letter.2.1 12 = .ok (.sipush 255, 3) := by decide +kernel
theorem k_Model_letter_15 : decode Y_Model_letter.2.1 15 = .ok (.if_icmp .gt 12, 3) := by decide +kernel
theorem k_Model_letter_18 : decode Y_Model_letter.2.1 18 = .ok (.aload_n 0, 1) := by decide +kernel
theorem k_Model_letter_19 : decode Y_Model_letter.2.1 19 = .ok (.getfield 53, 3) := by decide +kernel
theorem k_Model_letter_22 : decode Y_Model_letter.2.1 22 = .ok (.bipush 80, 2) := by decide +kernel
theorem k_Model_letter_24 : decode Y_Model_letter.2.1 24 = .ok (.if_icmp .ne 10, 3) := by decide +kernel
theorem k_Model_letter_27 : decode Y_Model_letter.2.1 27 = .ok (.aload_n 0, 1) := by decide +kernel
theorem k_Model_letter_28 : decode Y_Model_letter.2.1 28 = .ok (.bipush (-6), 2) := by decide +kernel
theorem k_Model_letter_30 : decode Y_Model_letter.2.1 30 = .ok (.invokevirtual 49, 3) := by decide +kernel
theorem k_Model_letter_33 : decode Y_Model_letter.2.1 33 = .ok (.ireturn, 1) := by decide +kernel
theorem k_Model_letter_34 : decode Y_Model_letter.2.1 34 = .ok (.aload_n 0, 1) := by decide +kernel
theorem k_Model_letter_35 : decode Y_Model_letter.2.1 35 = .ok (.getfield 22, 3) := by decide +kernel
theorem k_Model_letter_38 : decode Y_Model_letter.2.1 38 = .ok (.aload_n 0, 1) := by decide +kernel
theorem k_Model_letter_39 : decode Y_Model_letter.2.1 39 = .ok (.getfield 53, 3) := by decide +kernel
theorem k_Model_letter_42 : decode Y_Model_letter.2.1 42 = .ok (.iload_n 1, 1) := by decide +kernel
theorem k_Model_letter_43 : decode Y_Model_letter.2.1 43 = .ok (.iastore, 1) := by decide +kernel
theorem k_Model_letter_44 : decode Y_Model_letter.2.1 44 = .ok (.aload_n 0, 1) := by decide +kernel
theorem k_Model_letter_45 : decode Y_Model_letter.2.1 45 = .ok (.dup, 1) := by decide +kernel
theorem k_Model_letter_46 : decode Y_Model_letter.2.1 46 = .ok (.getfield 53, 3) := by decide +kernel
theorem k_Model_letter_49 : decode Y_Model_letter.2.1 49 = .ok (.iconst 1, 1) := by decide +kernel
theorem k_Model_letter_50 : decode Y_Model_letter.2.1 50 = .ok (.iadd, 1) := by decide +kernel
theorem k_Model_letter_51 : decode Y_Model_letter.2.1 51 = .ok (.putfield 53, 3) := by decide +kernel
theorem k_Model_letter_54 : decode Y_Model_letter.2.1 54 = .ok (.aload_n 0, 1) := by decide +kernel
theorem k_Model_letter_55 : decode Y_Model_letter.2.1 55 = .ok (.getfield 53, 3) := by decide +kernel
theorem k_Model_letter_58 : decode Y_Model_letter.2.1 58 = .ok (.ireturn, 1) := by decide +kernel
theorem k_Model_expect_0 : decode Y_Model_expect.2.1 0 = .ok (.aload_n 0, 1) := by decide +kernel
theorem k_Model_expect_1 : decode Y_Model_expect.2.1 1 = .ok (.getfield 57, 3) := by decide +kernel
theorem k_Model_expect_4 : decode Y_Model_expect.2.1 4 = .ok (.ifCond .eq 40, 3) := by decide +kernel
theorem k_Model_expect_7 : decode Y_Model_expect.2.1 7 = .ok (.aload_n 0, 1) := by decide +kernel
theorem k_Model_expect_8 : decode Y_Model_expect.2.1 8 = .ok (.getfield 60, 3) := by decide +kernel
theorem k_Model_expect_11 : decode Y_Model_expect.2.1 11 = .ok (.aload_n 0, 1) := by decide +kernel
theorem k_Model_expect_12 : decode Y_Model_expect.2.1 12 = .ok (.getfield 53, 3) := by decide +kernel
theorem k_Model_expect_15 : decode Y_Model_expect.2.1 15 = .ok (.if_icmp .ge 29, 3) := by decide +kernel
theorem k_Model_expect_18 : decode Y_Model_expect.2.1 18 = .ok (.aload_n 0, 1) := by decide +kernel
theorem k_Model_expect_19 : decode Y_Model_expect.2.1 19 = .ok (.getfield 22, 3) := by decide +kernel
theorem k_Model_expect_22 : decode Y_Model_expect.2.1 22 = .ok (.aload_n 0, 1) := by decide +kernel
theorem k_Model_expect_23 : decode Y_Model_expect.2.1 23 = .ok (.getfield 60, 3) := by decide +kernel
theorem k_Model_expect_26 : decode Y_Model_expect.2.1 26 = .ok (.iaload, 1) := by decide +kernel
theorem k_Model_expect_27 : decode Y_Model_expect.2.1 27 = .ok (.iload_n 1, 1) := by decide +kernel
theorem k_Model_expect_28 : decode Y_Model_expect.2.1 28 = .ok (.if_icmp .ne 16, 3) := by decide +kernel
theorem k_Model_expect_31 : decode Y_Model_expect.2.1 31 = .ok (.aload_n 0, 1) := by decide +kernel
theorem k_Model_expect_32 : decode Y_Model_expect.2.1 32 = .ok (.dup, 1) := by decide +kernel
theorem k_Model_expect_33 : decode Y_Model_expect.2.1 33 = .ok (.getfield 60, 3) := by decide +kernel
theorem k_Model_expect_36 : decode Y_Model_expect.2.1 36 = .ok (.iconst 1, 1) := by decide +kernel
theorem k_Model_expect_37 : decode Y_Model_expect.2.1 37 = .ok (.iadd, 1) := by decide +kernel
theorem k_Model_expect_38 : decode Y_Model_expect.2.1 38 = .ok (.putfield 60, 3) := by decide +kernel
theorem k_Model_expect_41 : decode Y_Model_expect.2.1 41 = .ok (.goto 8, 3) := by decide +kernel
theorem k_Model_expect_44 : decode Y_Model_expect.2.1 44 = .ok (.aload_n 0, 1) := by decide +kernel
theorem k_Model_expect_45 : decode Y_Model_expect.2.1 45 = .ok (.iconst 0, 1) := by decide +kernel
theorem k_Model_expect_46 : decode Y_Model_expect.2.1 46 = .ok (.putfield 57, 3) := by decide +kernel
theorem k_Model_expect_49 : decode Y_Model_expect.2.1 49 = .ok (.return_, 1) := by decide +kernel
theorem k_Model_oneOf_0 : decode Y_Model_oneOf.2.1 0 = .ok (.iconst (-1), 1) := by decide +kernel
theorem k_Model_oneOf_1 : decode Y_Model_oneOf.2.1 1 = .ok (.istore_n 2, 1) := by decide +kernel
theorem k_Model_oneOf_2 : decode Y_Model_oneOf.2.1 2 = .ok (.iconst 0, 1) := by decide +kernel
theorem k_Model_oneOf_3 : decode Y_Model_oneOf.2.1 3 = .ok (.istore_n 3, 1) := by decide +kernel
theorem k_Model_oneOf_4 : decode Y_Model_oneOf.2.1 4 = .ok (.iload_n 3, 1) := by decide +kernel
theorem k_Model_oneOf_5 : decode Y_Model_oneOf.2.1 5 = .ok (.aload_n 1, 1) := by decide +kernel
theorem k_Model_oneOf_6 : decode Y_Model_oneOf.2.1 6 = .ok (.arraylength, 1) := by decide +kernel
theorem k_Model_oneOf_7 : decode Y_Model_oneOf.2.1 7 = .ok (.if_icmp .ge 48, 3) := by decide +kernel
theorem k_Model_oneOf_10 : decode Y_Model_oneOf.2.1 10 = .ok (.aload_n 0, 1) := by decide +kernel
theorem k_Model_oneOf_11 : decode Y_Model_oneOf.2.1 11 = .ok (.getfield 57, 3) := by decide +kernel
theorem k_Model_oneOf_14 : decode Y_Model_oneOf.2.1 14 = .ok (.ifCond .eq 41, 3) := by decide +kernel
theorem k_Model_oneOf_17 : decode Y_Model_oneOf.2.1 17 = .ok (.iload_n 2, 1) := by decide +kernel
theorem k_Model_oneOf_18 : decode Y_Model_oneOf.2.1 18 = .ok (.ifCond .ge 37, 3) := by decide +kernel
theorem k_Model_oneOf_21 : decode Y_Model_oneOf.2.1 21 = .ok (.aload_n 0, 1) := by decide +kernel
theorem k_Model_oneOf_22 : decode Y_Model_oneOf.2.1 22 = .ok (.getfield 60, 3) := by decide +kernel
theorem k_Model_oneOf_25 : decode Y_Model_oneOf.2.1 25 = .ok (.aload_n 0, 1) := by decide +kernel
theorem k_Model_oneOf_26 : decode Y_Model_oneOf.2.1 26 = .ok (.getfield 53, 3) := by decide +kernel
theorem k_Model_oneOf_29 : decode Y_Model_oneOf.2.1 29 = .ok (.if_icmp .ge 20, 3) := by decide +kernel
theorem k_Model_oneOf_32 : decode Y_Model_oneOf.2.1 32 = .ok (.aload_n 0, 1) := by decide +kernel
theorem k_Model_oneOf_33 : decode Y_Model_oneOf.2.1 33 = .ok (.getfield 22, 3) := by decide +kernel
theorem k_Model_oneOf_36 : decode Y_Model_oneOf.2.1 36 = .ok (.aload_n 0, 1) := by decide +kernel
theorem k_Model_oneOf_37 : decode Y_Model_oneOf.2.1 37 = .ok (.getfield 60, 3) := by decide +kernel
theorem k_Model_oneOf_40 : decode Y_Model_oneOf.2.1 40 = .ok (.iaload, 1) := by decide +kernel
theorem k_Model_oneOf_41 : decode Y_Model_oneOf.2.1 41 = .ok (.aload_n 1, 1) := by decide +kernel
theorem k_Model_oneOf_42 : decode Y_Model_oneOf.2.1 42 = .ok (.iload_n 3, 1) := by decide +kernel
theorem k_Model_oneOf_43 : decode Y_Model_oneOf.2.1 43 = .ok (.caload, 1) := by decide +kernel
theorem k_Model_oneOf_44 : decode Y_Model_oneOf.2.1 44 = .ok (.if_icmp .ne 5, 3) := by decide +kernel
theorem k_Model_oneOf_47 : decode Y_Model_oneOf.2.1 47 = .ok (.iload_n 3, 1) := by decide +kernel
theorem k_Model_oneOf_48 : decode Y_Model_oneOf.2.1 48 = .ok (.istore_n 2, 1) := by decide +kernel
theorem k_Model_oneOf_49 : decode Y_Model_oneOf.2.1 49 = .ok (.iinc 3 1, 3) := by decide +kernel
theorem k_Model_oneOf_52 : decode Y_Model_oneOf.2.1 52 = .ok (.goto (-48), 3) := by decide +kernel
theorem k_Model_oneOf_55 : decode Y_Model_oneOf.2.1 55 = .ok (.iload_n 2, 1) := by decide +kernel
theorem k_Model_oneOf_56 : decode Y_Model_oneOf.2.1 56 = .ok (.ifCond .ge 10, 3) := by decide +kernel
theorem k_Model_oneOf_59 : decode Y_Model_oneOf.2.1 59 = .ok (.aload_n 0, 1) := by decide +kernel
theorem k_Model_oneOf_60 : decode Y_Model_oneOf.2.1 60 = .ok (.iconst 0, 1) := by decide +kernel
theorem k_Model_oneOf_61 : decode Y_Model_oneOf.2.1 61 = .ok (.putfield 57, 3) := by decide +kernel
theorem k_Model_oneOf_64 : decode Y_Model_oneOf.2.1 64 = .ok (.iconst 0, 1) := by decide +kernel
theorem k_Model_oneOf_65 : decode Y_Model_oneOf.2.1 65 = .ok (.ireturn, 1) := by decide +kernel
theorem k_Model_oneOf_66 : decode Y_Model_oneOf.2.1 66 = .ok (.aload_n 0, 1) := by decide +kernel
theorem k_Model_oneOf_67 : decode Y_Model_oneOf.2.1 67 = .ok (.dup, 1) := by decide +kernel
theorem k_Model_oneOf_68 : decode Y_Model_oneOf.2.1 68 = .ok (.getfield 60, 3) := by decide +kernel
theorem k_Model_oneOf_71 : decode Y_Model_oneOf.2.1 71 = .ok (.iconst 1, 1) := by decide +kernel
theorem k_Model_oneOf_72 : decode Y_Model_oneOf.2.1 72 = .ok (.iadd, 1) := by decide +kernel
theorem k_Model_oneOf_73 : decode Y_Model_oneOf.2.1 73 = .ok (.putfield 60, 3) := by decide +kernel
theorem k_Model_oneOf_76 : decode Y_Model_oneOf.2.1 76 = .ok (.iload_n 2, 1) := by decide +kernel
theorem k_Model_oneOf_77 : decode Y_Model_oneOf.2.1 77 = .ok (.ireturn, 1) := by decide +kernel
theorem k_Model_figures_0 : decode Y_Model_figures.2.1 0 = .ok (.iconst 0, 1) := by decide +kernel
theorem k_Model_figures_1 : decode Y_Model_figures.2.1 1 = .ok (.istore_n 2, 1) := by decide +kernel
theorem k_Model_figures_2 : decode Y_Model_figures.2.1 2 = .ok (.iconst 0, 1) := by decide +kernel
theorem k_Model_figures_3 : decode Y_Model_figures.2.1 3 = .ok (.istore_n 3, 1) := by decide +kernel
theorem k_Model_figures_4 : decode Y_Model_figures.2.1 4 = .ok (.aload_n 0, 1) := by decide +kernel
theorem k_Model_figures_5 : decode Y_Model_figures.2.1 5 = .ok (.getfield 57, 3) := by decide +kernel
theorem k_Model_figures_8 : decode Y_Model_figures.2.1 8 = .ok (.ifCond .eq 81, 3) := by decide +kernel
theorem k_Model_figures_11 : decode Y_Model_figures.2.1 11 = .ok (.iload_n 3, 1) := by decide +kernel
theorem k_Model_figures_12 : decode Y_Model_figures.2.1 12 = .ok (.iload_n 1, 1) := by decide +kernel
theorem k_Model_figures_13 : decode Y_Model_figures.2.1 13 = .ok (.if_icmp .ge 76, 3) := by decide +kernel
theorem k_Model_figures_16 : decode Y_Model_figures.2.1 16 = .ok (.aload_n 0, 1) := by decide +kernel
theorem k_Model_figures_17 : decode Y_Model_figures.2.1 17 = .ok (.getfield 60, 3) := by decide +kernel
theorem k_Model_figures_20 : decode Y_Model_figures.2.1 20 = .ok (.aload_n 0, 1) := by decide +kernel
theorem k_Model_figures_21 : decode Y_Model_figures.2.1 21 = .ok (.getfield 53, 3) := by decide +kernel
theorem k_Model_figures_24 : decode Y_Model_figures.2.1 24 = .ok (.if_icmp .ge 65, 3) := by decide +kernel
theorem k_Model_figures_27 : decode Y_Model_figures.2.1 27 = .ok (.aload_n 0, 1) := by decide +kernel
theorem k_Model_figures_28 : decode Y_Model_figures.2.1 28 = .ok (.getfield 22, 3) := by decide +kernel
theorem k_Model_figures_31 : decode Y_Model_figures.2.1 31 = .ok (.aload_n 0, 1) := by decide +kernel
theorem k_Model_figures_32 : decode Y_Model_figures.2.1 32 = .ok (.getfield 60, 3) := by decide +kernel
theorem k_Model_figures_35 : decode Y_Model_figures.2.1 35 = .ok (.iaload, 1) := by decide +kernel
theorem k_Model_figures_36 : decode Y_Model_figures.2.1 36 = .ok (.bipush 48, 2) := by decide +kernel
theorem k_Model_figures_38 : decode Y_Model_figures.2.1 38 = .ok (.if_icmp .lt 51, 3) := by decide +kernel
theorem k_Model_figures_41 : decode Y_Model_figures.2.1 41 = .ok (.aload_n 0, 1) := by decide +kernel
theorem k_Model_figures_42 : decode Y_Model_figures.2.1 42 = .ok (.getfield 22, 3) := by decide +kernel
theorem k_Model_figures_45 : decode Y_Model_figures.2.1 45 = .ok (.aload_n 0, 1) := by decide +kernel
theorem k_Model_figures_46 : decode Y_Model_figures.2.1 46 = .ok (.getfield 60, 3) := by decide +kernel
theorem k_Model_figures_49 : decode Y_Model_figures.2.1 49 = .ok (.iaload, 1) := by decide +kernel
theorem k_Model_figures_50 : decode Y_Model_figures.2.1 50 = .ok (.bipush 57, 2) := by decide +kernel
theorem k_Model_figures_52 : decode Y_Model_figures.2.1 52 = .ok (.if_icmp .gt 37, 3) := by decide +kernel
theorem k_Model_figures_55 : decode Y_Model_figures.2.1 55 = .ok (.bipush 10, 2) := by decide +kernel
theorem k_Model_figures_57 : decode Y_Model_figures.2.1 57 = .ok (.iload_n 2, 1) := by decide +kernel
theorem k_Model_figures_58 : decode Y_Model_figures.2.1 58 = .ok (.imul, 1) := by decide +kernel
theorem k_Model_figures_59 : decode Y_Model_figures.2.1 59 = .ok (.aload_n 0, 1) := by decide +kernel
theorem k_Model_figures_60 : decode Y_Model_figures.2.1 60 = .ok (.getfield 22, 3) := by decide +kernel
theorem k_Model_figures_63 : decode Y_Model_figures.2.1 63 = .ok (.aload_n 0, 1) := by decide +kernel
theorem k_Model_figures_64 : decode Y_Model_figures.2.1 64 = .ok (.getfield 60, 3) := by decide +kernel
theorem k_Model_figures_67 : decode Y_Model_figures.2.1 67 = .ok (.iaload, 1) := by decide +kernel
theorem k_Model_figures_68 : decode Y_Model_figures.2.1 68 = .ok (.iadd, 1) := by decide +kernel
theorem k_Model_figures_69 : decode Y_Model_figures.2.1 69 = .ok (.bipush 48, 2) := by decide +kernel
theorem k_Model_figures_71 : decode Y_Model_figures.2.1 71 = .ok (.isub, 1) := by decide +kernel
theorem k_Model_figures_72 : decode Y_Model_figures.2.1 72 = .ok (.istore_n 2, 1) := by decide +kernel
theorem k_Model_figures_73 : decode Y_Model_figures.2.1 73 = .ok (.aload_n 0, 1) := by decide +kernel
theorem k_Model_figures_74 : decode Y_Model_figures.2.1 74 = .ok (.dup, 1) := by decide +kernel
theorem k_Model_figures_75 : decode Y_Model_figures.2.1 75 = .ok (.getfield 60, 3) := by decide +kernel
theorem k_Model_figures_78 : decode Y_Model_figures.2.1 78 = .ok (.iconst 1, 1) := by decide +kernel
theorem k_Model_figures_79 : decode Y_Model_figures.2.1 79 = .ok (.iadd, 1) := by decide +kernel
theorem k_Model_figures_80 : decode Y_Model_figures.2.1 80 = .ok (.putfield 60, 3) := by decide +kernel
theorem k_Model_figures_83 : decode Y_Model_figures.2.1 83 = .ok (.iinc 3 1, 3) := by decide +kernel
theorem k_Model_figures_86 : decode Y_Model_figures.2.1 86 = .ok (.goto (-82), 3) := by decide +kernel
theorem k_Model_figures_89 : decode Y_Model_figures.2.1 89 = .ok (.iload_n 3, 1) := by decide +kernel
theorem k_Model_figures_90 : decode Y_Model_figures.2.1 90 = .ok (.ifCond .ne 8, 3) := by decide +kernel
theorem k_Model_figures_93 : decode Y_Model_figures.2.1 93 = .ok (.aload_n 0, 1) := by decide +kernel
theorem k_Model_figures_94 : decode Y_Model_figures.2.1 94 = .ok (.iconst 0, 1) := by decide +kernel
theorem k_Model_figures_95 : decode Y_Model_figures.2.1 95 = .ok (.putfield 57, 3) := by decide +kernel
theorem k_Model_figures_98 : decode Y_Model_figures.2.1 98 = .ok (.iload_n 2, 1) := by decide +kernel
theorem k_Model_figures_99 : decode Y_Model_figures.2.1 99 = .ok (.ireturn, 1) := by decide +kernel
theorem k_Model_statement_0 : decode Y_Model_statement.2.1 0 = .ok (.aload_n 0, 1) := by decide +kernel
theorem k_Model_statement_1 : decode Y_Model_statement.2.1 1 = .ok (.aload_n 0, 1) := by decide +kernel
theorem k_Model_statement_2 : decode Y_Model_statement.2.1 2 = .ok (.aload_n 0, 1) := by decide +kernel
theorem k_Model_statement_3 : decode Y_Model_statement.2.1 3 = .ok (.getfield 25, 3) := by decide +kernel
theorem k_Model_statement_6 : decode Y_Model_statement.2.1 6 = .ok (.invokevirtual 63, 3) := by decide +kernel
theorem k_Model_statement_9 : decode Y_Model_statement.2.1 9 = .ok (.putfield 67, 3) := by decide +kernel
theorem k_Model_statement_12 : decode Y_Model_statement.2.1 12 = .ok (.aload_n 0, 1) := by decide +kernel
theorem k_Model_statement_13 : decode Y_Model_statement.2.1 13 = .ok (.getfield 67, 3) := by decide +kernel
theorem k_Model_statement_16 : decode Y_Model_statement.2.1 16 = .ok (.iconst 1, 1) := by decide +kernel
theorem k_Model_statement_17 : decode Y_Model_statement.2.1 17 = .ok (.if_icmp .ne 48, 3) := by decide +kernel
theorem k_Model_statement_20 : decode Y_Model_statement.2.1 20 = .ok (.aload_n 0, 1) := by decide +kernel
theorem k_Model_statement_21 : decode Y_Model_statement.2.1 21 = .ok (.getfield 32, 3) := by decide +kernel
theorem k_Model_statement_24 : decode Y_Model_statement.2.1 24 = .ok (.iconst 0, 1) := by decide +kernel
theorem k_Model_statement_25 : decode Y_Model_statement.2.1 25 = .ok (.aload_n 0, 1) := by decide +kernel
theorem k_Model_statement_26 : decode Y_Model_statement.2.1 26 = .ok (.aload_n 0, 1) := by decide +kernel
theorem k_Model_statement_27 : decode Y_Model_statement.2.1 27 = .ok (.getfield 29, 3) := by decide +kernel
theorem k_Model_statement_30 : decode Y_Model_statement.2.1 30 = .ok (.invokevirtual 63, 3) := by decide +kernel
theorem k_Model_statement_33 : decode Y_Model_statement.2.1 33 = .ok (.iastore, 1) := by decide +kernel
theorem k_Model_statement_34 : decode Y_Model_statement.2.1 34 = .ok (.aload_n 0, 1) := by decide +kernel
theorem k_Model_statement_35 : decode Y_Model_statement.2.1 35 = .ok (.getfield 32, 3) := by decide +kernel
theorem k_Model_statement_38 : decode Y_Model_statement.2.1 38 = .ok (.iconst 1, 1) := by decide +kernel
theorem k_Model_statement_39 : decode Y_Model_statement.2.1 39 = .ok (.aload_n 0, 1) := by decide +kernel
theorem k_Model_statement_40 : decode Y_Model_statement.2.1 40 = .ok (.iconst 2, 1) := by decide +kernel
theorem k_Model_statement_41 : decode Y_Model_statement.2.1 41 = .ok (.invokevirtual 70, 3) := by decide +kernel
theorem k_Model_statement_44 : decode Y_Model_statement.2.1 44 = .ok (.iastore, 1) := by decide +kernel
theorem k_Model_statement_45 : decode Y_Model_statement.2.1 45 = .ok (.aload_n 0, 1) := by decide +kernel
theorem k_Model_statement_46 : decode Y_Model_statement.2.1 46 = .ok (.bipush 44, 2) := by decide +kernel
theorem k_Model_statement_48 : decode Y_Model_statement.2.1 48 = .ok (.invokevirtual 73, 3) := by decide +kernel
theorem k_Model_statement_51 : decode Y_Model_statement.2.1 51 = .ok (.aload_n 0, 1) := by decide +kernel
theorem k_Model_statement_52 : decode Y_Model_statement.2.1 52 = .ok (.getfield 32, 3) := by decide +kernel
theorem k_Model_statement_55 : decode Y_Model_statement.2.1 55 = .ok (.iconst 2, 1) := by decide +kernel
theorem k_Model_statement_56 : decode Y_Model_statement.2.1 56 = .ok (.aload_n 0, 1) := by decide +kernel
theorem k_Model_statement_57 : decode Y_Model_statement.2.1 57 = .ok (.iconst 1, 1) := by decide +kernel
theorem k_Model_statement_58 : decode Y_Model_statement.2.1 58 = .ok (.invokevirtual 70, 3) := by decide +kernel
theorem k_Model_statement_61 : decode Y_Model_statement.2.1 61 = .ok (.iastore, 1) := by decide +kernel
theorem k_Model_statement_62 : decode Y_Model_statement.2.1 62 = .ok (.goto 37, 3) := by decide +kernel
theorem k_Model_statement_65 : decode Y_Model_statement.2.1 65 = .ok (.aload_n 0, 1) := by decide +kernel
theorem k_Model_statement_66 : decode Y_Model_statement.2.1 66 = .ok (.getfield 32, 3) := by decide +kernel
theorem k_Model_statement_69 : decode Y_Model_statement.2.1 69 = .ok (.iconst 0, 1) := by decide +kernel
theorem k_Model_statement_70 : decode Y_Model_statement.2.1 70 = .ok (.aload_n 0, 1) := by decide +kernel
theorem k_Model_statement_71 : decode Y_Model_statement.2.1 71 = .ok (.iconst 1, 1) := by decide +kernel
theorem k_Model_statement_72 : decode Y_Model_statement.2.1 72 = .ok (.invokevirtual 70, 3) := by decide +kernel
theorem k_Model_statement_75 : decode Y_Model_statement.2.1 75 = .ok (.iastore, 1) := by decide +kernel
theorem k_Model_statement_76 : decode Y_Model_statement.2.1 76 = .ok (.aload_n 0, 1) := by decide +kernel
theorem k_Model_statement_77 : decode Y_Model_statement.2.1 77 = .ok (.getfield 32, 3) := by decide +kernel
theorem k_Model_statement_80 : decode Y_Model_statement.2.1 80 = .ok (.iconst 1, 1) := by decide +kernel
theorem k_Model_statement_81 : decode Y_Model_statement.2.1 81 = .ok (.aload_n 0, 1) := by decide +kernel
theorem k_Model_statement_82 : decode Y_Model_statement.2.1 82 = .ok (.getfield 67, 3) := by decide +kernel
theorem k_Model_statement_85 : decode Y_Model_statement.2.1 85 = .ok (.iconst 3, 1) := by decide +kernel
theorem k_Model_statement_86 : decode Y_Model_statement.2.1 86 = .ok (.if_icmp .ne 7, 3) := by decide +kernel
theorem k_Model_statement_89 : decode Y_Model_statement.2.1 89 = .ok (.iconst 0, 1) := by decide +kernel
theorem k_Model_statement_90 : decode Y_Model_statement.2.1 90 = .ok (.goto 8, 3) := by decide +kernel
theorem k_Model_statement_93 : decode Y_Model_statement.2.1 93 = .ok (.aload_n 0, 1) := by decide +kernel
theorem k_Model_statement_94 : decode Y_Model_statement.2.1 94 = .ok (.iconst 1, 1) := by decide +kernel
theorem k_Model_statement_95 : decode Y_Model_statement.2.1 95 = .ok (.invokevirtual 70, 3) := by decide +kernel
theorem k_Model_statement_98 : decode Y_Model_statement.2.1 98 = .ok (.iastore, 1) := by decide +kernel
theorem k_Model_statement_99 : decode Y_Model_statement.2.1 99 = .ok (.aload_n 0, 1) := by decide +kernel
theorem k_Model_statement_100 : decode Y_Model_statement.2.1 100 = .ok (.bipush 59, 2) := by decide +kernel
theorem k_Model_statement_102 : decode Y_Model_statement.2.1 102 = .ok (.invokevirtual 73, 3) := by decide +kernel
theorem k_Model_statement_105 : decode Y_Model_statement.2.1 105 = .ok (.return_, 1) := by decide +kernel
theorem k_Model_isAsItMustBe_0 : decode Y_Model_isAsItMustBe.2.1 0 = .ok (.aload_n 0, 1) := by decide +kernel
theorem k_Model_isAsItMustBe_1 : decode Y_Model_isAsItMustBe.2.1 1 = .ok (.getfield 67, 3) := by decide +kernel
theorem k_Model_isAsItMustBe_4 : decode Y_Model_isAsItMustBe.2.1 4 = .ok (.tableswitch 119 0 2 #[28, 60, 83], 28) := by decide +kernel
theorem k_Model_isAsItMustBe_32 : decode Y_Model_isAsItMustBe.2.1 32 = .ok (.aload_n 0, 1) := by decide +kernel
theorem k_Model_isAsItMustBe_33 : decode Y_Model_isAsItMustBe.2.1 33 = .ok (.getfield 32, 3) := by decide +kernel
theorem k_Model_isAsItMustBe_36 : decode Y_Model_isAsItMustBe.2.1 36 = .ok (.iconst 1, 1) := by decide +kernel
theorem k_Model_isAsItMustBe_37 : decode Y_Model_isAsItMustBe.2.1 37 = .ok (.iaload, 1) := by decide +kernel
theorem k_Model_isAsItMustBe_38 : decode Y_Model_isAsItMustBe.2.1 38 = .ok (.iconst 1, 1) := by decide +kernel
theorem k_Model_isAsItMustBe_39 : decode Y_Model_isAsItMustBe.2.1 39 = .ok (.if_icmp .lt 23, 3) := by decide +kernel
theorem k_Model_isAsItMustBe_42 : decode Y_Model_isAsItMustBe.2.1 42 = .ok (.aload_n 0, 1) := by decide +kernel
theorem k_Model_isAsItMustBe_43 : decode Y_Model_isAsItMustBe.2.1 43 = .ok (.getfield 32, 3) := by decide +kernel
theorem k_Model_isAsItMustBe_46 : decode Y_Model_isAsItMustBe.2.1 46 = .ok (.iconst 1, 1) := by decide +kernel
theorem k_Model_isAsItMustBe_47 : decode Y_Model_isAsItMustBe.2.1 47 = .ok (.iaload, 1) := by decide +kernel
theorem k_Model_isAsItMustBe_48 : decode Y_Model_isAsItMustBe.2.1 48 = .ok (.iconst 3, 1) := by decide +kernel
theorem k_Model_isAsItMustBe_49 : decode Y_Model_isAsItMustBe.2.1 49 = .ok (.if_icmp .gt 13, 3) := by decide +kernel
theorem k_Model_isAsItMustBe_52 : decode Y_Model_isAsItMustBe.2.1 52 = .ok (.iload_n 1, 1) := by decide +kernel
theorem k_Model_isAsItMustBe_53 : decode Y_Model_isAsItMustBe.2.1 53 = .ok (.bipush 12, 2) := by decide +kernel
theorem k_Model_isAsItMustBe_55 : decode Y_Model_isAsItMustBe.2.1 55 = .ok (.if_icmp .ge 7, 3) := by decide +kernel
theorem k_Model_isAsItMustBe_58 : decode Y_Model_isAsItMustBe.2.1 58 = .ok (.iconst 1, 1) := by decide +kernel
theorem k_Model_isAsItMustBe_59 : decode Y_Model_isAsItMustBe.2.1 59 = .ok (.goto 4, 3) := by decide +kernel
theorem k_Model_isAsItMustBe_62 : decode Y_Model_isAsItMustBe.2.1 62 = .ok (.iconst 0, 1) := by decide +kernel
theorem k_Model_isAsItMustBe_63 : decode Y_Model_isAsItMustBe.2.1 63 = .ok (.ireturn, 1) := by decide +kernel
theorem k_Model_isAsItMustBe_64 : decode Y_Model_isAsItMustBe.2.1 64 = .ok (.aload_n 0, 1) := by decide +kernel
theorem k_Model_isAsItMustBe_65 : decode Y_Model_isAsItMustBe.2.1 65 = .ok (.getfield 32, 3) := by decide +kernel
theorem k_Model_isAsItMustBe_68 : decode Y_Model_isAsItMustBe.2.1 68 = .ok (.iconst 1, 1) := by decide +kernel
theorem k_Model_isAsItMustBe_69 : decode Y_Model_isAsItMustBe.2.1 69 = .ok (.iaload, 1) := by decide +kernel
theorem k_Model_isAsItMustBe_70 : decode Y_Model_isAsItMustBe.2.1 70 = .ok (.bipush 60, 2) := by decide +kernel
theorem k_Model_isAsItMustBe_72 : decode Y_Model_isAsItMustBe.2.1 72 = .ok (.if_icmp .gt 13, 3) := by decide +kernel
theorem k_Model_isAsItMustBe_75 : decode Y_Model_isAsItMustBe.2.1 75 = .ok (.iload_n 2, 1) := by decide +kernel
theorem k_Model_isAsItMustBe_76 : decode Y_Model_isAsItMustBe.2.1 76 = .ok (.bipush 6, 2) := by decide +kernel
theorem k_Model_isAsItMustBe_78 : decode Y_Model_isAsItMustBe.2.1 78 = .ok (.if_icmp .ge 7, 3) := by decide +kernel
theorem k_Model_isAsItMustBe_81 : decode Y_Model_isAsItMustBe.2.1 81 = .ok (.iconst 1, 1) := by decide +kernel
theorem k_Model_isAsItMustBe_82 : decode Y_Model_isAsItMustBe.2.1 82 = .ok (.goto 4, 3) := by decide +kernel
theorem k_Model_isAsItMustBe_85 : decode Y_Model_isAsItMustBe.2.1 85 = .ok (.iconst 0, 1) := by decide +kernel
theorem k_Model_isAsItMustBe_86 : decode Y_Model_isAsItMustBe.2.1 86 = .ok (.ireturn, 1) := by decide +kernel
theorem k_Model_isAsItMustBe_87 : decode Y_Model_isAsItMustBe.2.1 87 = .ok (.aload_n 0, 1) := by decide +kernel
theorem k_Model_isAsItMustBe_88 : decode Y_Model_isAsItMustBe.2.1 88 = .ok (.getfield 32, 3) := by decide +kernel
theorem k_Model_isAsItMustBe_91 : decode Y_Model_isAsItMustBe.2.1 91 = .ok (.iconst 0, 1) := by decide +kernel
theorem k_Model_isAsItMustBe_92 : decode Y_Model_isAsItMustBe.2.1 92 = .ok (.iaload, 1) := by decide +kernel
theorem k_Model_isAsItMustBe_93 : decode Y_Model_isAsItMustBe.2.1 93 = .ok (.iconst 1, 1) := by decide +kernel
theorem k_Model_isAsItMustBe_94 : decode Y_Model_isAsItMustBe.2.1 94 = .ok (.if_icmp .lt 27, 3) := by decide +kernel
theorem k_Model_isAsItMustBe_97 : decode Y_Model_isAsItMustBe.2.1 97 = .ok (.aload_n 0, 1) := by decide +kernel
theorem k_Model_isAsItMustBe_98 : decode Y_Model_isAsItMustBe.2.1 98 = .ok (.getfield 32, 3) := by decide +kernel
theorem k_Model_isAsItMustBe_101 : decode Y_Model_isAsItMustBe.2.1 101 = .ok (.iconst 0, 1) := by decide +kernel
theorem k_Model_isAsItMustBe_102 : decode Y_Model_isAsItMustBe.2.1 102 = .ok (.iaload, 1) := by decide +kernel
theorem k_Model_isAsItMustBe_103 : decode Y_Model_isAsItMustBe.2.1 103 = .ok (.iconst 4, 1) := by decide +kernel
theorem k_Model_isAsItMustBe_104 : decode Y_Model_isAsItMustBe.2.1 104 = .ok (.if_icmp .gt 17, 3) := by decide +kernel
theorem k_Model_isAsItMustBe_107 : decode Y_Model_isAsItMustBe.2.1 107 = .ok (.aload_n 0, 1) := by decide +kernel
theorem k_Model_isAsItMustBe_108 : decode Y_Model_isAsItMustBe.2.1 108 = .ok (.getfield 32, 3) := by decide +kernel
theorem k_Model_isAsItMustBe_111 : decode Y_Model_isAsItMustBe.2.1 111 = .ok (.iconst 1, 1) := by decide +kernel
theorem k_Model_isAsItMustBe_112 : decode Y_Model_isAsItMustBe.2.1 112 = .ok (.iaload, 1) := by decide +kernel
theorem k_Model_isAsItMustBe_113 : decode Y_Model_isAsItMustBe.2.1 113 = .ok (.iconst 2, 1) := by decide +kernel
theorem k_Model_isAsItMustBe_114 : decode Y_Model_isAsItMustBe.2.1 114 = .ok (.if_icmp .gt 7, 3) := by decide +kernel
theorem k_Model_isAsItMustBe_117 : decode Y_Model_isAsItMustBe.2.1 117 = .ok (.iconst 1, 1) := by decide +kernel
theorem k_Model_isAsItMustBe_118 : decode Y_Model_isAsItMustBe.2.1 118 = .ok (.goto 4, 3) := by decide +kernel
theorem k_Model_isAsItMustBe_121 : decode Y_Model_isAsItMustBe.2.1 121 = .ok (.iconst 0, 1) := by decide +kernel
theorem k_Model_isAsItMustBe_122 : decode Y_Model_isAsItMustBe.2.1 122 = .ok (.ireturn, 1) := by decide +kernel
theorem k_Model_isAsItMustBe_123 : decode Y_Model_isAsItMustBe.2.1 123 = .ok (.aload_n 0, 1) := by decide +kernel
theorem k_Model_isAsItMustBe_124 : decode Y_Model_isAsItMustBe.2.1 124 = .ok (.getfield 32, 3) := by decide +kernel
theorem k_Model_isAsItMustBe_127 : decode Y_Model_isAsItMustBe.2.1 127 = .ok (.iconst 0, 1) := by decide +kernel
theorem k_Model_isAsItMustBe_128 : decode Y_Model_isAsItMustBe.2.1 128 = .ok (.iaload, 1) := by decide +kernel
theorem k_Model_isAsItMustBe_129 : decode Y_Model_isAsItMustBe.2.1 129 = .ok (.bipush 6, 2) := by decide +kernel
theorem k_Model_isAsItMustBe_131 : decode Y_Model_isAsItMustBe.2.1 131 = .ok (.if_icmp .gt 7, 3) := by decide +kernel
theorem k_Model_isAsItMustBe_134 : decode Y_Model_isAsItMustBe.2.1 134 = .ok (.iconst 1, 1) := by decide +kernel
theorem k_Model_isAsItMustBe_135 : decode Y_Model_isAsItMustBe.2.1 135 = .ok (.goto 4, 3) := by decide +kernel
theorem k_Model_isAsItMustBe_138 : decode Y_Model_isAsItMustBe.2.1 138 = .ok (.iconst 0, 1) := by decide +kernel
theorem k_Model_isAsItMustBe_139 : decode Y_Model_isAsItMustBe.2.1 139 = .ok (.ireturn, 1) := by decide +kernel
theorem k_Model_come_0 : decode Y_Model_come.2.1 0 = .ok (.aload_n 0, 1) := by decide +kernel
theorem k_Model_come_1 : decode Y_Model_come.2.1 1 = .ok (.getfield 67, 3) := by decide +kernel
theorem k_Model_come_4 : decode Y_Model_come.2.1 4 = .ok (.tableswitch 181 0 2 #[28, 81, 154], 28) := by decide +kernel
theorem k_Model_come_32 : decode Y_Model_come.2.1 32 = .ok (.aload_n 0, 1) := by decide +kernel
theorem k_Model_come_33 : decode Y_Model_come.2.1 33 = .ok (.getfield 13, 3) := by decide +kernel
theorem k_Model_come_36 : decode Y_Model_come.2.1 36 = .ok (.bipush 10, 2) := by decide +kernel
theorem k_Model_come_38 : decode Y_Model_come.2.1 38 = .ok (.aload_n 0, 1) := by decide +kernel
theorem k_Model_come_39 : decode Y_Model_come.2.1 39 = .ok (.getfield 13, 3) := by decide +kernel
theorem k_Model_come_42 : decode Y_Model_come.2.1 42 = .ok (.iconst 0, 1) := by decide +kernel
theorem k_Model_come_43 : decode Y_Model_come.2.1 43 = .ok (.iaload, 1) := by decide +kernel
theorem k_Model_come_44 : decode Y_Model_come.2.1 44 = .ok (.iadd, 1) := by decide +kernel
theorem k_Model_come_45 : decode Y_Model_come.2.1 45 = .ok (.aload_n 0, 1) := by decide +kernel
theorem k_Model_come_46 : decode Y_Model_come.2.1 46 = .ok (.getfield 32, 3) := by decide +kernel
theorem k_Model_come_49 : decode Y_Model_come.2.1 49 = .ok (.iconst 0, 1) := by decide +kernel
theorem k_Model_come_50 : decode Y_Model_come.2.1 50 = .ok (.iaload, 1) := by decide +kernel
theorem k_Model_come_51 : decode Y_Model_come.2.1 51 = .ok (.iastore, 1) := by decide +kernel
theorem k_Model_come_52 : decode Y_Model_come.2.1 52 = .ok (.aload_n 0, 1) := by decide +kernel
theorem k_Model_come_53 : decode Y_Model_come.2.1 53 = .ok (.getfield 13, 3) := by decide +kernel
theorem k_Model_come_56 : decode Y_Model_come.2.1 56 = .ok (.bipush 30, 2) := by decide +kernel
theorem k_Model_come_58 : decode Y_Model_come.2.1 58 = .ok (.aload_n 0, 1) := by decide +kernel
theorem k_Model_come_59 : decode Y_Model_come.2.1 59 = .ok (.getfield 13, 3) := by decide +kernel
theorem k_Model_come_62 : decode Y_Model_come.2.1 62 = .ok (.iconst 0, 1) := by decide +kernel
theorem k_Model_come_63 : decode Y_Model_come.2.1 63 = .ok (.iaload, 1) := by decide +kernel
theorem k_Model_come_64 : decode Y_Model_come.2.1 64 = .ok (.iadd, 1) := by decide +kernel
theorem k_Model_come_65 : decode Y_Model_come.2.1 65 = .ok (.aload_n 0, 1) := by decide +kernel
theorem k_Model_come_66 : decode Y_Model_come.2.1 66 = .ok (.getfield 32, 3) := by decide +kernel
theorem k_Model_come_69 : decode Y_Model_come.2.1 69 = .ok (.iconst 1, 1) := by decide +kernel
theorem k_Model_come_70 : decode Y_Model_come.2.1 70 = .ok (.iaload, 1) := by decide +kernel
theorem k_Model_come_71 : decode Y_Model_come.2.1 71 = .ok (.iastore, 1) := by decide +kernel
theorem k_Model_come_72 : decode Y_Model_come.2.1 72 = .ok (.aload_n 0, 1) := by decide +kernel
theorem k_Model_come_73 : decode Y_Model_come.2.1 73 = .ok (.getfield 13, 3) := by decide +kernel
theorem k_Model_come_76 : decode Y_Model_come.2.1 76 = .ok (.iconst 0, 1) := by decide +kernel
theorem k_Model_come_77 : decode Y_Model_come.2.1 77 = .ok (.dup2, 1) := by decide +kernel
theorem k_Model_come_78 : decode Y_Model_come.2.1 78 = .ok (.iaload, 1) := by decide +kernel
theorem k_Model_come_79 : decode Y_Model_come.2.1 79 = .ok (.iconst 1, 1) := by decide +kernel
theorem k_Model_come_80 : decode Y_Model_come.2.1 80 = .ok (.iadd, 1) := by decide +kernel
theorem k_Model_come_81 : decode Y_Model_come.2.1 81 = .ok (.iastore, 1) := by decide +kernel
theorem k_Model_come_82 : decode Y_Model_come.2.1 82 = .ok (.goto 120, 3) := by decide +kernel
theorem k_Model_come_85 : decode Y_Model_come.2.1 85 = .ok (.aload_n 0, 1) := by decide +kernel
theorem k_Model_come_86 : decode Y_Model_come.2.1 86 = .ok (.getfield 13, 3) := by decide +kernel
theorem k_Model_come_89 : decode Y_Model_come.2.1 89 = .ok (.bipush 50, 2) := by decide +kernel
theorem k_Model_come_91 : decode Y_Model_come.2.1 91 = .ok (.aload_n 0, 1) := by decide +kernel
theorem k_Model_come_92 : decode Y_Model_come.2.1 92 = .ok (.getfield 13, 3) := by decide +kernel
theorem k_Model_come_95 : decode Y_Model_come.2.1 95 = .ok (.iconst 1, 1) := by decide +kernel
theorem k_Model_come_96 : decode Y_Model_come.2.1 96 = .ok (.iaload, 1) := by decide +kernel
theorem k_Model_come_97 : decode Y_Model_come.2.1 97 = .ok (.iadd, 1) := by decide +kernel
theorem k_Model_come_98 : decode Y_Model_come.2.1 98 = .ok (.aload_n 0, 1) := by decide +kernel
theorem k_Model_come_99 : decode Y_Model_come.2.1 99 = .ok (.getfield 32, 3) := by decide +kernel
theorem k_Model_come_102 : decode Y_Model_come.2.1 102 = .ok (.iconst 0, 1) := by decide +kernel
theorem k_Model_come_103 : decode Y_Model_come.2.1 103 = .ok (.iaload, 1) := by decide +kernel
theorem k_Model_come_104 : decode Y_Model_come.2.1 104 = .ok (.iastore, 1) := by decide +kernel
theorem k_Model_come_105 : decode Y_Model_come.2.1 105 = .ok (.aload_n 0, 1) := by decide +kernel
theorem k_Model_come_106 : decode Y_Model_come.2.1 106 = .ok (.getfield 13, 3) := by decide +kernel
theorem k_Model_come_109 : decode Y_Model_come.2.1 109 = .ok (.bipush 60, 2) := by decide +kernel
theorem k_Model_come_111 : decode Y_Model_come.2.1 111 = .ok (.aload_n 0, 1) := by decide +kernel
theorem k_Model_come_112 : decode Y_Model_come.2.1 112 = .ok (.getfield 13, 3) := by decide +kernel
theorem k_Model_come_115 : decode Y_Model_come.2.1 115 = .ok (.iconst 1, 1) := by decide +kernel
theorem k_Model_come_116 : decode Y_Model_come.2.1 116 = .ok (.iaload, 1) := by decide +kernel
theorem k_Model_come_117 : decode Y_Model_come.2.1 117 = .ok (.iadd, 1) := by decide +kernel
theorem k_Model_come_118 : decode Y_Model_come.2.1 118 = .ok (.aload_n 0, 1) := by decide +kernel
theorem k_Model_come_119 : decode Y_Model_come.2.1 119 = .ok (.getfield 32, 3) := by decide +kernel
theorem k_Model_come_122 : decode Y_Model_come.2.1 122 = .ok (.iconst 1, 1) := by decide +kernel
theorem k_Model_come_123 : decode Y_Model_come.2.1 123 = .ok (.iaload, 1) := by decide +kernel
theorem k_Model_come_124 : decode Y_Model_come.2.1 124 = .ok (.iastore, 1) := by decide +kernel
theorem k_Model_come_125 : decode Y_Model_come.2.1 125 = .ok (.aload_n 0, 1) := by decide +kernel
theorem k_Model_come_126 : decode Y_Model_come.2.1 126 = .ok (.getfield 13, 3) := by decide +kernel
theorem k_Model_come_129 : decode Y_Model_come.2.1 129 = .ok (.bipush 70, 2) := by decide +kernel
theorem k_Model_come_131 : decode Y_Model_come.2.1 131 = .ok (.aload_n 0, 1) := by decide +kernel
theorem k_Model_come_132 : decode Y_Model_come.2.1 132 = .ok (.getfield 13, 3) := by decide +kernel
theorem k_Model_come_135 : decode Y_Model_come.2.1 135 = .ok (.iconst 1, 1) := by decide +kernel
theorem k_Model_come_136 : decode Y_Model_come.2.1 136 = .ok (.iaload, 1) := by decide +kernel
theorem k_Model_come_137 : decode Y_Model_come.2.1 137 = .ok (.iadd, 1) := by decide +kernel
theorem k_Model_come_138 : decode Y_Model_come.2.1 138 = .ok (.aload_n 0, 1) := by decide +kernel
theorem k_Model_come_139 : decode Y_Model_come.2.1 139 = .ok (.getfield 32, 3) := by decide +kernel
theorem k_Model_come_142 : decode Y_Model_come.2.1 142 = .ok (.iconst 2, 1) := by decide +kernel
theorem k_Model_come_143 : decode Y_Model_come.2.1 143 = .ok (.iaload, 1) := by decide +kernel
theorem k_Model_come_144 : decode Y_Model_come.2.1 144 = .ok (.iastore, 1) := by decide +kernel
theorem k_Model_come_145 : decode Y_Model_come.2.1 145 = .ok (.aload_n 0, 1) := by decide +kernel
theorem k_Model_come_146 : decode Y_Model_come.2.1 146 = .ok (.getfield 13, 3) := by decide +kernel
theorem k_Model_come_149 : decode Y_Model_come.2.1 149 = .ok (.iconst 1, 1) := by decide +kernel
theorem k_Model_come_150 : decode Y_Model_come.2.1 150 = .ok (.dup2, 1) := by decide +kernel
theorem k_Model_come_151 : decode Y_Model_come.2.1 151 = .ok (.iaload, 1) := by decide +kernel
theorem k_Model_come_152 : decode Y_Model_come.2.1 152 = .ok (.iconst 1, 1) := by decide +kernel
theorem k_Model_come_153 : decode Y_Model_come.2.1 153 = .ok (.iadd, 1) := by decide +kernel
theorem k_Model_come_154 : decode Y_Model_come.2.1 154 = .ok (.iastore, 1) := by decide +kernel
theorem k_Model_come_155 : decode Y_Model_come.2.1 155 = .ok (.goto 47, 3) := by decide +kernel
theorem k_Model_come_158 : decode Y_Model_come.2.1 158 = .ok (.aload_n 0, 1) := by decide +kernel
theorem k_Model_come_159 : decode Y_Model_come.2.1 159 = .ok (.getfield 13, 3) := by decide +kernel
theorem k_Model_come_162 : decode Y_Model_come.2.1 162 = .ok (.iconst 2, 1) := by decide +kernel
theorem k_Model_come_163 : decode Y_Model_come.2.1 163 = .ok (.aload_n 0, 1) := by decide +kernel
theorem k_Model_come_164 : decode Y_Model_come.2.1 164 = .ok (.getfield 32, 3) := by decide +kernel
theorem k_Model_come_167 : decode Y_Model_come.2.1 167 = .ok (.iconst 0, 1) := by decide +kernel
theorem k_Model_come_168 : decode Y_Model_come.2.1 168 = .ok (.iaload, 1) := by decide +kernel
theorem k_Model_come_169 : decode Y_Model_come.2.1 169 = .ok (.iastore, 1) := by decide +kernel
theorem k_Model_come_170 : decode Y_Model_come.2.1 170 = .ok (.aload_n 0, 1) := by decide +kernel
theorem k_Model_come_171 : decode Y_Model_come.2.1 171 = .ok (.getfield 13, 3) := by decide +kernel
theorem k_Model_come_174 : decode Y_Model_come.2.1 174 = .ok (.iconst 3, 1) := by decide +kernel
theorem k_Model_come_175 : decode Y_Model_come.2.1 175 = .ok (.aload_n 0, 1) := by decide +kernel
theorem k_Model_come_176 : decode Y_Model_come.2.1 176 = .ok (.getfield 32, 3) := by decide +kernel
theorem k_Model_come_179 : decode Y_Model_come.2.1 179 = .ok (.iconst 1, 1) := by decide +kernel
theorem k_Model_come_180 : decode Y_Model_come.2.1 180 = .ok (.iaload, 1) := by decide +kernel
theorem k_Model_come_181 : decode Y_Model_come.2.1 181 = .ok (.iastore, 1) := by decide +kernel
theorem k_Model_come_182 : decode Y_Model_come.2.1 182 = .ok (.goto 20, 3) := by decide +kernel
theorem k_Model_come_185 : decode Y_Model_come.2.1 185 = .ok (.aload_n 0, 1) := by decide +kernel
theorem k_Model_come_186 : decode Y_Model_come.2.1 186 = .ok (.getfield 13, 3) := by decide +kernel
theorem k_Model_come_189 : decode Y_Model_come.2.1 189 = .ok (.iconst 4, 1) := by decide +kernel
theorem k_Model_come_190 : decode Y_Model_come.2.1 190 = .ok (.dup2, 1) := by decide +kernel
theorem k_Model_come_191 : decode Y_Model_come.2.1 191 = .ok (.iaload, 1) := by decide +kernel
theorem k_Model_come_192 : decode Y_Model_come.2.1 192 = .ok (.iconst 1, 1) := by decide +kernel
theorem k_Model_come_193 : decode Y_Model_come.2.1 193 = .ok (.aload_n 0, 1) := by decide +kernel
theorem k_Model_come_194 : decode Y_Model_come.2.1 194 = .ok (.getfield 32, 3) := by decide +kernel
theorem k_Model_come_197 : decode Y_Model_come.2.1 197 = .ok (.iconst 0, 1) := by decide +kernel
theorem k_Model_come_198 : decode Y_Model_come.2.1 198 = .ok (.iaload, 1) := by decide +kernel
theorem k_Model_come_199 : decode Y_Model_come.2.1 199 = .ok (.ishl, 1) := by decide +kernel
theorem k_Model_come_200 : decode Y_Model_come.2.1 200 = .ok (.ixor, 1) := by decide +kernel
theorem k_Model_come_201 : decode Y_Model_come.2.1 201 = .ok (.iastore, 1) := by decide +kernel
theorem k_Model_come_202 : decode Y_Model_come.2.1 202 = .ok (.return_, 1) := by decide +kernel
theorem k_Model_read_0 : decode Y_Model_read.2.1 0 = .ok (.iconst 0, 1) := by decide +kernel
theorem k_Model_read_1 : decode Y_Model_read.2.1 1 = .ok (.istore_n 1, 1) := by decide +kernel
theorem k_Model_read_2 : decode Y_Model_read.2.1 2 = .ok (.aload_n 0, 1) := by decide +kernel
theorem k_Model_read_3 : decode Y_Model_read.2.1 3 = .ok (.iconst 0, 1) := by decide +kernel
theorem k_Model_read_4 : decode Y_Model_read.2.1 4 = .ok (.putfield 60, 3) := by decide +kernel
theorem k_Model_read_7 : decode Y_Model_read.2.1 7 = .ok (.aload_n 0, 1) := by decide +kernel
theorem k_Model_read_8 : decode Y_Model_read.2.1 8 = .ok (.iconst 1, 1) := by decide +kernel
theorem k_Model_read_9 : decode Y_Model_read.2.1 9 = .ok (.putfield 57, 3) := by decide +kernel
theorem k_Model_read_12 : decode Y_Model_read.2.1 12 = .ok (.aload_n 0, 1) := by decide +kernel
theorem k_Model_read_13 : decode Y_Model_read.2.1 13 = .ok (.invokevirtual 77, 3) := by decide +kernel
theorem k_Model_read_16 : decode Y_Model_read.2.1 16 = .ok (.iinc 1 1, 3) := by decide +kernel
theorem k_Model_read_19 : decode Y_Model_read.2.1 19 = .ok (.aload_n 0, 1) := by decide +kernel
theorem k_Model_read_20 : decode Y_Model_read.2.1 20 = .ok (.getfield 57, 3) := by decide +kernel
theorem k_Model_read_23 : decode Y_Model_read.2.1 23 = .ok (.ifCond .eq 14, 3) := by decide +kernel
theorem k_Model_read_26 : decode Y_Model_read.2.1 26 = .ok (.aload_n 0, 1) := by decide +kernel
theorem k_Model_read_27 : decode Y_Model_read.2.1 27 = .ok (.getfield 60, 3) := by decide +kernel
theorem k_Model_read_30 : decode Y_Model_read.2.1 30 = .ok (.aload_n 0, 1) := by decide +kernel
theorem k_Model_read_31 : decode Y_Model_read.2.1 31 = .ok (.getfield 53, 3) := by decide +kernel
theorem k_Model_read_34 : decode Y_Model_read.2.1 34 = .ok (.if_icmp .lt (-22), 3) := by decide +kernel
theorem k_Model_read_37 : decode Y_Model_read.2.1 37 = .ok (.aload_n 0, 1) := by decide +kernel
theorem k_Model_read_38 : decode Y_Model_read.2.1 38 = .ok (.getfield 57, 3) := by decide +kernel
theorem k_Model_read_41 : decode Y_Model_read.2.1 41 = .ok (.ifCond .ne 12, 3) := by decide +kernel
theorem k_Model_read_44 : decode Y_Model_read.2.1 44 = .ok (.sipush (-1000), 3) := by decide +kernel
theorem k_Model_read_47 : decode Y_Model_read.2.1 47 = .ok (.aload_n 0, 1) := by decide +kernel
theorem k_Model_read_48 : decode Y_Model_read.2.1 48 = .ok (.getfield 60, 3) := by decide +kernel
theorem k_Model_read_51 : decode Y_Model_read.2.1 51 = .ok (.isub, 1) := by decide +kernel
theorem k_Model_read_52 : decode Y_Model_read.2.1 52 = .ok (.ireturn, 1) := by decide +kernel
theorem k_Model_read_53 : decode Y_Model_read.2.1 53 = .ok (.aload_n 0, 1) := by decide +kernel
theorem k_Model_read_54 : decode Y_Model_read.2.1 54 = .ok (.iconst 0, 1) := by decide +kernel
theorem k_Model_read_55 : decode Y_Model_read.2.1 55 = .ok (.putfield 60, 3) := by decide +kernel
theorem k_Model_read_58 : decode Y_Model_read.2.1 58 = .ok (.aload_n 0, 1) := by decide +kernel
theorem k_Model_read_59 : decode Y_Model_read.2.1 59 = .ok (.getfield 13, 3) := by decide +kernel
theorem k_Model_read_62 : decode Y_Model_read.2.1 62 = .ok (.iconst 0, 1) := by decide +kernel
theorem k_Model_read_63 : decode Y_Model_read.2.1 63 = .ok (.iaload, 1) := by decide +kernel
theorem k_Model_read_64 : decode Y_Model_read.2.1 64 = .ok (.istore_n 2, 1) := by decide +kernel
theorem k_Model_read_65 : decode Y_Model_read.2.1 65 = .ok (.aload_n 0, 1) := by decide +kernel
theorem k_Model_read_66 : decode Y_Model_read.2.1 66 = .ok (.getfield 13, 3) := by decide +kernel
theorem k_Model_read_69 : decode Y_Model_read.2.1 69 = .ok (.iconst 1, 1) := by decide +kernel
theorem k_Model_read_70 : decode Y_Model_read.2.1 70 = .ok (.iaload, 1) := by decide +kernel
theorem k_Model_read_71 : decode Y_Model_read.2.1 71 = .ok (.istore_n 3, 1) := by decide +kernel
theorem k_Model_read_72 : decode Y_Model_read.2.1 72 = .ok (.aload_n 0, 1) := by decide +kernel
theorem k_Model_read_73 : decode Y_Model_read.2.1 73 = .ok (.getfield 60, 3) := by decide +kernel
theorem k_Model_read_76 : decode Y_Model_read.2.1 76 = .ok (.aload_n 0, 1) := by decide +kernel
theorem k_Model_read_77 : decode Y_Model_read.2.1 77 = .ok (.getfield 53, 3) := by decide +kernel
theorem k_Model_read_80 : decode Y_Model_read.2.1 80 = .ok (.if_icmp .ge 63, 3) := by decide +kernel
theorem k_Model_read_83 : decode Y_Model_read.2.1 83 = .ok (.aload_n 0, 1) := by decide +kernel
theorem k_Model_read_84 : decode Y_Model_read.2.1 84 = .ok (.getfield 60, 3) := by decide +kernel
theorem k_Model_read_87 : decode Y_Model_read.2.1 87 = .ok (.istore 4, 2) := by decide +kernel
theorem k_Model_read_89 : decode Y_Model_read.2.1 89 = .ok (.aload_n 0, 1) := by decide +kernel
theorem k_Model_read_90 : decode Y_Model_read.2.1 90 = .ok (.invokevirtual 77, 3) := by decide +kernel
theorem k_Model_read_93 : decode Y_Model_read.2.1 93 = .ok (.aload_n 0, 1) := by decide +kernel
theorem k_Model_read_94 : decode Y_Model_read.2.1 94 = .ok (.iload_n 2, 1) := by decide +kernel
theorem k_Model_read_95 : decode Y_Model_read.2.1 95 = .ok (.iload_n 3, 1) := by decide +kernel
theorem k_Model_read_96 : decode Y_Model_read.2.1 96 = .ok (.invokevirtual 80, 3) := by decide +kernel
theorem k_Model_read_99 : decode Y_Model_read.2.1 99 = .ok (.ifCond .ne 10, 3) := by decide +kernel
theorem k_Model_read_102 : decode Y_Model_read.2.1 102 = .ok (.sipush (-2000), 3) := by decide +kernel
theorem k_Model_read_105 : decode Y_Model_read.2.1 105 = .ok (.iload 4, 2) := by decide +kernel
theorem k_Model_read_107 : decode Y_Model_read.2.1 107 = .ok (.isub, 1) := by decide +kernel
theorem k_Model_read_108 : decode Y_Model_read.2.1 108 = .ok (.ireturn, 1) := by decide +kernel
theorem k_Model_read_109 : decode Y_Model_read.2.1 109 = .ok (.iload_n 2, 1) := by decide +kernel
theorem k_Model_read_110 : decode Y_Model_read.2.1 110 = .ok (.aload_n 0, 1) := by decide +kernel
theorem k_Model_read_111 : decode Y_Model_read.2.1 111 = .ok (.getfield 67, 3) := by decide +kernel
theorem k_Model_read_114 : decode Y_Model_read.2.1 114 = .ok (.ifCond .ne 7, 3) := by decide +kernel
theorem k_Model_read_117 : decode Y_Model_read.2.1 117 = .ok (.iconst 1, 1) := by decide +kernel
theorem k_Model_read_118 : decode Y_Model_read.2.1 118 = .ok (.goto 4, 3) := by decide +kernel
theorem k_Model_read_121 : decode Y_Model_read.2.1 121 = .ok (.iconst 0, 1) := by decide +kernel
theorem k_Model_read_122 : decode Y_Model_read.2.1 122 = .ok (.iadd, 1) := by decide +kernel
theorem k_Model_read_123 : decode Y_Model_read.2.1 123 = .ok (.istore_n 2, 1) := by decide +kernel
theorem k_Model_read_124 : decode Y_Model_read.2.1 124 = .ok (.iload_n 3, 1) := by decide +kernel
theorem k_Model_read_125 : decode Y_Model_read.2.1 125 = .ok (.aload_n 0, 1) := by decide +kernel
theorem k_Model_read_126 : decode Y_Model_read.2.1 126 = .ok (.getfield 67, 3) := by decide +kernel
theorem k_Model_read_129 : decode Y_Model_read.2.1 129 = .ok (.iconst 1, 1) := by decide +kernel
theorem k_Model_read_130 : decode Y_Model_read.2.1 130 = .ok (.if_icmp .ne 7, 3) := by decide +kernel
theorem k_Model_read_133 : decode Y_Model_read.2.1 133 = .ok (.iconst 1, 1) := by decide +kernel
theorem k_Model_read_134 : decode Y_Model_read.2.1 134 = .ok (.goto 4, 3) := by decide +kernel
theorem k_Model_read_137 : decode Y_Model_read.2.1 137 = .ok (.iconst 0, 1) := by decide +kernel
theorem k_Model_read_138 : decode Y_Model_read.2.1 138 = .ok (.iadd, 1) := by decide +kernel
theorem k_Model_read_139 : decode Y_Model_read.2.1 139 = .ok (.istore_n 3, 1) := by decide +kernel
theorem k_Model_read_140 : decode Y_Model_read.2.1 140 = .ok (.goto (-68), 3) := by decide +kernel
theorem k_Model_read_143 : decode Y_Model_read.2.1 143 = .ok (.aload_n 0, 1) := by decide +kernel
theorem k_Model_read_144 : decode Y_Model_read.2.1 144 = .ok (.iconst 0, 1) := by decide +kernel
theorem k_Model_read_145 : decode Y_Model_read.2.1 145 = .ok (.putfield 60, 3) := by decide +kernel
theorem k_Model_read_148 : decode Y_Model_read.2.1 148 = .ok (.aload_n 0, 1) := by decide +kernel
theorem k_Model_read_149 : decode Y_Model_read.2.1 149 = .ok (.getfield 60, 3) := by decide +kernel
theorem k_Model_read_152 : decode Y_Model_read.2.1 152 = .ok (.aload_n 0, 1) := by decide +kernel
theorem k_Model_read_153 : decode Y_Model_read.2.1 153 = .ok (.getfield 53, 3) := by decide +kernel
theorem k_Model_read_156 : decode Y_Model_read.2.1 156 = .ok (.if_icmp .ge 14, 3) := by decide +kernel
theorem k_Model_read_159 : decode Y_Model_read.2.1 159 = .ok (.aload_n 0, 1) := by decide +kernel
theorem k_Model_read_160 : decode Y_Model_read.2.1 160 = .ok (.invokevirtual 77, 3) := by decide +kernel
theorem k_Model_read_163 : decode Y_Model_read.2.1 163 = .ok (.aload_n 0, 1) := by decide +kernel
theorem k_Model_read_164 : decode Y_Model_read.2.1 164 = .ok (.invokevirtual 84, 3) := by decide +kernel
theorem k_Model_read_167 : decode Y_Model_read.2.1 167 = .ok (.goto (-19), 3) := by decide +kernel
theorem k_Model_read_170 : decode Y_Model_read.2.1 170 = .ok (.iload_n 1, 1) := by decide +kernel
theorem k_Model_read_171 : decode Y_Model_read.2.1 171 = .ok (.ireturn, 1) := by decide +kernel
theorem k_Model_canon_0 : decode Y_Model_canon.2.1 0 = .ok (.aload_n 0, 1) := by decide +kernel
theorem k_Model_canon_1 : decode Y_Model_canon.2.1 1 = .ok (.invokevirtual 87, 3) := by decide +kernel
theorem k_Model_canon_4 : decode Y_Model_canon.2.1 4 = .ok (.istore_n 1, 1) := by decide +kernel
theorem k_Model_canon_5 : decode Y_Model_canon.2.1 5 = .ok (.aload_n 0, 1) := by decide +kernel
theorem k_Model_canon_6 : decode Y_Model_canon.2.1 6 = .ok (.iconst 0, 1) := by decide +kernel
theorem k_Model_canon_7 : decode Y_Model_canon.2.1 7 = .ok (.putfield 53, 3) := by decide +kernel
theorem k_Model_canon_10 : decode Y_Model_canon.2.1 10 = .ok (.iload_n 1, 1) := by decide +kernel
theorem k_Model_canon_11 : decode Y_Model_canon.2.1 11 = .ok (.ireturn, 1) := by decide +kernel
theorem k_Model_firstBeat_0 : decode Y_Model_firstBeat.2.1 0 = .ok (.iconst 0, 1) := by decide +kernel
theorem k_Model_firstBeat_1 : decode Y_Model_firstBeat.2.1 1 = .ok (.istore_n 2, 1) := by decide +kernel
theorem k_Model_firstBeat_2 : decode Y_Model_firstBeat.2.1 2 = .ok (.iconst 0, 1) := by decide +kernel
theorem k_Model_firstBeat_3 : decode Y_Model_firstBeat.2.1 3 = .ok (.istore_n 3, 1) := by decide +kernel
theorem k_Model_firstBeat_4 : decode Y_Model_firstBeat.2.1 4 = .ok (.iload_n 3, 1) := by decide +kernel
theorem k_Model_firstBeat_5 : decode Y_Model_firstBeat.2.1 5 = .ok (.iload_n 1, 1) := by decide +kernel
theorem k_Model_firstBeat_6 : decode Y_Model_firstBeat.2.1 6 = .ok (.if_icmp .ge 21, 3) := by decide +kernel
theorem k_Model_firstBeat_9 : decode Y_Model_firstBeat.2.1 9 = .ok (.iload_n 2, 1) := by decide +kernel
theorem k_Model_firstBeat_10 : decode Y_Model_firstBeat.2.1 10 = .ok (.aload_n 0, 1) := by decide +kernel
theorem k_Model_firstBeat_11 : decode Y_Model_firstBeat.2.1 11 = .ok (.getfield 13, 3) := by decide +kernel
