/-! what each instruction decodes to (written by wip/whole/tools/gen_dec.py) -/
theorem k_Canon_init_0 : decode Y_Canon_init.2.1 0 = .ok (.aload_n 0, 1) := by decide +kernel
theorem k_Canon_init_1 : decode Y_Canon_init.2.1 1 = .ok (.invokespecial 3, 3) := by decide +kernel
theorem k_Canon_init_4 : decode Y_Canon_init.2.1 4 = .ok (.aload_n 0, 1) := by decide +kernel
theorem k_Canon_init_5 : decode Y_Canon_init.2.1 5 = .ok (.new 9, 3) := by decide +kernel
theorem k_Canon_init_8 : decode Y_Canon_init.2.1 8 = .ok (.dup, 1) := by decide +kernel
theorem k_Canon_init_9 : decode Y_Canon_init.2.1 9 = .ok (.invokespecial 11, 3) := by decide +kernel
theorem k_Canon_init_12 : decode Y_Canon_init.2.1 12 = .ok (.putfield 12, 3) := by decide +kernel
theorem k_Canon_init_15 : decode Y_Canon_init.2.1 15 = .ok (.aload_n 0, 1) := by decide +kernel
theorem k_Canon_init_16 : decode Y_Canon_init.2.1 16 = .ok (.new 18, 3) := by decide +kernel
theorem k_Canon_init_19 : decode Y_Canon_init.2.1 19 = .ok (.dup, 1) := by decide +kernel
theorem k_Canon_init_20 : decode Y_Canon_init.2.1 20 = .ok (.bipush 7, 2) := by decide +kernel
theorem k_Canon_init_22 : decode Y_Canon_init.2.1 22 = .ok (.invokespecial 20, 3) := by decide +kernel
theorem k_Canon_init_25 : decode Y_Canon_init.2.1 25 = .ok (.putfield 23, 3) := by decide +kernel
theorem k_Canon_init_28 : decode Y_Canon_init.2.1 28 = .ok (.aload_n 0, 1) := by decide +kernel
theorem k_Canon_init_29 : decode Y_Canon_init.2.1 29 = .ok (.new 18, 3) := by decide +kernel
theorem k_Canon_init_32 : decode Y_Canon_init.2.1 32 = .ok (.dup, 1) := by decide +kernel
theorem k_Canon_init_33 : decode Y_Canon_init.2.1 33 = .ok (.bipush 7, 2) := by decide +kernel
theorem k_Canon_init_35 : decode Y_Canon_init.2.1 35 = .ok (.invokespecial 20, 3) := by decide +kernel
theorem k_Canon_init_38 : decode Y_Canon_init.2.1 38 = .ok (.putfield 27, 3) := by decide +kernel
theorem k_Canon_init_41 : decode Y_Canon_init.2.1 41 = .ok (.aload_n 0, 1) := by decide +kernel
theorem k_Canon_init_42 : decode Y_Canon_init.2.1 42 = .ok (.new 18, 3) := by decide +kernel
theorem k_Canon_init_45 : decode Y_Canon_init.2.1 45 = .ok (.dup, 1) := by decide +kernel
theorem k_Canon_init_46 : decode Y_Canon_init.2.1 46 = .ok (.bipush 7, 2) := by decide +kernel
theorem k_Canon_init_48 : decode Y_Canon_init.2.1 48 = .ok (.invokespecial 20, 3) := by decide +kernel
theorem k_Canon_init_51 : decode Y_Canon_init.2.1 51 = .ok (.putfield 30, 3) := by decide +kernel
theorem k_Canon_init_54 : decode Y_Canon_init.2.1 54 = .ok (.aload_n 0, 1) := by decide +kernel
theorem k_Canon_init_55 : decode Y_Canon_init.2.1 55 = .ok (.new 18, 3) := by decide +kernel
theorem k_Canon_init_58 : decode Y_Canon_init.2.1 58 = .ok (.dup, 1) := by decide +kernel
theorem k_Canon_init_59 : decode Y_Canon_init.2.1 59 = .ok (.bipush 7, 2) := by decide +kernel
theorem k_Canon_init_61 : decode Y_Canon_init.2.1 61 = .ok (.invokespecial 20, 3) := by decide +kernel
theorem k_Canon_init_64 : decode Y_Canon_init.2.1 64 = .ok (.putfield 33, 3) := by decide +kernel
theorem k_Canon_init_67 : decode Y_Canon_init.2.1 67 = .ok (.aload_n 0, 1) := by decide +kernel
theorem k_Canon_init_68 : decode Y_Canon_init.2.1 68 = .ok (.new 18, 3) := by decide +kernel
theorem k_Canon_init_71 : decode Y_Canon_init.2.1 71 = .ok (.dup, 1) := by decide +kernel
theorem k_Canon_init_72 : decode Y_Canon_init.2.1 72 = .ok (.bipush 7, 2) := by decide +kernel
theorem k_Canon_init_74 : decode Y_Canon_init.2.1 74 = .ok (.invokespecial 20, 3) := by decide +kernel
theorem k_Canon_init_77 : decode Y_Canon_init.2.1 77 = .ok (.putfield 36, 3) := by decide +kernel
theorem k_Canon_init_80 : decode Y_Canon_init.2.1 80 = .ok (.aload_n 0, 1) := by decide +kernel
theorem k_Canon_init_81 : decode Y_Canon_init.2.1 81 = .ok (.iconst 1, 1) := by decide +kernel
theorem k_Canon_init_82 : decode Y_Canon_init.2.1 82 = .ok (.putfield 39, 3) := by decide +kernel
theorem k_Canon_init_85 : decode Y_Canon_init.2.1 85 = .ok (.aload_n 0, 1) := by decide +kernel
theorem k_Canon_init_86 : decode Y_Canon_init.2.1 86 = .ok (.iconst 0, 1) := by decide +kernel
theorem k_Canon_init_87 : decode Y_Canon_init.2.1 87 = .ok (.putfield 43, 3) := by decide +kernel
theorem k_Canon_init_90 : decode Y_Canon_init.2.1 90 = .ok (.aload_n 0, 1) := by decide +kernel
theorem k_Canon_init_91 : decode Y_Canon_init.2.1 91 = .ok (.bipush 53, 2) := by decide +kernel
theorem k_Canon_init_93 : decode Y_Canon_init.2.1 93 = .ok (.putfield 46, 3) := by decide +kernel
theorem k_Canon_init_96 : decode Y_Canon_init.2.1 96 = .ok (.return_, 1) := by decide +kernel
theorem k_Canon_copyFrom_0 : decode Y_Canon_copyFrom.2.1 0 = .ok (.aload_n 1, 1) := by decide +kernel
theorem k_Canon_copyFrom_1 : decode Y_Canon_copyFrom.2.1 1 = .ok (.ifnull 71, 3) := by decide +kernel
theorem k_Canon_copyFrom_4 : decode Y_Canon_copyFrom.2.1 4 = .ok (.aload_n 0, 1) := by decide +kernel
theorem k_Canon_copyFrom_5 : decode Y_Canon_copyFrom.2.1 5 = .ok (.getfield 12, 3) := by decide +kernel
theorem k_Canon_copyFrom_8 : decode Y_Canon_copyFrom.2.1 8 = .ok (.aload_n 1, 1) := by decide +kernel
theorem k_Canon_copyFrom_9 : decode Y_Canon_copyFrom.2.1 9 = .ok (.getfield 12, 3) := by decide +kernel
theorem k_Canon_copyFrom_12 : decode Y_Canon_copyFrom.2.1 12 = .ok (.invokevirtual 49, 3) := by decide +kernel
theorem k_Canon_copyFrom_15 : decode Y_Canon_copyFrom.2.1 15 = .ok (.aload_n 0, 1) := by decide +kernel
theorem k_Canon_copyFrom_16 : decode Y_Canon_copyFrom.2.1 16 = .ok (.getfield 23, 3) := by decide +kernel
theorem k_Canon_copyFrom_19 : decode Y_Canon_copyFrom.2.1 19 = .ok (.aload_n 1, 1) := by decide +kernel
theorem k_Canon_copyFrom_20 : decode Y_Canon_copyFrom.2.1 20 = .ok (.getfield 23, 3) := by decide +kernel
theorem k_Canon_copyFrom_23 : decode Y_Canon_copyFrom.2.1 23 = .ok (.invokevirtual 53, 3) := by decide +kernel
theorem k_Canon_copyFrom_26 : decode Y_Canon_copyFrom.2.1 26 = .ok (.aload_n 0, 1) := by decide +kernel
theorem k_Canon_copyFrom_27 : decode Y_Canon_copyFrom.2.1 27 = .ok (.getfield 27, 3) := by decide +kernel
theorem k_Canon_copyFrom_30 : decode Y_Canon_copyFrom.2.1 30 = .ok (.aload_n 1, 1) := by decide +kernel
theorem k_Canon_copyFrom_31 : decode Y_Canon_copyFrom.2.1 31 = .ok (.getfield 27, 3) := by decide +kernel
theorem k_Canon_copyFrom_34 : decode Y_Canon_copyFrom.2.1 34 = .ok (.invokevirtual 53, 3) := by decide +kernel
theorem k_Canon_copyFrom_37 : decode Y_Canon_copyFrom.2.1 37 = .ok (.aload_n 0, 1) := by decide +kernel
theorem k_Canon_copyFrom_38 : decode Y_Canon_copyFrom.2.1 38 = .ok (.getfield 30, 3) := by decide +kernel
theorem k_Canon_copyFrom_41 : decode Y_Canon_copyFrom.2.1 41 = .ok (.aload_n 1, 1) := by decide +kernel
theorem k_Canon_copyFrom_42 : decode Y_Canon_copyFrom.2.1 42 = .ok (.getfield 30, 3) := by decide +kernel
theorem k_Canon_copyFrom_45 : decode Y_Canon_copyFrom.2.1 45 = .ok (.invokevirtual 53, 3) := by decide +kernel
theorem k_Canon_copyFrom_48 : decode Y_Canon_copyFrom.2.1 48 = .ok (.aload_n 0, 1) := by decide +kernel
theorem k_Canon_copyFrom_49 : decode Y_Canon_copyFrom.2.1 49 = .ok (.aload_n 1, 1) := by decide +kernel
theorem k_Canon_copyFrom_50 : decode Y_Canon_copyFrom.2.1 50 = .ok (.getfield 39, 3) := by decide +kernel
theorem k_Canon_copyFrom_53 : decode Y_Canon_copyFrom.2.1 53 = .ok (.putfield 39, 3) := by decide +kernel
theorem k_Canon_copyFrom_56 : decode Y_Canon_copyFrom.2.1 56 = .ok (.aload_n 0, 1) := by decide +kernel
theorem k_Canon_copyFrom_57 : decode Y_Canon_copyFrom.2.1 57 = .ok (.aload_n 1, 1) := by decide +kernel
theorem k_Canon_copyFrom_58 : decode Y_Canon_copyFrom.2.1 58 = .ok (.getfield 43, 3) := by decide +kernel
theorem k_Canon_copyFrom_61 : decode Y_Canon_copyFrom.2.1 61 = .ok (.putfield 43, 3) := by decide +kernel
theorem k_Canon_copyFrom_64 : decode Y_Canon_copyFrom.2.1 64 = .ok (.aload_n 0, 1) := by decide +kernel
theorem k_Canon_copyFrom_65 : decode Y_Canon_copyFrom.2.1 65 = .ok (.aload_n 1, 1) := by decide +kernel
theorem k_Canon_copyFrom_66 : decode Y_Canon_copyFrom.2.1 66 = .ok (.getfield 46, 3) := by decide +kernel
theorem k_Canon_copyFrom_69 : decode Y_Canon_copyFrom.2.1 69 = .ok (.putfield 46, 3) := by decide +kernel
theorem k_Canon_copyFrom_72 : decode Y_Canon_copyFrom.2.1 72 = .ok (.return_, 1) := by decide +kernel
theorem k_Canon_voices_0 : decode Y_Canon_voices.2.1 0 = .ok (.aload_n 0, 1) := by decide +kernel
theorem k_Canon_voices_1 : decode Y_Canon_voices.2.1 1 = .ok (.getfield 23, 3) := by decide +kernel
theorem k_Canon_voices_4 : decode Y_Canon_voices.2.1 4 = .ok (.invokevirtual 56, 3) := by decide +kernel
theorem k_Canon_voices_7 : decode Y_Canon_voices.2.1 7 = .ok (.ireturn, 1) := by decide +kernel
theorem k_Canon_hasVoice_0 : decode Y_Canon_hasVoice.2.1 0 = .ok (.aload_n 0, 1) := by decide +kernel
theorem k_Canon_hasVoice_1 : decode Y_Canon_hasVoice.2.1 1 = .ok (.getfield 23, 3) := by decide +kernel
theorem k_Canon_hasVoice_4 : decode Y_Canon_hasVoice.2.1 4 = .ok (.iload_n 1, 1) := by decide +kernel
theorem k_Canon_hasVoice_5 : decode Y_Canon_hasVoice.2.1 5 = .ok (.invokevirtual 60, 3) := by decide +kernel
theorem k_Canon_hasVoice_8 : decode Y_Canon_hasVoice.2.1 8 = .ok (.ireturn, 1) := by decide +kernel
theorem k_Canon_kindOf_0 : decode Y_Canon_kindOf.2.1 0 = .ok (.aload_n 0, 1) := by decide +kernel
theorem k_Canon_kindOf_1 : decode Y_Canon_kindOf.2.1 1 = .ok (.getfield 23, 3) := by decide +kernel
theorem k_Canon_kindOf_4 : decode Y_Canon_kindOf.2.1 4 = .ok (.iload_n 1, 1) := by decide +kernel
theorem k_Canon_kindOf_5 : decode Y_Canon_kindOf.2.1 5 = .ok (.invokevirtual 64, 3) := by decide +kernel
theorem k_Canon_kindOf_8 : decode Y_Canon_kindOf.2.1 8 = .ok (.ireturn, 1) := by decide +kernel
theorem k_Canon_entryOf_0 : decode Y_Canon_entryOf.2.1 0 = .ok (.aload_n 0, 1) := by decide +kernel
theorem k_Canon_entryOf_1 : decode Y_Canon_entryOf.2.1 1 = .ok (.getfield 27, 3) := by decide +kernel
theorem k_Canon_entryOf_4 : decode Y_Canon_entryOf.2.1 4 = .ok (.iload_n 1, 1) := by decide +kernel
theorem k_Canon_entryOf_5 : decode Y_Canon_entryOf.2.1 5 = .ok (.invokevirtual 64, 3) := by decide +kernel
theorem k_Canon_entryOf_8 : decode Y_Canon_entryOf.2.1 8 = .ok (.ireturn, 1) := by decide +kernel
theorem k_Canon_highOf_0 : decode Y_Canon_highOf.2.1 0 = .ok (.aload_n 0, 1) := by decide +kernel
theorem k_Canon_highOf_1 : decode Y_Canon_highOf.2.1 1 = .ok (.getfield 30, 3) := by decide +kernel
theorem k_Canon_highOf_4 : decode Y_Canon_highOf.2.1 4 = .ok (.iload_n 1, 1) := by decide +kernel
theorem k_Canon_highOf_5 : decode Y_Canon_highOf.2.1 5 = .ok (.invokevirtual 64, 3) := by decide +kernel
theorem k_Canon_highOf_8 : decode Y_Canon_highOf.2.1 8 = .ok (.ireturn, 1) := by decide +kernel
theorem k_Canon_setEntry_0 : decode Y_Canon_setEntry.2.1 0 = .ok (.aload_n 0, 1) := by decide +kernel
theorem k_Canon_setEntry_1 : decode Y_Canon_setEntry.2.1 1 = .ok (.getfield 27, 3) := by decide +kernel
theorem k_Canon_setEntry_4 : decode Y_Canon_setEntry.2.1 4 = .ok (.iload_n 1, 1) := by decide +kernel
theorem k_Canon_setEntry_5 : decode Y_Canon_setEntry.2.1 5 = .ok (.iload_n 2, 1) := by decide +kernel
theorem k_Canon_setEntry_6 : decode Y_Canon_setEntry.2.1 6 = .ok (.invokevirtual 68, 3) := by decide +kernel
theorem k_Canon_setEntry_9 : decode Y_Canon_setEntry.2.1 9 = .ok (.return_, 1) := by decide +kernel
theorem k_Canon_addVoice_0 : decode Y_Canon_addVoice.2.1 0 = .ok (.aload_n 0, 1) := by decide +kernel
theorem k_Canon_addVoice_1 : decode Y_Canon_addVoice.2.1 1 = .ok (.getfield 23, 3) := by decide +kernel
theorem k_Canon_addVoice_4 : decode Y_Canon_addVoice.2.1 4 = .ok (.iload_n 1, 1) := by decide +kernel
theorem k_Canon_addVoice_5 : decode Y_Canon_addVoice.2.1 5 = .ok (.invokevirtual 72, 3) := by decide +kernel
theorem k_Canon_addVoice_8 : decode Y_Canon_addVoice.2.1 8 = .ok (.aload_n 0, 1) := by decide +kernel
theorem k_Canon_addVoice_9 : decode Y_Canon_addVoice.2.1 9 = .ok (.getfield 27, 3) := by decide +kernel
theorem k_Canon_addVoice_12 : decode Y_Canon_addVoice.2.1 12 = .ok (.iload_n 2, 1) := by decide +kernel
theorem k_Canon_addVoice_13 : decode Y_Canon_addVoice.2.1 13 = .ok (.invokevirtual 72, 3) := by decide +kernel
theorem k_Canon_addVoice_16 : decode Y_Canon_addVoice.2.1 16 = .ok (.aload_n 0, 1) := by decide +kernel
theorem k_Canon_addVoice_17 : decode Y_Canon_addVoice.2.1 17 = .ok (.getfield 30, 3) := by decide +kernel
theorem k_Canon_addVoice_20 : decode Y_Canon_addVoice.2.1 20 = .ok (.iload_n 3, 1) := by decide +kernel
theorem k_Canon_addVoice_21 : decode Y_Canon_addVoice.2.1 21 = .ok (.invokevirtual 72, 3) := by decide +kernel
theorem k_Canon_addVoice_24 : decode Y_Canon_addVoice.2.1 24 = .ok (.return_, 1) := by decide +kernel
theorem k_Canon_tellNote_0 : decode Y_Canon_tellNote.2.1 0 = .ok (.iload_n 2, 1) := by decide +kernel
theorem k_Canon_tellNote_1 : decode Y_Canon_tellNote.2.1 1 = .ok (.iconst 1, 1) := by decide +kernel
theorem k_Canon_tellNote_2 : decode Y_Canon_tellNote.2.1 2 = .ok (.if_icmp .lt 20, 3) := by decide +kernel
theorem k_Canon_tellNote_5 : decode Y_Canon_tellNote.2.1 5 = .ok (.iload_n 2, 1) := by decide +kernel
theorem k_Canon_tellNote_6 : decode Y_Canon_tellNote.2.1 6 = .ok (.iconst 3, 1) := by decide +kernel
theorem k_Canon_tellNote_7 : decode Y_Canon_tellNote.2.1 7 = .ok (.if_icmp .gt 15, 3) := by decide +kernel
theorem k_Canon_tellNote_10 : decode Y_Canon_tellNote.2.1 10 = .ok (.aload_n 0, 1) := by decide +kernel
theorem k_Canon_tellNote_11 : decode Y_Canon_tellNote.2.1 11 = .ok (.getfield 12, 3) := by decide +kernel
theorem k_Canon_tellNote_14 : decode Y_Canon_tellNote.2.1 14 = .ok (.invokevirtual 75, 3) := by decide +kernel
theorem k_Canon_tellNote_17 : decode Y_Canon_tellNote.2.1 17 = .ok (.bipush 12, 2) := by decide +kernel
theorem k_Canon_tellNote_19 : decode Y_Canon_tellNote.2.1 19 = .ok (.if_icmp .lt 5, 3) := by decide +kernel
theorem k_Canon_tellNote_22 : decode Y_Canon_tellNote.2.1 22 = .ok (.iconst 0, 1) := by decide +kernel
theorem k_Canon_tellNote_23 : decode Y_Canon_tellNote.2.1 23 = .ok (.ireturn, 1) := by decide +kernel
theorem k_Canon_tellNote_24 : decode Y_Canon_tellNote.2.1 24 = .ok (.aload_n 0, 1) := by decide +kernel
theorem k_Canon_tellNote_25 : decode Y_Canon_tellNote.2.1 25 = .ok (.getfield 12, 3) := by decide +kernel
theorem k_Canon_tellNote_28 : decode Y_Canon_tellNote.2.1 28 = .ok (.iload_n 1, 1) := by decide +kernel
theorem k_Canon_tellNote_29 : decode Y_Canon_tellNote.2.1 29 = .ok (.iload_n 2, 1) := by decide +kernel
theorem k_Canon_tellNote_30 : decode Y_Canon_tellNote.2.1 30 = .ok (.invokevirtual 78, 3) := by decide +kernel
theorem k_Canon_tellNote_33 : decode Y_Canon_tellNote.2.1 33 = .ok (.iconst 1, 1) := by decide +kernel
theorem k_Canon_tellNote_34 : decode Y_Canon_tellNote.2.1 34 = .ok (.ireturn, 1) := by decide +kernel
theorem k_Canon_tellVoice_0 : decode Y_Canon_tellVoice.2.1 0 = .ok (.iload_n 2, 1) := by decide +kernel
theorem k_Canon_tellVoice_1 : decode Y_Canon_tellVoice.2.1 1 = .ok (.bipush 60, 2) := by decide +kernel
theorem k_Canon_tellVoice_3 : decode Y_Canon_tellVoice.2.1 3 = .ok (.if_icmp .gt 12, 3) := by decide +kernel
theorem k_Canon_tellVoice_6 : decode Y_Canon_tellVoice.2.1 6 = .ok (.aload_n 0, 1) := by decide +kernel
theorem k_Canon_tellVoice_7 : decode Y_Canon_tellVoice.2.1 7 = .ok (.invokevirtual 80, 3) := by decide +kernel
theorem k_Canon_tellVoice_10 : decode Y_Canon_tellVoice.2.1 10 = .ok (.bipush 6, 2) := by decide +kernel
theorem k_Canon_tellVoice_12 : decode Y_Canon_tellVoice.2.1 12 = .ok (.if_icmp .lt 5, 3) := by decide +kernel
theorem k_Canon_tellVoice_15 : decode Y_Canon_tellVoice.2.1 15 = .ok (.iconst 0, 1) := by decide +kernel
theorem k_Canon_tellVoice_16 : decode Y_Canon_tellVoice.2.1 16 = .ok (.ireturn, 1) := by decide +kernel
theorem k_Canon_tellVoice_17 : decode Y_Canon_tellVoice.2.1 17 = .ok (.aload_n 0, 1) := by decide +kernel
theorem k_Canon_tellVoice_18 : decode Y_Canon_tellVoice.2.1 18 = .ok (.iload_n 1, 1) := by decide +kernel
theorem k_Canon_tellVoice_19 : decode Y_Canon_tellVoice.2.1 19 = .ok (.iload_n 2, 1) := by decide +kernel
theorem k_Canon_tellVoice_20 : decode Y_Canon_tellVoice.2.1 20 = .ok (.iload_n 3, 1) := by decide +kernel
theorem k_Canon_tellVoice_21 : decode Y_Canon_tellVoice.2.1 21 = .ok (.invokevirtual 83, 3) := by decide +kernel
theorem k_Canon_tellVoice_24 : decode Y_Canon_tellVoice.2.1 24 = .ok (.iconst 1, 1) := by decide +kernel
theorem k_Canon_tellVoice_25 : decode Y_Canon_tellVoice.2.1 25 = .ok (.ireturn, 1) := by decide +kernel
theorem k_Canon_tellRounds_0 : decode Y_Canon_tellRounds.2.1 0 = .ok (.iload_n 1, 1) := by decide +kernel
theorem k_Canon_tellRounds_1 : decode Y_Canon_tellRounds.2.1 1 = .ok (.iconst 1, 1) := by decide +kernel
theorem k_Canon_tellRounds_2 : decode Y_Canon_tellRounds.2.1 2 = .ok (.if_icmp .lt 13, 3) := by decide +kernel
theorem k_Canon_tellRounds_5 : decode Y_Canon_tellRounds.2.1 5 = .ok (.iload_n 1, 1) := by decide +kernel
theorem k_Canon_tellRounds_6 : decode Y_Canon_tellRounds.2.1 6 = .ok (.iconst 4, 1) := by decide +kernel
theorem k_Canon_tellRounds_7 : decode Y_Canon_tellRounds.2.1 7 = .ok (.if_icmp .gt 8, 3) := by decide +kernel
theorem k_Canon_tellRounds_10 : decode Y_Canon_tellRounds.2.1 10 = .ok (.iload_n 2, 1) := by decide +kernel
theorem k_Canon_tellRounds_11 : decode Y_Canon_tellRounds.2.1 11 = .ok (.iconst 2, 1) := by decide +kernel
theorem k_Canon_tellRounds_12 : decode Y_Canon_tellRounds.2.1 12 = .ok (.if_icmp .le 5, 3) := by decide +kernel
theorem k_Canon_tellRounds_15 : decode Y_Canon_tellRounds.2.1 15 = .ok (.iconst 0, 1) := by decide +kernel
theorem k_Canon_tellRounds_16 : decode Y_Canon_tellRounds.2.1 16 = .ok (.ireturn, 1) := by decide +kernel
theorem k_Canon_tellRounds_17 : decode Y_Canon_tellRounds.2.1 17 = .ok (.aload_n 0, 1) := by decide +kernel
theorem k_Canon_tellRounds_18 : decode Y_Canon_tellRounds.2.1 18 = .ok (.iload_n 1, 1) := by decide +kernel
theorem k_Canon_tellRounds_19 : decode Y_Canon_tellRounds.2.1 19 = .ok (.putfield 39, 3) := by decide +kernel
theorem k_Canon_tellRounds_22 : decode Y_Canon_tellRounds.2.1 22 = .ok (.aload_n 0, 1) := by decide +kernel
theorem k_Canon_tellRounds_23 : decode Y_Canon_tellRounds.2.1 23 = .ok (.iload_n 2, 1) := by decide +kernel
theorem k_Canon_tellRounds_24 : decode Y_Canon_tellRounds.2.1 24 = .ok (.putfield 43, 3) := by decide +kernel
theorem k_Canon_tellRounds_27 : decode Y_Canon_tellRounds.2.1 27 = .ok (.iconst 1, 1) := by decide +kernel
theorem k_Canon_tellRounds_28 : decode Y_Canon_tellRounds.2.1 28 = .ok (.ireturn, 1) := by decide +kernel
theorem k_Canon_tellWell_0 : decode Y_Canon_tellWell.2.1 0 = .ok (.iload_n 1, 1) := by decide +kernel
theorem k_Canon_tellWell_1 : decode Y_Canon_tellWell.2.1 1 = .ok (.bipush 7, 2) := by decide +kernel
theorem k_Canon_tellWell_3 : decode Y_Canon_tellWell.2.1 3 = .ok (.if_icmp .lt 5, 3) := by decide +kernel
theorem k_Canon_tellWell_6 : decode Y_Canon_tellWell.2.1 6 = .ok (.iconst 0, 1) := by decide +kernel
theorem k_Canon_tellWell_7 : decode Y_Canon_tellWell.2.1 7 = .ok (.ireturn, 1) := by decide +kernel
theorem k_Canon_tellWell_8 : decode Y_Canon_tellWell.2.1 8 = .ok (.aload_n 0, 1) := by decide +kernel
theorem k_Canon_tellWell_9 : decode Y_Canon_tellWell.2.1 9 = .ok (.dup, 1) := by decide +kernel
theorem k_Canon_tellWell_10 : decode Y_Canon_tellWell.2.1 10 = .ok (.getfield 46, 3) := by decide +kernel
theorem k_Canon_tellWell_13 : decode Y_Canon_tellWell.2.1 13 = .ok (.iconst 1, 1) := by decide +kernel
theorem k_Canon_tellWell_14 : decode Y_Canon_tellWell.2.1 14 = .ok (.iload_n 1, 1) := by decide +kernel
theorem k_Canon_tellWell_15 : decode Y_Canon_tellWell.2.1 15 = .ok (.ishl, 1) := by decide +kernel
theorem k_Canon_tellWell_16 : decode Y_Canon_tellWell.2.1 16 = .ok (.ixor, 1) := by decide +kernel
theorem k_Canon_tellWell_17 : decode Y_Canon_tellWell.2.1 17 = .ok (.putfield 46, 3) := by decide +kernel
theorem k_Canon_tellWell_20 : decode Y_Canon_tellWell.2.1 20 = .ok (.iconst 1, 1) := by decide +kernel
theorem k_Canon_tellWell_21 : decode Y_Canon_tellWell.2.1 21 = .ok (.ireturn, 1) := by decide +kernel
theorem k_Canon_roundBeats_0 : decode Y_Canon_roundBeats.2.1 0 = .ok (.aload_n 0, 1) := by decide +kernel
theorem k_Canon_roundBeats_1 : decode Y_Canon_roundBeats.2.1 1 = .ok (.getfield 23, 3) := by decide +kernel
theorem k_Canon_roundBeats_4 : decode Y_Canon_roundBeats.2.1 4 = .ok (.iload_n 1, 1) := by decide +kernel
theorem k_Canon_roundBeats_5 : decode Y_Canon_roundBeats.2.1 5 = .ok (.invokevirtual 64, 3) := by decide +kernel
theorem k_Canon_roundBeats_8 : decode Y_Canon_roundBeats.2.1 8 = .ok (.iconst 3, 1) := by decide +kernel
theorem k_Canon_roundBeats_9 : decode Y_Canon_roundBeats.2.1 9 = .ok (.if_icmp .ne 15, 3) := by decide +kernel
theorem k_Canon_roundBeats_12 : decode Y_Canon_roundBeats.2.1 12 = .ok (.iconst 2, 1) := by decide +kernel
theorem k_Canon_roundBeats_13 : decode Y_Canon_roundBeats.2.1 13 = .ok (.aload_n 0, 1) := by decide +kernel
theorem k_Canon_roundBeats_14 : decode Y_Canon_roundBeats.2.1 14 = .ok (.getfield 12, 3) := by decide +kernel
theorem k_Canon_roundBeats_17 : decode Y_Canon_roundBeats.2.1 17 = .ok (.getfield 87, 3) := by decide +kernel
theorem k_Canon_roundBeats_20 : decode Y_Canon_roundBeats.2.1 20 = .ok (.imul, 1) := by decide +kernel
theorem k_Canon_roundBeats_21 : decode Y_Canon_roundBeats.2.1 21 = .ok (.goto 10, 3) := by decide +kernel
theorem k_Canon_roundBeats_24 : decode Y_Canon_roundBeats.2.1 24 = .ok (.aload_n 0, 1) := by decide +kernel
theorem k_Canon_roundBeats_25 : decode Y_Canon_roundBeats.2.1 25 = .ok (.getfield 12, 3) := by decide +kernel
theorem k_Canon_roundBeats_28 : decode Y_Canon_roundBeats.2.1 28 = .ok (.getfield 87, 3) := by decide +kernel
theorem k_Canon_roundBeats_31 : decode Y_Canon_roundBeats.2.1 31 = .ok (.ireturn, 1) := by decide +kernel
theorem k_Canon_stillFrom_0 : decode Y_Canon_stillFrom.2.1 0 = .ok (.aload_n 0, 1) := by decide +kernel
theorem k_Canon_stillFrom_1 : decode Y_Canon_stillFrom.2.1 1 = .ok (.getfield 27, 3) := by decide +kernel
theorem k_Canon_stillFrom_4 : decode Y_Canon_stillFrom.2.1 4 = .ok (.iload_n 1, 1) := by decide +kernel
theorem k_Canon_stillFrom_5 : decode Y_Canon_stillFrom.2.1 5 = .ok (.invokevirtual 64, 3) := by decide +kernel
theorem k_Canon_stillFrom_8 : decode Y_Canon_stillFrom.2.1 8 = .ok (.aload_n 0, 1) := by decide +kernel
theorem k_Canon_stillFrom_9 : decode Y_Canon_stillFrom.2.1 9 = .ok (.getfield 39, 3) := by decide +kernel
theorem k_Canon_stillFrom_12 : decode Y_Canon_stillFrom.2.1 12 = .ok (.aload_n 0, 1) := by decide +kernel
theorem k_Canon_stillFrom_13 : decode Y_Canon_stillFrom.2.1 13 = .ok (.iload_n 1, 1) := by decide +kernel
theorem k_Canon_stillFrom_14 : decode Y_Canon_stillFrom.2.1 14 = .ok (.invokevirtual 90, 3) := by decide +kernel
theorem k_Canon_stillFrom_17 : decode Y_Canon_stillFrom.2.1 17 = .ok (.imul, 1) := by decide +kernel
theorem k_Canon_stillFrom_18 : decode Y_Canon_stillFrom.2.1 18 = .ok (.iadd, 1) := by decide +kernel
theorem k_Canon_stillFrom_19 : decode Y_Canon_stillFrom.2.1 19 = .ok (.ireturn, 1) := by decide +kernel
theorem k_Canon_end_0 : decode Y_Canon_end.2.1 0 = .ok (.iconst 0, 1) := by decide +kernel
theorem k_Canon_end_1 : decode Y_Canon_end.2.1 1 = .ok (.istore_n 1, 1) := by decide +kernel
theorem k_Canon_end_2 : decode Y_Canon_end.2.1 2 = .ok (.iconst 0, 1) := by decide +kernel
theorem k_Canon_end_3 : decode Y_Canon_end.2.1 3 = .ok (.istore_n 2, 1) := by decide +kernel
theorem k_Canon_end_4 : decode Y_Canon_end.2.1 4 = .ok (.iload_n 2, 1) := by decide +kernel
theorem k_Canon_end_5 : decode Y_Canon_end.2.1 5 = .ok (.aload_n 0, 1) := by decide +kernel
theorem k_Canon_end_6 : decode Y_Canon_end.2.1 6 = .ok (.invokevirtual 80, 3) := by decide +kernel
theorem k_Canon_end_9 : decode Y_Canon_end.2.1 9 = .ok (.if_icmp .ge 29, 3) := by decide +kernel
theorem k_Canon_end_12 : decode Y_Canon_end.2.1 12 = .ok (.aload_n 0, 1) := by decide +kernel
theorem k_Canon_end_13 : decode Y_Canon_end.2.1 13 = .ok (.getfield 12, 3) := by decide +kernel
theorem k_Canon_end_16 : decode Y_Canon_end.2.1 16 = .ok (.getfield 87, 3) := by decide +kernel
theorem k_Canon_end_19 : decode Y_Canon_end.2.1 19 = .ok (.ifCond .le 19, 3) := by decide +kernel
theorem k_Canon_end_22 : decode Y_Canon_end.2.1 22 = .ok (.iload_n 1, 1) := by decide +kernel
theorem k_Canon_end_23 : decode Y_Canon_end.2.1 23 = .ok (.aload_n 0, 1) := by decide +kernel
theorem k_Canon_end_24 : decode Y_Canon_end.2.1 24 = .ok (.iload_n 2, 1) := by decide +kernel
theorem k_Canon_end_25 : decode Y_Canon_end.2.1 25 = .ok (.invokevirtual 93, 3) := by decide +kernel
theorem k_Canon_end_28 : decode Y_Canon_end.2.1 28 = .ok (.invokestatic 96, 3) := by decide +kernel
theorem k_Canon_end_31 : decode Y_Canon_end.2.1 31 = .ok (.istore_n 1, 1) := by decide +kernel
theorem k_Canon_end_32 : decode Y_Canon_end.2.1 32 = .ok (.iinc 2 1, 3) := by decide +kernel
theorem k_Canon_end_35 : decode Y_Canon_end.2.1 35 = .ok (.goto (-31), 3) := by decide +kernel
theorem k_Canon_end_38 : decode Y_Canon_end.2.1 38 = .ok (.iload_n 1, 1) := by decide +kernel
theorem k_Canon_end_39 : decode Y_Canon_end.2.1 39 = .ok (.ireturn, 1) := by decide +kernel
theorem k_Canon_noteSung_0 : decode Y_Canon_noteSung.2.1 0 = .ok (.aload_n 0, 1) := by decide +kernel
theorem k_Canon_noteSung_1 : decode Y_Canon_noteSung.2.1 1 = .ok (.iload_n 1, 1) := by decide +kernel
theorem k_Canon_noteSung_2 : decode Y_Canon_noteSung.2.1 2 = .ok (.invokevirtual 90, 3) := by decide +kernel
theorem k_Canon_noteSung_5 : decode Y_Canon_noteSung.2.1 5 = .ok (.istore_n 3, 1) := by decide +kernel
theorem k_Canon_noteSung_6 : decode Y_Canon_noteSung.2.1 6 = .ok (.iload_n 2, 1) := by decide +kernel
theorem k_Canon_noteSung_7 : decode Y_Canon_noteSung.2.1 7 = .ok (.aload_n 0, 1) := by decide +kernel
theorem k_Canon_noteSung_8 : decode Y_Canon_noteSung.2.1 8 = .ok (.getfield 27, 3) := by decide +kernel
theorem k_Canon_noteSung_11 : decode Y_Canon_noteSung.2.1 11 = .ok (.iload_n 1, 1) := by decide +kernel
theorem k_Canon_noteSung_12 : decode Y_Canon_noteSung.2.1 12 = .ok (.invokevirtual 64, 3) := by decide +kernel
theorem k_Canon_noteSung_15 : decode Y_Canon_noteSung.2.1 15 = .ok (.isub, 1) := by decide +kernel
theorem k_Canon_noteSung_16 : decode Y_Canon_noteSung.2.1 16 = .ok (.istore 4, 2) := by decide +kernel
theorem k_Canon_noteSung_18 : decode Y_Canon_noteSung.2.1 18 = .ok (.iload_n 3, 1) := by decide +kernel
theorem k_Canon_noteSung_19 : decode Y_Canon_noteSung.2.1 19 = .ok (.ifCond .le 19, 3) := by decide +kernel
theorem k_Canon_noteSung_22 : decode Y_Canon_noteSung.2.1 22 = .ok (.iload 4, 2) := by decide +kernel
theorem k_Canon_noteSung_24 : decode Y_Canon_noteSung.2.1 24 = .ok (.ifCond .lt 14, 3) := by decide +kernel
theorem k_Canon_noteSung_27 : decode Y_Canon_noteSung.2.1 27 = .ok (.iload 4, 2) := by decide +kernel
theorem k_Canon_noteSung_29 : decode Y_Canon_noteSung.2.1 29 = .ok (.aload_n 0, 1) := by decide +kernel
theorem k_Canon_noteSung_30 : decode Y_Canon_noteSung.2.1 30 = .ok (.getfield 39, 3) := by decide +kernel
theorem k_Canon_noteSung_33 : decode Y_Canon_noteSung.2.1 33 = .ok (.iload_n 3, 1) := by decide +kernel
theorem k_Canon_noteSung_34 : decode Y_Canon_noteSung.2.1 34 = .ok (.imul, 1) := by decide +kernel
theorem k_Canon_noteSung_35 : decode Y_Canon_noteSung.2.1 35 = .ok (.if_icmp .lt 5, 3) := by decide +kernel
theorem k_Canon_noteSung_38 : decode Y_Canon_noteSung.2.1 38 = .ok (.iconst (-1), 1) := by decide +kernel
theorem k_Canon_noteSung_39 : decode Y_Canon_noteSung.2.1 39 = .ok (.ireturn, 1) := by decide +kernel
theorem k_Canon_noteSung_40 : decode Y_Canon_noteSung.2.1 40 = .ok (.iload 4, 2) := by decide +kernel
theorem k_Canon_noteSung_42 : decode Y_Canon_noteSung.2.1 42 = .ok (.iload_n 3, 1) := by decide +kernel
theorem k_Canon_noteSung_43 : decode Y_Canon_noteSung.2.1 43 = .ok (.irem, 1) := by decide +kernel
theorem k_Canon_noteSung_44 : decode Y_Canon_noteSung.2.1 44 = .ok (.istore 5, 2) := by decide +kernel
theorem k_Canon_noteSung_46 : decode Y_Canon_noteSung.2.1 46 = .ok (.aload_n 0, 1) := by decide +kernel
theorem k_Canon_noteSung_47 : decode Y_Canon_noteSung.2.1 47 = .ok (.getfield 23, 3) := by decide +kernel
theorem k_Canon_noteSung_50 : decode Y_Canon_noteSung.2.1 50 = .ok (.iload_n 1, 1) := by decide +kernel
theorem k_Canon_noteSung_51 : decode Y_Canon_noteSung.2.1 51 = .ok (.invokevirtual 64, 3) := by decide +kernel
theorem k_Canon_noteSung_54 : decode Y_Canon_noteSung.2.1 54 = .ok (.tableswitch 66 1 5 #[34, 66, 54, 66, 34], 34) := by decide +kernel
theorem k_Canon_noteSung_88 : decode Y_Canon_noteSung.2.1 88 = .ok (.aload_n 0, 1) := by decide +kernel
theorem k_Canon_noteSung_89 : decode Y_Canon_noteSung.2.1 89 = .ok (.getfield 12, 3) := by decide +kernel
theorem k_Canon_noteSung_92 : decode Y_Canon_noteSung.2.1 92 = .ok (.aload_n 0, 1) := by decide +kernel
theorem k_Canon_noteSung_93 : decode Y_Canon_noteSung.2.1 93 = .ok (.getfield 12, 3) := by decide +kernel
theorem k_Canon_noteSung_96 : decode Y_Canon_noteSung.2.1 96 = .ok (.getfield 87, 3) := by decide +kernel
theorem k_Canon_noteSung_99 : decode Y_Canon_noteSung.2.1 99 = .ok (.iconst 1, 1) := by decide +kernel
theorem k_Canon_noteSung_100 : decode Y_Canon_noteSung.2.1 100 = .ok (.isub, 1) := by decide +kernel
theorem k_Canon_noteSung_101 : decode Y_Canon_noteSung.2.1 101 = .ok (.iload 5, 2) := by decide +kernel
theorem k_Canon_noteSung_103 : decode Y_Canon_noteSung.2.1 103 = .ok (.isub, 1) := by decide +kernel
theorem k_Canon_noteSung_104 : decode Y_Canon_noteSung.2.1 104 = .ok (.invokevirtual 102, 3) := by decide +kernel
theorem k_Canon_noteSung_107 : decode Y_Canon_noteSung.2.1 107 = .ok (.ireturn, 1) := by decide +kernel
theorem k_Canon_noteSung_108 : decode Y_Canon_noteSung.2.1 108 = .ok (.aload_n 0, 1) := by decide +kernel
theorem k_Canon_noteSung_109 : decode Y_Canon_noteSung.2.1 109 = .ok (.getfield 12, 3) := by decide +kernel
theorem k_Canon_noteSung_112 : decode Y_Canon_noteSung.2.1 112 = .ok (.iload 5, 2) := by decide +kernel
theorem k_Canon_noteSung_114 : decode Y_Canon_noteSung.2.1 114 = .ok (.iconst 2, 1) := by decide +kernel
theorem k_Canon_noteSung_115 : decode Y_Canon_noteSung.2.1 115 = .ok (.idiv, 1) := by decide +kernel
theorem k_Canon_noteSung_116 : decode Y_Canon_noteSung.2.1 116 = .ok (.invokevirtual 102, 3) := by decide +kernel
theorem k_Canon_noteSung_119 : decode Y_Canon_noteSung.2.1 119 = .ok (.ireturn, 1) := by decide +kernel
theorem k_Canon_noteSung_120 : decode Y_Canon_noteSung.2.1 120 = .ok (.aload_n 0, 1) := by decide +kernel
theorem k_Canon_noteSung_121 : decode Y_Canon_noteSung.2.1 121 = .ok (.getfield 12, 3) := by decide +kernel
theorem k_Canon_noteSung_124 : decode Y_Canon_noteSung.2.1 124 = .ok (.iload 5, 2) := by decide +kernel
theorem k_Canon_noteSung_126 : decode Y_Canon_noteSung.2.1 126 = .ok (.invokevirtual 102, 3) := by decide +kernel
theorem k_Canon_noteSung_129 : decode Y_Canon_noteSung.2.1 129 = .ok (.ireturn, 1) := by decide +kernel
theorem k_Canon_isTurned_0 : decode Y_Canon_isTurned.2.1 0 = .ok (.aload_n 0, 1) := by decide +kernel
theorem k_Canon_isTurned_1 : decode Y_Canon_isTurned.2.1 1 = .ok (.getfield 23, 3) := by decide +kernel
theorem k_Canon_isTurned_4 : decode Y_Canon_isTurned.2.1 4 = .ok (.iload_n 1, 1) := by decide +kernel
theorem k_Canon_isTurned_5 : decode Y_Canon_isTurned.2.1 5 = .ok (.invokevirtual 64, 3) := by decide +kernel
theorem k_Canon_isTurned_8 : decode Y_Canon_isTurned.2.1 8 = .ok (.istore_n 2, 1) := by decide +kernel
theorem k_Canon_isTurned_9 : decode Y_Canon_isTurned.2.1 9 = .ok (.iload_n 2, 1) := by decide +kernel
theorem k_Canon_isTurned_10 : decode Y_Canon_isTurned.2.1 10 = .ok (.iconst 2, 1) := by decide +kernel
theorem k_Canon_isTurned_11 : decode Y_Canon_isTurned.2.1 11 = .ok (.if_icmp .eq 8, 3) := by decide +kernel
theorem k_Canon_isTurned_14 : decode Y_Canon_isTurned.2.1 14 = .ok (.iload_n 2, 1) := by decide +kernel
theorem k_Canon_isTurned_15 : decode Y_Canon_isTurned.2.1 15 = .ok (.iconst 5, 1) := by decide +kernel
theorem k_Canon_isTurned_16 : decode Y_Canon_isTurned.2.1 16 = .ok (.if_icmp .ne 7, 3) := by decide +kernel
theorem k_Canon_isTurned_19 : decode Y_Canon_isTurned.2.1 19 = .ok (.iconst 1, 1) := by decide +kernel
theorem k_Canon_isTurned_20 : decode Y_Canon_isTurned.2.1 20 = .ok (.goto 4, 3) := by decide +kernel
theorem k_Canon_isTurned_23 : decode Y_Canon_isTurned.2.1 23 = .ok (.iconst 0, 1) := by decide +kernel
theorem k_Canon_isTurned_24 : decode Y_Canon_isTurned.2.1 24 = .ok (.ireturn, 1) := by decide +kernel
theorem k_Canon_lift_0 : decode Y_Canon_lift.2.1 0 = .ok (.aload_n 0, 1) := by decide +kernel
theorem k_Canon_lift_1 : decode Y_Canon_lift.2.1 1 = .ok (.iload_n 1, 1) := by decide +kernel
theorem k_Canon_lift_2 : decode Y_Canon_lift.2.1 2 = .ok (.invokevirtual 90, 3) := by decide +kernel
theorem k_Canon_lift_5 : decode Y_Canon_lift.2.1 5 = .ok (.istore_n 3, 1) := by decide +kernel
theorem k_Canon_lift_6 : decode Y_Canon_lift.2.1 6 = .ok (.iload_n 3, 1) := by decide +kernel
theorem k_Canon_lift_7 : decode Y_Canon_lift.2.1 7 = .ok (.ifCond .le 18, 3) := by decide +kernel
theorem k_Canon_lift_10 : decode Y_Canon_lift.2.1 10 = .ok (.iload_n 2, 1) := by decide +kernel
theorem k_Canon_lift_11 : decode Y_Canon_lift.2.1 11 = .ok (.aload_n 0, 1) := by decide +kernel
theorem k_Canon_lift_12 : decode Y_Canon_lift.2.1 12 = .ok (.getfield 27, 3) := by decide +kernel
theorem k_Canon_lift_15 : decode Y_Canon_lift.2.1 15 = .ok (.iload_n 1, 1) := by decide +kernel
theorem k_Canon_lift_16 : decode Y_Canon_lift.2.1 16 = .ok (.invokevirtual 64, 3) := by decide +kernel
theorem k_Canon_lift_19 : decode Y_Canon_lift.2.1 19 = .ok (.isub, 1) := by decide +kernel
theorem k_Canon_lift_20 : decode Y_Canon_lift.2.1 20 = .ok (.iload_n 3, 1) := by decide +kernel
theorem k_Canon_lift_21 : decode Y_Canon_lift.2.1 21 = .ok (.idiv, 1) := by decide +kernel
theorem k_Canon_lift_22 : decode Y_Canon_lift.2.1 22 = .ok (.goto 4, 3) := by decide +kernel
theorem k_Canon_lift_25 : decode Y_Canon_lift.2.1 25 = .ok (.iconst 0, 1) := by decide +kernel
theorem k_Canon_lift_26 : decode Y_Canon_lift.2.1 26 = .ok (.istore 4, 2) := by decide +kernel
theorem k_Canon_lift_28 : decode Y_Canon_lift.2.1 28 = .ok (.aload_n 0, 1) := by decide +kernel
theorem k_Canon_lift_29 : decode Y_Canon_lift.2.1 29 = .ok (.getfield 23, 3) := by decide +kernel
theorem k_Canon_lift_32 : decode Y_Canon_lift.2.1 32 = .ok (.iload_n 1, 1) := by decide +kernel
theorem k_Canon_lift_33 : decode Y_Canon_lift.2.1 33 = .ok (.invokevirtual 64, 3) := by decide +kernel
theorem k_Canon_lift_36 : decode Y_Canon_lift.2.1 36 = .ok (.iconst 4, 1) := by decide +kernel
theorem k_Canon_lift_37 : decode Y_Canon_lift.2.1 37 = .ok (.if_icmp .ne 7, 3) := by decide +kernel
theorem k_Canon_lift_40 : decode Y_Canon_lift.2.1 40 = .ok (.iconst 4, 1) := by decide +kernel
theorem k_Canon_lift_41 : decode Y_Canon_lift.2.1 41 = .ok (.goto 4, 3) := by decide +kernel
theorem k_Canon_lift_44 : decode Y_Canon_lift.2.1 44 = .ok (.iconst 0, 1) := by decide +kernel
theorem k_Canon_lift_45 : decode Y_Canon_lift.2.1 45 = .ok (.istore 5, 2) := by decide +kernel
theorem k_Canon_lift_47 : decode Y_Canon_lift.2.1 47 = .ok (.iload 5, 2) := by decide +kernel
theorem k_Canon_lift_49 : decode Y_Canon_lift.2.1 49 = .ok (.aload_n 0, 1) := by decide +kernel
theorem k_Canon_lift_50 : decode Y_Canon_lift.2.1 50 = .ok (.getfield 30, 3) := by decide +kernel
theorem k_Canon_lift_53 : decode Y_Canon_lift.2.1 53 = .ok (.iload_n 1, 1) := by decide +kernel
theorem k_Canon_lift_54 : decode Y_Canon_lift.2.1 54 = .ok (.invokevirtual 64, 3) := by decide +kernel
theorem k_Canon_lift_57 : decode Y_Canon_lift.2.1 57 = .ok (.iadd, 1) := by decide +kernel
theorem k_Canon_lift_58 : decode Y_Canon_lift.2.1 58 = .ok (.aload_n 0, 1) := by decide +kernel
theorem k_Canon_lift_59 : decode Y_Canon_lift.2.1 59 = .ok (.getfield 43, 3) := by decide +kernel
theorem k_Canon_lift_62 : decode Y_Canon_lift.2.1 62 = .ok (.iload 4, 2) := by decide +kernel
theorem k_Canon_lift_64 : decode Y_Canon_lift.2.1 64 = .ok (.imul, 1) := by decide +kernel
theorem k_Canon_lift_65 : decode Y_Canon_lift.2.1 65 = .ok (.iadd, 1) := by decide +kernel
theorem k_Canon_lift_66 : decode Y_Canon_lift.2.1 66 = .ok (.ireturn, 1) := by decide +kernel
theorem k_Canon_soundOf_0 : decode Y_Canon_soundOf.2.1 0 = .ok (.aload_n 0, 1) := by decide +kernel
theorem k_Canon_soundOf_1 : decode Y_Canon_soundOf.2.1 1 = .ok (.iload_n 1, 1) := by decide +kernel
theorem k_Canon_soundOf_2 : decode Y_Canon_soundOf.2.1 2 = .ok (.iload_n 2, 1) := by decide +kernel
theorem k_Canon_soundOf_3 : decode Y_Canon_soundOf.2.1 3 = .ok (.invokevirtual 105, 3) := by decide +kernel
theorem k_Canon_soundOf_6 : decode Y_Canon_soundOf.2.1 6 = .ok (.istore_n 3, 1) := by decide +kernel
theorem k_Canon_soundOf_7 : decode Y_Canon_soundOf.2.1 7 = .ok (.iload_n 3, 1) := by decide +kernel
theorem k_Canon_soundOf_8 : decode Y_Canon_soundOf.2.1 8 = .ok (.ifCond .ge 7, 3) := by decide +kernel
theorem k_Canon_soundOf_11 : decode Y_Canon_soundOf.2.1 11 = .ok (.sipush 999, 3) := by decide +kernel
theorem k_Canon_soundOf_14 : decode Y_Canon_soundOf.2.1 14 = .ok (.ireturn, 1) := by decide +kernel
theorem k_Canon_soundOf_15 : decode Y_Canon_soundOf.2.1 15 = .ok (.aload_n 0, 1) := by decide +kernel
theorem k_Canon_soundOf_16 : decode Y_Canon_soundOf.2.1 16 = .ok (.getfield 12, 3) := by decide +kernel
theorem k_Canon_soundOf_19 : decode Y_Canon_soundOf.2.1 19 = .ok (.iload_n 3, 1) := by decide +kernel
theorem k_Canon_soundOf_20 : decode Y_Canon_soundOf.2.1 20 = .ok (.invokevirtual 108, 3) := by decide +kernel
theorem k_Canon_soundOf_23 : decode Y_Canon_soundOf.2.1 23 = .ok (.istore 4, 2) := by decide +kernel
theorem k_Canon_soundOf_25 : decode Y_Canon_soundOf.2.1 25 = .ok (.aload_n 0, 1) := by decide +kernel
theorem k_Canon_soundOf_26 : decode Y_Canon_soundOf.2.1 26 = .ok (.iload_n 1, 1) := by decide +kernel
theorem k_Canon_soundOf_27 : decode Y_Canon_soundOf.2.1 27 = .ok (.invokevirtual 111, 3) := by decide +kernel
theorem k_Canon_soundOf_30 : decode Y_Canon_soundOf.2.1 30 = .ok (.ifCond .eq 19, 3) := by decide +kernel
theorem k_Canon_soundOf_33 : decode Y_Canon_soundOf.2.1 33 = .ok (.iconst 2, 1) := by decide +kernel
theorem k_Canon_soundOf_34 : decode Y_Canon_soundOf.2.1 34 = .ok (.aload_n 0, 1) := by decide +kernel
theorem k_Canon_soundOf_35 : decode Y_Canon_soundOf.2.1 35 = .ok (.getfield 12, 3) := by decide +kernel
theorem k_Canon_soundOf_38 : decode Y_Canon_soundOf.2.1 38 = .ok (.iconst 0, 1) := by decide +kernel
theorem k_Canon_soundOf_39 : decode Y_Canon_soundOf.2.1 39 = .ok (.invokevirtual 108, 3) := by decide +kernel
theorem k_Canon_soundOf_42 : decode Y_Canon_soundOf.2.1 42 = .ok (.imul, 1) := by decide +kernel
theorem k_Canon_soundOf_43 : decode Y_Canon_soundOf.2.1 43 = .ok (.iload 4, 2) := by decide +kernel
theorem k_Canon_soundOf_45 : decode Y_Canon_soundOf.2.1 45 = .ok (.isub, 1) := by decide +kernel
theorem k_Canon_soundOf_46 : decode Y_Canon_soundOf.2.1 46 = .ok (.goto 5, 3) := by decide +kernel
theorem k_Canon_soundOf_49 : decode Y_Canon_soundOf.2.1 49 = .ok (.iload 4, 2) := by decide +kernel
theorem k_Canon_soundOf_51 : decode Y_Canon_soundOf.2.1 51 = .ok (.istore 5, 2) := by decide +kernel
theorem k_Canon_soundOf_53 : decode Y_Canon_soundOf.2.1 53 = .ok (.iload 5, 2) := by decide +kernel
theorem k_Canon_soundOf_55 : decode Y_Canon_soundOf.2.1 55 = .ok (.aload_n 0, 1) := by decide +kernel
theorem k_Canon_soundOf_56 : decode Y_Canon_soundOf.2.1 56 = .ok (.iload_n 1, 1) := by decide +kernel
theorem k_Canon_soundOf_57 : decode Y_Canon_soundOf.2.1 57 = .ok (.iload_n 2, 1) := by decide +kernel
theorem k_Canon_soundOf_58 : decode Y_Canon_soundOf.2.1 58 = .ok (.invokevirtual 114, 3) := by decide +kernel
theorem k_Canon_soundOf_61 : decode Y_Canon_soundOf.2.1 61 = .ok (.iadd, 1) := by decide +kernel
theorem k_Canon_soundOf_62 : decode Y_Canon_soundOf.2.1 62 = .ok (.ireturn, 1) := by decide +kernel
theorem k_Canon_listen_0 : decode Y_Canon_listen.2.1 0 = .ok (.aload_n 0, 1) := by decide +kernel
theorem k_Canon_listen_1 : decode Y_Canon_listen.2.1 1 = .ok (.getfield 33, 3) := by decide +kernel
theorem k_Canon_listen_4 : decode Y_Canon_listen.2.1 4 = .ok (.invokevirtual 117, 3) := by decide +kernel
theorem k_Canon_listen_7 : decode Y_Canon_listen.2.1 7 = .ok (.aload_n 0, 1) := by decide +kernel
theorem k_Canon_listen_8 : decode Y_Canon_listen.2.1 8 = .ok (.getfield 36, 3) := by decide +kernel
theorem k_Canon_listen_11 : decode Y_Canon_listen.2.1 11 = .ok (.invokevirtual 117, 3) := by decide +kernel
theorem k_Canon_listen_14 : decode Y_Canon_listen.2.1 14 = .ok (.iconst 0, 1) := by decide +kernel
theorem k_Canon_listen_15 : decode Y_Canon_listen.2.1 15 = .ok (.istore_n 2, 1) := by decide +kernel
theorem k_Canon_listen_16 : decode Y_Canon_listen.2.1 16 = .ok (.iload_n 2, 1) := by decide +kernel
theorem k_Canon_listen_17 : decode Y_Canon_listen.2.1 17 = .ok (.aload_n 0, 1) := by decide +kernel
theorem k_Canon_listen_18 : decode Y_Canon_listen.2.1 18 = .ok (.invokevirtual 80, 3) := by decide +kernel
theorem k_Canon_listen_21 : decode Y_Canon_listen.2.1 21 = .ok (.if_icmp .ge 39, 3) := by decide +kernel
theorem k_Canon_listen_24 : decode Y_Canon_listen.2.1 24 = .ok (.aload_n 0, 1) := by decide +kernel
theorem k_Canon_listen_25 : decode Y_Canon_listen.2.1 25 = .ok (.iload_n 2, 1) := by decide +kernel
theorem k_Canon_listen_26 : decode Y_Canon_listen.2.1 26 = .ok (.iload_n 1, 1) := by decide +kernel
theorem k_Canon_listen_27 : decode Y_Canon_listen.2.1 27 = .ok (.invokevirtual 120, 3) := by decide +kernel
theorem k_Canon_listen_30 : decode Y_Canon_listen.2.1 30 = .ok (.istore_n 3, 1) := by decide +kernel
theorem k_Canon_listen_31 : decode Y_Canon_listen.2.1 31 = .ok (.iload_n 3, 1) := by decide +kernel
theorem k_Canon_listen_32 : decode Y_Canon_listen.2.1 32 = .ok (.sipush 999, 3) := by decide +kernel
theorem k_Canon_listen_35 : decode Y_Canon_listen.2.1 35 = .ok (.if_icmp .eq 19, 3) := by decide +kernel
theorem k_Canon_listen_38 : decode Y_Canon_listen.2.1 38 = .ok (.aload_n 0, 1) := by decide +kernel
theorem k_Canon_listen_39 : decode Y_Canon_listen.2.1 39 = .ok (.getfield 33, 3) := by decide +kernel
theorem k_Canon_listen_42 : decode Y_Canon_listen.2.1 42 = .ok (.iload_n 2, 1) := by decide +kernel
theorem k_Canon_listen_43 : decode Y_Canon_listen.2.1 43 = .ok (.invokevirtual 72, 3) := by decide +kernel
theorem k_Canon_listen_46 : decode Y_Canon_listen.2.1 46 = .ok (.aload_n 0, 1) := by decide +kernel
theorem k_Canon_listen_47 : decode Y_Canon_listen.2.1 47 = .ok (.getfield 36, 3) := by decide +kernel
theorem k_Canon_listen_50 : decode Y_Canon_listen.2.1 50 = .ok (.iload_n 3, 1) := by decide +kernel
theorem k_Canon_listen_51 : decode Y_Canon_listen.2.1 51 = .ok (.invokevirtual 72, 3) := by decide +kernel
theorem k_Canon_listen_54 : decode Y_Canon_listen.2.1 54 = .ok (.iinc 2 1, 3) := by decide +kernel
theorem k_Canon_listen_57 : decode Y_Canon_listen.2.1 57 = .ok (.goto (-41), 3) := by decide +kernel
theorem k_Canon_listen_60 : decode Y_Canon_listen.2.1 60 = .ok (.return_, 1) := by decide +kernel
theorem k_Canon_clash_0 : decode Y_Canon_clash.2.1 0 = .ok (.aload_n 0, 1) := by decide +kernel
theorem k_Canon_clash_1 : decode Y_Canon_clash.2.1 1 = .ok (.getfield 46, 3) := by decide +kernel
theorem k_Canon_clash_4 : decode Y_Canon_clash.2.1 4 = .ok (.aload_n 0, 1) := by decide +kernel
theorem k_Canon_clash_5 : decode Y_Canon_clash.2.1 5 = .ok (.getfield 36, 3) := by decide +kernel
theorem k_Canon_clash_8 : decode Y_Canon_clash.2.1 8 = .ok (.iload_n 1, 1) := by decide +kernel
theorem k_Canon_clash_9 : decode Y_Canon_clash.2.1 9 = .ok (.invokevirtual 64, 3) := by decide +kernel
theorem k_Canon_clash_12 : decode Y_Canon_clash.2.1 12 = .ok (.aload_n 0, 1) := by decide +kernel
theorem k_Canon_clash_13 : decode Y_Canon_clash.2.1 13 = .ok (.getfield 36, 3) := by decide +kernel
theorem k_Canon_clash_16 : decode Y_Canon_clash.2.1 16 = .ok (.iload_n 2, 1) := by decide +kernel
theorem k_Canon_clash_17 : decode Y_Canon_clash.2.1 17 = .ok (.invokevirtual 64, 3) := by decide +kernel
theorem k_Canon_clash_20 : decode Y_Canon_clash.2.1 20 = .ok (.isub, 1) := by decide +kernel
theorem k_Canon_clash_21 : decode Y_Canon_clash.2.1 21 = .ok (.invokestatic 123, 3) := by decide +kernel
theorem k_Canon_clash_24 : decode Y_Canon_clash.2.1 24 = .ok (.ifCond .ne 7, 3) := by decide +kernel
theorem k_Canon_clash_27 : decode Y_Canon_clash.2.1 27 = .ok (.iconst 1, 1) := by decide +kernel
theorem k_Canon_clash_28 : decode Y_Canon_clash.2.1 28 = .ok (.goto 4, 3) := by decide +kernel
theorem k_Canon_clash_31 : decode Y_Canon_clash.2.1 31 = .ok (.iconst 0, 1) := by decide +kernel
theorem k_Canon_clash_32 : decode Y_Canon_clash.2.1 32 = .ok (.ireturn, 1) := by decide +kernel
theorem k_Canon_illsAt_0 : decode Y_Canon_illsAt.2.1 0 = .ok (.aload_n 0, 1) := by decide +kernel
theorem k_Canon_illsAt_1 : decode Y_Canon_illsAt.2.1 1 = .ok (.iload_n 1, 1) := by decide +kernel
theorem k_Canon_illsAt_2 : decode Y_Canon_illsAt.2.1 2 = .ok (.invokevirtual 127, 3) := by decide +kernel
theorem k_Canon_illsAt_5 : decode Y_Canon_illsAt.2.1 5 = .ok (.iconst 0, 1) := by decide +kernel
theorem k_Canon_illsAt_6 : decode Y_Canon_illsAt.2.1 6 = .ok (.istore_n 2, 1) := by decide +kernel
theorem k_Canon_illsAt_7 : decode Y_Canon_illsAt.2.1 7 = .ok (.iconst 0, 1) := by decide +kernel
theorem k_Canon_illsAt_8 : decode Y_Canon_illsAt.2.1 8 = .ok (.istore_n 3, 1) := by decide +kernel
theorem k_Canon_illsAt_9 : decode Y_Canon_illsAt.2.1 9 = .ok (.iload_n 3, 1) := by decide +kernel
theorem k_Canon_illsAt_10 : decode Y_Canon_illsAt.2.1 10 = .ok (.aload_n 0, 1) := by decide +kernel
theorem k_Canon_illsAt_11 : decode Y_Canon_illsAt.2.1 11 = .ok (.getfield 33, 3) := by decide +kernel
theorem k_Canon_illsAt_14 : decode Y_Canon_illsAt.2.1 14 = .ok (.invokevirtual 56, 3) := by decide +kernel
theorem k_Canon_illsAt_17 : decode Y_Canon_illsAt.2.1 17 = .ok (.if_icmp .ge 45, 3) := by decide +kernel
theorem k_Canon_illsAt_20 : decode Y_Canon_illsAt.2.1 20 = .ok (.iload_n 3, 1) := by decide +kernel
theorem k_Canon_illsAt_21 : decode Y_Canon_illsAt.2.1 21 = .ok (.iconst 1, 1) := by decide +kernel
theorem k_Canon_illsAt_22 : decode Y_Canon_illsAt.2.1 22 = .ok (.iadd, 1) := by decide +kernel
theorem k_Canon_illsAt_23 : decode Y_Canon_illsAt.2.1 23 = .ok (.istore 4, 2) := by decide +kernel
theorem k_Canon_illsAt_25 : decode Y_Canon_illsAt.2.1 25 = .ok (.iload 4, 2) := by decide +kernel
theorem k_Canon_illsAt_27 : decode Y_Canon_illsAt.2.1 27 = .ok (.aload_n 0, 1) := by decide +kernel
theorem k_Canon_illsAt_28 : decode Y_Canon_illsAt.2.1 28 = .ok (.getfield 33, 3) := by decide +kernel
theorem k_Canon_illsAt_31 : decode Y_Canon_illsAt.2.1 31 = .ok (.invokevirtual 56, 3) := by decide +kernel
theorem k_Canon_illsAt_34 : decode Y_Canon_illsAt.2.1 34 = .ok (.if_icmp .ge 22, 3) := by decide +kernel
theorem k_Canon_illsAt_37 : decode Y_Canon_illsAt.2.1 37 = .ok (.aload_n 0, 1) := by decide +kernel
theorem k_Canon_illsAt_38 : decode Y_Canon_illsAt.2.1 38 = .ok (.iload_n 3, 1) := by decide +kernel
theorem k_Canon_illsAt_39 : decode Y_Canon_illsAt.2.1 39 = .ok (.iload 4, 2) := by decide +kernel
theorem k_Canon_illsAt_41 : decode Y_Canon_illsAt.2.1 41 = .ok (.invokevirtual 130, 3) := by decide +kernel
theorem k_Canon_illsAt_44 : decode Y_Canon_illsAt.2.1 44 = .ok (.ifCond .eq 6, 3) := by decide +kernel
theorem k_Canon_illsAt_47 : decode Y_Canon_illsAt.2.1 47 = .ok (.iinc 2 1, 3) := by decide +kernel
theorem k_Canon_illsAt_50 : decode Y_Canon_illsAt.2.1 50 = .ok (.iinc 4 1, 3) := by decide +kernel
theorem k_Canon_illsAt_53 : decode Y_Canon_illsAt.2.1 53 = .ok (.goto (-28), 3) := by decide +kernel
theorem k_Canon_illsAt_56 : decode Y_Canon_illsAt.2.1 56 = .ok (.iinc 3 1, 3) := by decide +kernel
theorem k_Canon_illsAt_59 : decode Y_Canon_illsAt.2.1 59 = .ok (.goto (-50), 3) := by decide +kernel
theorem k_Canon_illsAt_62 : decode Y_Canon_illsAt.2.1 62 = .ok (.iload_n 2, 1) := by decide +kernel
theorem k_Canon_illsAt_63 : decode Y_Canon_illsAt.2.1 63 = .ok (.ireturn, 1) := by decide +kernel
theorem k_Canon_illsInAll_0 : decode Y_Canon_illsInAll.2.1 0 = .ok (.iconst 0, 1) := by decide +kernel
theorem k_Canon_illsInAll_1 : decode Y_Canon_illsInAll.2.1 1 = .ok (.istore_n 1, 1) := by decide +kernel
theorem k_Canon_illsInAll_2 : decode Y_Canon_illsInAll.2.1 2 = .ok (.aload_n 0, 1) := by decide +kernel
theorem k_Canon_illsInAll_3 : decode Y_Canon_illsInAll.2.1 3 = .ok (.invokevirtual 133, 3) := by decide +kernel
theorem k_Canon_illsInAll_6 : decode Y_Canon_illsInAll.2.1 6 = .ok (.istore_n 2, 1) := by decide +kernel
theorem k_Canon_illsInAll_7 : decode Y_Canon_illsInAll.2.1 7 = .ok (.iconst 0, 1) := by decide +kernel
theorem k_Canon_illsInAll_8 : decode Y_Canon_illsInAll.2.1 8 = .ok (.istore_n 3, 1) := by decide +kernel
theorem k_Canon_illsInAll_9 : decode Y_Canon_illsInAll.2.1 9 = .ok (.iload_n 3, 1) := by decide +kernel
theorem k_Canon_illsInAll_10 : decode Y_Canon_illsInAll.2.1 10 = .ok (.iload_n 2, 1) := by decide +kernel
theorem k_Canon_illsInAll_11 : decode Y_Canon_illsInAll.2.1 11 = .ok (.if_icmp .ge 17, 3) := by decide +kernel
theorem k_Canon_illsInAll_14 : decode Y_Canon_illsInAll.2.1 14 = .ok (.iload_n 1, 1) := by decide +kernel
theorem k_Canon_illsInAll_15 : decode Y_Canon_illsInAll.2.1 15 = .ok (.aload_n 0, 1) := by decide +kernel
theorem k_Canon_illsInAll_16 : decode Y_Canon_illsInAll.2.1 16 = .ok (.iload_n 3, 1) := by decide +kernel
theorem k_Canon_illsInAll_17 : decode Y_Canon_illsInAll.2.1 17 = .ok (.invokevirtual 136, 3) := by decide +kernel
theorem k_Canon_illsInAll_20 : decode Y_Canon_illsInAll.2.1 20 = .ok (.iadd, 1) := by decide +kernel
theorem k_Canon_illsInAll_21 : decode Y_Canon_illsInAll.2.1 21 = .ok (.istore_n 1, 1) := by decide +kernel
theorem k_Canon_illsInAll_22 : decode Y_Canon_illsInAll.2.1 22 = .ok (.iinc 3 1, 3) := by decide +kernel
theorem k_Canon_illsInAll_25 : decode Y_Canon_illsInAll.2.1 25 = .ok (.goto (-16), 3) := by decide +kernel
theorem k_Canon_illsInAll_28 : decode Y_Canon_illsInAll.2.1 28 = .ok (.iload_n 1, 1) := by decide +kernel
theorem k_Canon_illsInAll_29 : decode Y_Canon_illsInAll.2.1 29 = .ok (.ireturn, 1) := by decide +kernel
theorem k_Canon_firstIllBeat_0 : decode Y_Canon_firstIllBeat.2.1 0 = .ok (.aload_n 0, 1) := by decide +kernel
theorem k_Canon_firstIllBeat_1 : decode Y_Canon_firstIllBeat.2.1 1 = .ok (.invokevirtual 133, 3) := by decide +kernel
theorem k_Canon_firstIllBeat_4 : decode Y_Canon_firstIllBeat.2.1 4 = .ok (.istore_n 1, 1) := by decide +kernel
theorem k_Canon_firstIllBeat_5 : decode Y_Canon_firstIllBeat.2.1 5 = .ok (.iconst 0, 1) := by decide +kernel
theorem k_Canon_firstIllBeat_6 : decode Y_Canon_firstIllBeat.2.1 6 = .ok (.istore_n 2, 1) := by decide +kernel
theorem k_Canon_firstIllBeat_7 : decode Y_Canon_firstIllBeat.2.1 7 = .ok (.iload_n 2, 1) := by decide +kernel
theorem k_Canon_firstIllBeat_8 : decode Y_Canon_firstIllBeat.2.1 8 = .ok (.iload_n 1, 1) := by decide +kernel
theorem k_Canon_firstIllBeat_9 : decode Y_Canon_firstIllBeat.2.1 9 = .ok (.if_icmp .ge 19, 3) := by decide +kernel
theorem k_Canon_firstIllBeat_12 : decode Y_Canon_firstIllBeat.2.1 12 = .ok (.aload_n 0, 1) := by decide +kernel
theorem k_Canon_firstIllBeat_13 : decode Y_Canon_firstIllBeat.2.1 13 = .ok (.iload_n 2, 1) := by decide +kernel
theorem k_Canon_firstIllBeat_14 : decode Y_Canon_firstIllBeat.2.1 14 = .ok (.invokevirtual 136, 3) := by decide +kernel
theorem k_Canon_firstIllBeat_17 : decode Y_Canon_firstIllBeat.2.1 17 = .ok (.ifCond .le 5, 3) := by decide +kernel
theorem k_Canon_firstIllBeat_20 : decode Y_Canon_firstIllBeat.2.1 20 = .ok (.iload_n 2, 1) := by decide +kernel
theorem k_Canon_firstIllBeat_21 : decode Y_Canon_firstIllBeat.2.1 21 = .ok (.ireturn, 1) := by decide +kernel
theorem k_Canon_firstIllBeat_22 : decode Y_Canon_firstIllBeat.2.1 22 = .ok (.iinc 2 1, 3) := by decide +kernel
theorem k_Canon_firstIllBeat_25 : decode Y_Canon_firstIllBeat.2.1 25 = .ok (.goto (-18), 3) := by decide +kernel
theorem k_Canon_firstIllBeat_28 : decode Y_Canon_firstIllBeat.2.1 28 = .ok (.bipush (-9), 2) := by decide +kernel
theorem k_Canon_firstIllBeat_30 : decode Y_Canon_firstIllBeat.2.1 30 = .ok (.ireturn, 1) := by decide +kernel
theorem k_Canon_firstIllPair_0 : decode Y_Canon_firstIllPair.2.1 0 = .ok (.aload_n 0, 1) := by decide +kernel
theorem k_Canon_firstIllPair_1 : decode Y_Canon_firstIllPair.2.1 1 = .ok (.iload_n 1, 1) := by decide +kernel
theorem k_Canon_firstIllPair_2 : decode Y_Canon_firstIllPair.2.1 2 = .ok (.invokevirtual 127, 3) := by decide +kernel
theorem k_Canon_firstIllPair_5 : decode Y_Canon_firstIllPair.2.1 5 = .ok (.iconst 0, 1) := by decide +kernel
theorem k_Canon_firstIllPair_6 : decode Y_Canon_firstIllPair.2.1 6 = .ok (.istore_n 2, 1) := by decide +kernel
theorem k_Canon_firstIllPair_7 : decode Y_Canon_firstIllPair.2.1 7 = .ok (.iload_n 2, 1) := by decide +kernel
theorem k_Canon_firstIllPair_8 : decode Y_Canon_firstIllPair.2.1 8 = .ok (.aload_n 0, 1) := by decide +kernel
theorem k_Canon_firstIllPair_9 : decode Y_Canon_firstIllPair.2.1 9 = .ok (.getfield 33, 3) := by decide +kernel
theorem k_Canon_firstIllPair_12 : decode Y_Canon_firstIllPair.2.1 12 = .ok (.invokevirtual 56, 3) := by decide +kernel
theorem k_Canon_firstIllPair_15 : decode Y_Canon_firstIllPair.2.1 15 = .ok (.if_icmp .ge 60, 3) := by decide +kernel
theorem k_Canon_firstIllPair_18 : decode Y_Canon_firstIllPair.2.1 18 = .ok (.iload_n 2, 1) := by decide +kernel
theorem k_Canon_firstIllPair_19 : decode Y_Canon_firstIllPair.2.1 19 = .ok (.iconst 1, 1) := by decide +kernel
theorem k_Canon_firstIllPair_20 : decode Y_Canon_firstIllPair.2.1 20 = .ok (.iadd, 1) := by decide +kernel
theorem k_Canon_firstIllPair_21 : decode Y_Canon_firstIllPair.2.1 21 = .ok (.istore_n 3, 1) := by decide +kernel
theorem k_Canon_firstIllPair_22 : decode Y_Canon_firstIllPair.2.1 22 = .ok (.iload_n 3, 1) := by decide +kernel
theorem k_Canon_firstIllPair_23 : decode Y_Canon_firstIllPair.2.1 23 = .ok (.aload_n 0, 1) := by decide +kernel
theorem k_Canon_firstIllPair_24 : decode Y_Canon_firstIllPair.2.1 24 = .ok (.getfield 33, 3) := by decide +kernel
theorem k_Canon_firstIllPair_27 : decode Y_Canon_firstIllPair.2.1 27 = .ok (.invokevirtual 56, 3) := by decide +kernel
theorem k_Canon_firstIllPair_30 : decode Y_Canon_firstIllPair.2.1 30 = .ok (.if_icmp .ge 39, 3) := by decide +kernel
theorem k_Canon_firstIllPair_33 : decode Y_Canon_firstIllPair.2.1 33 = .ok (.aload_n 0, 1) := by decide +kernel
theorem k_Canon_firstIllPair_34 : decode Y_Canon_firstIllPair.2.1 34 = .ok (.iload_n 2, 1) := by decide +kernel
theorem k_Canon_firstIllPair_35 : decode Y_Canon_firstIllPair.2.1 35 = .ok (.iload_n 3, 1) := by decide +kernel
theorem k_Canon_firstIllPair_36 : decode Y_Canon_firstIllPair.2.1 36 = .ok (.invokevirtual 130, 3) := by decide +kernel
theorem k_Canon_firstIllPair_39 : decode Y_Canon_firstIllPair.2.1 39 = .ok (.ifCond .eq 24, 3) := by decide +kernel
theorem k_Canon_firstIllPair_42 : decode Y_Canon_firstIllPair.2.1 42 = .ok (.bipush 10, 2) := by decide +kernel
theorem k_Canon_firstIllPair_44 : decode Y_Canon_firstIllPair.2.1 44 = .ok (.aload_n 0, 1) := by decide +kernel
theorem k_Canon_firstIllPair_45 : decode Y_Canon_firstIllPair.2.1 45 = .ok (.getfield 33, 3) := by decide +kernel
theorem k_Canon_firstIllPair_48 : decode Y_Canon_firstIllPair.2.1 48 = .ok (.iload_n 2, 1) := by decide +kernel
theorem k_Canon_firstIllPair_49 : decode Y_Canon_firstIllPair.2.1 49 = .ok (.invokevirtual 64, 3) := by decide +kernel
theorem k_Canon_firstIllPair_52 : decode Y_Canon_firstIllPair.2.1 52 = .ok (.imul, 1) := by decide +kernel
theorem k_Canon_firstIllPair_53 : decode Y_Canon_firstIllPair.2.1 53 = .ok (.aload_n 0, 1) := by decide +kernel
theorem k_Canon_firstIllPair_54 : decode Y_Canon_firstIllPair.2.1 54 = .ok (.getfield 33, 3) := by decide +kernel
theorem k_Canon_firstIllPair_57 : decode Y_Canon_firstIllPair.2.1 57 = .ok (.iload_n 3, 1) := by decide +kernel
theorem k_Canon_firstIllPair_58 : decode Y_Canon_firstIllPair.2.1 58 = .ok (.invokevirtual 64, 3) := by decide +kernel
theorem k_Canon_firstIllPair_61 : decode Y_Canon_firstIllPair.2.1 61 = .ok (.iadd, 1) := by decide +kernel
theorem k_Canon_firstIllPair_62 : decode Y_Canon_firstIllPair.2.1 62 = .ok (.ireturn, 1) := by decide +kernel
theorem k_Canon_firstIllPair_63 : decode Y_Canon_firstIllPair.2.1 63 = .ok (.iinc 3 1, 3) := by decide +kernel
theorem k_Canon_firstIllPair_66 : decode Y_Canon_firstIllPair.2.1 66 = .ok (.goto (-44), 3) := by decide +kernel
theorem k_Canon_firstIllPair_69 : decode Y_Canon_firstIllPair.2.1 69 = .ok (.iinc 2 1, 3) := by decide +kernel
theorem k_Canon_firstIllPair_72 : decode Y_Canon_firstIllPair.2.1 72 = .ok (.goto (-65), 3) := by decide +kernel
theorem k_Canon_firstIllPair_75 : decode Y_Canon_firstIllPair.2.1 75 = .ok (.bipush (-9), 2) := by decide +kernel
theorem k_Canon_firstIllPair_77 : decode Y_Canon_firstIllPair.2.1 77 = .ok (.ireturn, 1) := by decide +kernel
theorem k_Canon_voicesInAllIlls_0 : decode Y_Canon_voicesInAllIlls.2.1 0 = .ok (.iconst 1, 1) := by decide +kernel
theorem k_Canon_voicesInAllIlls_1 : decode Y_Canon_voicesInAllIlls.2.1 1 = .ok (.aload_n 0, 1) := by decide +kernel
theorem k_Canon_voicesInAllIlls_2 : decode Y_Canon_voicesInAllIlls.2.1 2 = .ok (.invokevirtual 80, 3) := by decide +kernel
theorem k_Canon_voicesInAllIlls_5 : decode Y_Canon_voicesInAllIlls.2.1 5 = .ok (.ishl, 1) := by decide +kernel
theorem k_Canon_voicesInAllIlls_6 : decode Y_Canon_voicesInAllIlls.2.1 6 = .ok (.iconst 1, 1) := by decide +kernel
theorem k_Canon_voicesInAllIlls_7 : decode Y_Canon_voicesInAllIlls.2.1 7 = .ok (.isub, 1) := by decide +kernel
theorem k_Canon_voicesInAllIlls_8 : decode Y_Canon_voicesInAllIlls.2.1 8 = .ok (.istore_n 1, 1) := by decide +kernel
theorem k_Canon_voicesInAllIlls_9 : decode Y_Canon_voicesInAllIlls.2.1 9 = .ok (.aload_n 0, 1) := by decide +kernel
theorem k_Canon_voicesInAllIlls_10 : decode Y_Canon_voicesInAllIlls.2.1 10 = .ok (.invokevirtual 133, 3) := by decide +kernel
theorem k_Canon_voicesInAllIlls_13 : decode Y_Canon_voicesInAllIlls.2.1 13 = .ok (.istore_n 2, 1) := by decide +kernel
theorem k_Canon_voicesInAllIlls_14 : decode Y_Canon_voicesInAllIlls.2.1 14 = .ok (.iconst 0, 1) := by decide +kernel
theorem k_Canon_voicesInAllIlls_15 : decode Y_Canon_voicesInAllIlls.2.1 15 = .ok (.istore_n 3, 1) := by decide +kernel
theorem k_Canon_voicesInAllIlls_16 : decode Y_Canon_voicesInAllIlls.2.1 16 = .ok (.iload_n 3, 1) := by decide +kernel
theorem k_Canon_voicesInAllIlls_17 : decode Y_Canon_voicesInAllIlls.2.1 17 = .ok (.iload_n 2, 1) := by decide +kernel
theorem k_Canon_voicesInAllIlls_18 : decode Y_Canon_voicesInAllIlls.2.1 18 = .ok (.if_icmp .ge 96, 3) := by decide +kernel
theorem k_Canon_voicesInAllIlls_21 : decode Y_Canon_voicesInAllIlls.2.1 21 = .ok (.aload_n 0, 1) := by decide +kernel
theorem k_Canon_voicesInAllIlls_22 : decode Y_Canon_voicesInAllIlls.2.1 22 = .ok (.iload_n 3, 1) := by decide +kernel
theorem k_Canon_voicesInAllIlls_23 : decode Y_Canon_voicesInAllIlls.2.1 23 = .ok (.invokevirtual 127, 3) := by decide +kernel
theorem k_Canon_voicesInAllIlls_26 : decode Y_Canon_voicesInAllIlls.2.1 26 = .ok (.iconst 0, 1) := by decide +kernel
theorem k_Canon_voicesInAllIlls_27 : decode Y_Canon_voicesInAllIlls.2.1 27 = .ok (.istore 4, 2) := by decide +kernel
theorem k_Canon_voicesInAllIlls_29 : decode Y_Canon_voicesInAllIlls.2.1 29 = .ok (.iload 4, 2) := by decide +kernel
theorem k_Canon_voicesInAllIlls_31 : decode Y_Canon_voicesInAllIlls.2.1 31 = .ok (.aload_n 0, 1) := by decide +kernel
theorem k_Canon_voicesInAllIlls_32 : decode Y_Canon_voicesInAllIlls.2.1 32 = .ok (.getfield 33, 3) := by decide +kernel
theorem k_Canon_voicesInAllIlls_35 : decode Y_Canon_voicesInAllIlls.2.1 35 = .ok (.invokevirtual 56, 3) := by decide +kernel
theorem k_Canon_voicesInAllIlls_38 : decode Y_Canon_voicesInAllIlls.2.1 38 = .ok (.if_icmp .ge 70, 3) := by decide +kernel
theorem k_Canon_voicesInAllIlls_41 : decode Y_Canon_voicesInAllIlls.2.1 41 = .ok (.iload 4, 2) := by decide +kernel
theorem k_Canon_voicesInAllIlls_43 : decode Y_Canon_voicesInAllIlls.2.1 43 = .ok (.iconst 1, 1) := by decide +kernel
theorem k_Canon_voicesInAllIlls_44 : decode Y_Canon_voicesInAllIlls.2.1 44 = .ok (.iadd, 1) := by decide +kernel
theorem k_Canon_voicesInAllIlls_45 : decode Y_Canon_voicesInAllIlls.2.1 45 = .ok (.istore 5, 2) := by decide +kernel
theorem k_Canon_voicesInAllIlls_47 : decode Y_Canon_voicesInAllIlls.2.1 47 = .ok (.iload 5, 2) := by decide +kernel
theorem k_Canon_voicesInAllIlls_49 : decode Y_Canon_voicesInAllIlls.2.1 49 = .ok (.aload_n 0, 1) := by decide +kernel
theorem k_Canon_voicesInAllIlls_50 : decode Y_Canon_voicesInAllIlls.2.1 50 = .ok (.getfield 33, 3) := by decide +kernel
theorem k_Canon_voicesInAllIlls_53 : decode Y_Canon_voicesInAllIlls.2.1 53 = .ok (.invokevirtual 56, 3) := by decide +kernel
theorem k_Canon_voicesInAllIlls_56 : decode Y_Canon_voicesInAllIlls.2.1 56 = .ok (.if_icmp .ge 46, 3) := by decide +kernel
theorem k_Canon_voicesInAllIlls_59 : decode Y_Canon_voicesInAllIlls.2.1 59 = .ok (.aload_n 0, 1) := by decide +kernel
theorem k_Canon_voicesInAllIlls_60 : decode Y_Canon_voicesInAllIlls.2.1 60 = .ok (.iload 4, 2) := by decide +kernel
theorem k_Canon_voicesInAllIlls_62 : decode Y_Canon_voicesInAllIlls.2.1 62 = .ok (.iload 5, 2) := by decide +kernel
theorem k_Canon_voicesInAllIlls_64 : decode Y_Canon_voicesInAllIlls.2.1 64 = .ok (.invokevirtual 130, 3) := by decide +kernel
theorem k_Canon_voicesInAllIlls_67 : decode Y_Canon_voicesInAllIlls.2.1 67 = .ok (.ifCond .eq 29, 3) := by decide +kernel
theorem k_Canon_voicesInAllIlls_70 : decode Y_Canon_voicesInAllIlls.2.1 70 = .ok (.iload_n 1, 1) := by decide +kernel
theorem k_Canon_voicesInAllIlls_71 : decode Y_Canon_voicesInAllIlls.2.1 71 = .ok (.iconst 1, 1) := by decide +kernel
theorem k_Canon_voicesInAllIlls_72 : decode Y_Canon_voicesInAllIlls.2.1 72 = .ok (.aload_n 0, 1) := by decide +kernel
theorem k_Canon_voicesInAllIlls_73 : decode Y_Canon_voicesInAllIlls.2.1 73 = .ok (.getfield 33, 3) := by decide +kernel
theorem k_Canon_voicesInAllIlls_76 : decode Y_Canon_voicesInAllIlls.2.1 76 = .ok (.iload 4, 2) := by decide +kernel
theorem k_Canon_voicesInAllIlls_78 : decode Y_Canon_voicesInAllIlls.2.1 78 = .ok (.invokevirtual 64, 3) := by decide +kernel
theorem k_Canon_voicesInAllIlls_81 : decode Y_Canon_voicesInAllIlls.2.1 81 = .ok (.ishl, 1) := by decide +kernel
theorem k_Canon_voicesInAllIlls_82 : decode Y_Canon_voicesInAllIlls.2.1 82 = .ok (.iconst 1, 1) := by decide +kernel
theorem k_Canon_voicesInAllIlls_83 : decode Y_Canon_voicesInAllIlls.2.1 83 = .ok (.aload_n 0, 1) := by decide +kernel
theorem k_Canon_voicesInAllIlls_84 : decode Y_Canon_voicesInAllIlls.2.1 84 = .ok (.getfield 33, 3) := by decide +kernel
theorem k_Canon_voicesInAllIlls_87 : decode Y_Canon_voicesInAllIlls.2.1 87 = .ok (.iload 5, 2) := by decide +kernel
theorem k_Canon_voicesInAllIlls_89 : decode Y_Canon_voicesInAllIlls.2.1 89 = .ok (.invokevirtual 64, 3) := by decide +kernel
theorem k_Canon_voicesInAllIlls_92 : decode Y_Canon_voicesInAllIlls.2.1 92 = .ok (.ishl, 1) := by decide +kernel
theorem k_Canon_voicesInAllIlls_93 : decode Y_Canon_voicesInAllIlls.2.1 93 = .ok (.ior, 1) := by decide +kernel
theorem k_Canon_voicesInAllIlls_94 : decode Y_Canon_voicesInAllIlls.2.1 94 = .ok (.iand, 1) := by decide +kernel
theorem k_Canon_voicesInAllIlls_95 : decode Y_Canon_voicesInAllIlls.2.1 95 = .ok (.istore_n 1, 1) := by decide +kernel
theorem k_Canon_voicesInAllIlls_96 : decode Y_Canon_voicesInAllIlls.2.1 96 = .ok (.iinc 5 1, 3) := by decide +kernel
theorem k_Canon_voicesInAllIlls_99 : decode Y_Canon_voicesInAllIlls.2.1 99 = .ok (.goto (-52), 3) := by decide +kernel
theorem k_Canon_voicesInAllIlls_102 : decode Y_Canon_voicesInAllIlls.2.1 102 = .ok (.iinc 4 1, 3) := by decide +kernel
theorem k_Canon_voicesInAllIlls_105 : decode Y_Canon_voicesInAllIlls.2.1 105 = .ok (.goto (-76), 3) := by decide +kernel
theorem k_Canon_voicesInAllIlls_108 : decode Y_Canon_voicesInAllIlls.2.1 108 = .ok (.iinc 3 1, 3) := by decide +kernel
theorem k_Canon_voicesInAllIlls_111 : decode Y_Canon_voicesInAllIlls.2.1 111 = .ok (.goto (-95), 3) := by decide +kernel
theorem k_Canon_voicesInAllIlls_114 : decode Y_Canon_voicesInAllIlls.2.1 114 = .ok (.iload_n 1, 1) := by decide +kernel
theorem k_Canon_voicesInAllIlls_115 : decode Y_Canon_voicesInAllIlls.2.1 115 = .ok (.ireturn, 1) := by decide +kernel
theorem k_Canon_lastAgreesWithAll_0 : decode Y_Canon_lastAgreesWithAll.2.1 0 = .ok (.aload_n 0, 1) := by decide +kernel
theorem k_Canon_lastAgreesWithAll_1 : decode Y_Canon_lastAgreesWithAll.2.1 1 = .ok (.invokevirtual 80, 3) := by decide +kernel
theorem k_Canon_lastAgreesWithAll_4 : decode Y_Canon_lastAgreesWithAll.2.1 4 = .ok (.iconst 1, 1) := by decide +kernel
theorem k_Canon_lastAgreesWithAll_5 : decode Y_Canon_lastAgreesWithAll.2.1 5 = .ok (.isub, 1) := by decide +kernel
theorem k_Canon_lastAgreesWithAll_6 : decode Y_Canon_lastAgreesWithAll.2.1 6 = .ok (.istore_n 1, 1) := by decide +kernel
theorem k_Canon_lastAgreesWithAll_7 : decode Y_Canon_lastAgreesWithAll.2.1 7 = .ok (.aload_n 0, 1) := by decide +kernel
theorem k_Canon_lastAgreesWithAll_8 : decode Y_Canon_lastAgreesWithAll.2.1 8 = .ok (.iload_n 1, 1) := by decide +kernel
theorem k_Canon_lastAgreesWithAll_9 : decode Y_Canon_lastAgreesWithAll.2.1 9 = .ok (.invokevirtual 93, 3) := by decide +kernel
theorem k_Canon_lastAgreesWithAll_12 : decode Y_Canon_lastAgreesWithAll.2.1 12 = .ok (.istore_n 2, 1) := by decide +kernel
theorem k_Canon_lastAgreesWithAll_13 : decode Y_Canon_lastAgreesWithAll.2.1 13 = .ok (.aload_n 0, 1) := by decide +kernel
theorem k_Canon_lastAgreesWithAll_14 : decode Y_Canon_lastAgreesWithAll.2.1 14 = .ok (.getfield 27, 3) := by decide +kernel
theorem k_Canon_lastAgreesWithAll_17 : decode Y_Canon_lastAgreesWithAll.2.1 17 = .ok (.iload_n 1, 1) := by decide +kernel
theorem k_Canon_lastAgreesWithAll_18 : decode Y_Canon_lastAgreesWithAll.2.1 18 = .ok (.invokevirtual 64, 3) := by decide +kernel
theorem k_Canon_lastAgreesWithAll_21 : decode Y_Canon_lastAgreesWithAll.2.1 21 = .ok (.istore_n 3, 1) := by decide +kernel
theorem k_Canon_lastAgreesWithAll_22 : decode Y_Canon_lastAgreesWithAll.2.1 22 = .ok (.iload_n 3, 1) := by decide +kernel
theorem k_Canon_lastAgreesWithAll_23 : decode Y_Canon_lastAgreesWithAll.2.1 23 = .ok (.iload_n 2, 1) := by decide +kernel
theorem k_Canon_lastAgreesWithAll_24 : decode Y_Canon_lastAgreesWithAll.2.1 24 = .ok (.if_icmp .ge 54, 3) := by decide +kernel
theorem k_Canon_lastAgreesWithAll_27 : decode Y_Canon_lastAgreesWithAll.2.1 27 = .ok (.aload_n 0, 1) := by decide +kernel
theorem k_Canon_lastAgreesWithAll_28 : decode Y_Canon_lastAgreesWithAll.2.1 28 = .ok (.iload_n 3, 1) := by decide +kernel
theorem k_Canon_lastAgreesWithAll_29 : decode Y_Canon_lastAgreesWithAll.2.1 29 = .ok (.invokevirtual 127, 3) := by decide +kernel
theorem k_Canon_lastAgreesWithAll_32 : decode Y_Canon_lastAgreesWithAll.2.1 32 = .ok (.aload_n 0, 1) := by decide +kernel
theorem k_Canon_lastAgreesWithAll_33 : decode Y_Canon_lastAgreesWithAll.2.1 33 = .ok (.getfield 33, 3) := by decide +kernel
theorem k_Canon_lastAgreesWithAll_36 : decode Y_Canon_lastAgreesWithAll.2.1 36 = .ok (.invokevirtual 56, 3) := by decide +kernel
theorem k_Canon_lastAgreesWithAll_39 : decode Y_Canon_lastAgreesWithAll.2.1 39 = .ok (.iconst 1, 1) := by decide +kernel
theorem k_Canon_lastAgreesWithAll_40 : decode Y_Canon_lastAgreesWithAll.2.1 40 = .ok (.isub, 1) := by decide +kernel
theorem k_Canon_lastAgreesWithAll_41 : decode Y_Canon_lastAgreesWithAll.2.1 41 = .ok (.istore 4, 2) := by decide +kernel
theorem k_Canon_lastAgreesWithAll_43 : decode Y_Canon_lastAgreesWithAll.2.1 43 = .ok (.iconst 0, 1) := by decide +kernel
theorem k_Canon_lastAgreesWithAll_44 : decode Y_Canon_lastAgreesWithAll.2.1 44 = .ok (.istore 5, 2) := by decide +kernel
theorem k_Canon_lastAgreesWithAll_46 : decode Y_Canon_lastAgreesWithAll.2.1 46 = .ok (.iload 5, 2) := by decide +kernel
theorem k_Canon_lastAgreesWithAll_48 : decode Y_Canon_lastAgreesWithAll.2.1 48 = .ok (.iload 4, 2) := by decide +kernel
theorem k_Canon_lastAgreesWithAll_50 : decode Y_Canon_lastAgreesWithAll.2.1 50 = .ok (.if_icmp .ge 22, 3) := by decide +kernel
theorem k_Canon_lastAgreesWithAll_53 : decode Y_Canon_lastAgreesWithAll.2.1 53 = .ok (.aload_n 0, 1) := by decide +kernel
theorem k_Canon_lastAgreesWithAll_54 : decode Y_Canon_lastAgreesWithAll.2.1 54 = .ok (.iload 4, 2) := by decide +kernel
theorem k_Canon_lastAgreesWithAll_56 : decode Y_Canon_lastAgreesWithAll.2.1 56 = .ok (.iload 5, 2) := by decide +kernel
theorem k_Canon_lastAgreesWithAll_58 : decode Y_Canon_lastAgreesWithAll.2.1 58 = .ok (.invokevirtual 130, 3) := by decide +kernel
theorem k_Canon_lastAgreesWithAll_61 : decode Y_Canon_lastAgreesWithAll.2.1 61 = .ok (.ifCond .eq 5, 3) := by decide +kernel
theorem k_Canon_lastAgreesWithAll_64 : decode Y_Canon_lastAgreesWithAll.2.1 64 = .ok (.iconst 0, 1) := by decide +kernel
theorem k_Canon_lastAgreesWithAll_65 : decode Y_Canon_lastAgreesWithAll.2.1 65 = .ok (.ireturn, 1) := by decide +kernel
theorem k_Canon_lastAgreesWithAll_66 : decode Y_Canon_lastAgreesWithAll.2.1 66 = .ok (.iinc 5 1, 3) := by decide +kernel
theorem k_Canon_lastAgreesWithAll_69 : decode Y_Canon_lastAgreesWithAll.2.1 69 = .ok (.goto (-23), 3) := by decide +kernel
theorem k_Canon_lastAgreesWithAll_72 : decode Y_Canon_lastAgreesWithAll.2.1 72 = .ok (.iinc 3 1, 3) := by decide +kernel
theorem k_Canon_lastAgreesWithAll_75 : decode Y_Canon_lastAgreesWithAll.2.1 75 = .ok (.goto (-53), 3) := by decide +kernel
theorem k_Canon_lastAgreesWithAll_78 : decode Y_Canon_lastAgreesWithAll.2.1 78 = .ok (.iconst 1, 1) := by decide +kernel
theorem k_Canon_lastAgreesWithAll_79 : decode Y_Canon_lastAgreesWithAll.2.1 79 = .ok (.ireturn, 1) := by decide +kernel
theorem k_Canon_farthestSound_0 : decode Y_Canon_farthestSound.2.1 0 = .ok (.sipush 999, 3) := by decide +kernel
theorem k_Canon_farthestSound_3 : decode Y_Canon_farthestSound.2.1 3 = .ok (.istore_n 3, 1) := by decide +kernel
theorem k_Canon_farthestSound_4 : decode Y_Canon_farthestSound.2.1 4 = .ok (.aload_n 0, 1) := by decide +kernel
theorem k_Canon_farthestSound_5 : decode Y_Canon_farthestSound.2.1 5 = .ok (.iload_n 1, 1) := by decide +kernel
theorem k_Canon_farthestSound_6 : decode Y_Canon_farthestSound.2.1 6 = .ok (.invokevirtual 93, 3) := by decide +kernel
theorem k_Canon_farthestSound_9 : decode Y_Canon_farthestSound.2.1 9 = .ok (.istore 4, 2) := by decide +kernel
theorem k_Canon_farthestSound_11 : decode Y_Canon_farthestSound.2.1 11 = .ok (.aload_n 0, 1) := by decide +kernel
theorem k_Canon_farthestSound_12 : decode Y_Canon_farthestSound.2.1 12 = .ok (.getfield 27, 3) := by decide +kernel
theorem k_Canon_farthestSound_15 : decode Y_Canon_farthestSound.2.1 15 = .ok (.iload_n 1, 1) := by decide +kernel
theorem k_Canon_farthestSound_16 : decode Y_Canon_farthestSound.2.1 16 = .ok (.invokevirtual 64, 3) := by decide +kernel
theorem k_Canon_farthestSound_19 : decode Y_Canon_farthestSound.2.1 19 = .ok (.istore 5, 2) := by decide +kernel
theorem k_Canon_farthestSound_21 : decode Y_Canon_farthestSound.2.1 21 = .ok (.iload 5, 2) := by decide +kernel
theorem k_Canon_farthestSound_23 : decode Y_Canon_farthestSound.2.1 23 = .ok (.iload 4, 2) := by decide +kernel
theorem k_Canon_farthestSound_25 : decode Y_Canon_farthestSound.2.1 25 = .ok (.if_icmp .ge 51, 3) := by decide +kernel
theorem k_Canon_farthestSound_28 : decode Y_Canon_farthestSound.2.1 28 = .ok (.aload_n 0, 1) := by decide +kernel
theorem k_Canon_farthestSound_29 : decode Y_Canon_farthestSound.2.1 29 = .ok (.iload_n 1, 1) := by decide +kernel
theorem k_Canon_farthestSound_30 : decode Y_Canon_farthestSound.2.1 30 = .ok (.iload 5, 2) := by decide +kernel
theorem k_Canon_farthestSound_32 : decode Y_Canon_farthestSound.2.1 32 = .ok (.invokevirtual 120, 3) := by decide +kernel
theorem k_Canon_farthestSound_35 : decode Y_Canon_farthestSound.2.1 35 = .ok (.istore 6, 2) := by decide +kernel
theorem k_Canon_farthestSound_37 : decode Y_Canon_farthestSound.2.1 37 = .ok (.iload_n 3, 1) := by decide +kernel
theorem k_Canon_farthestSound_38 : decode Y_Canon_farthestSound.2.1 38 = .ok (.sipush 999, 3) := by decide +kernel
theorem k_Canon_farthestSound_41 : decode Y_Canon_farthestSound.2.1 41 = .ok (.if_icmp .ne 9, 3) := by decide +kernel
theorem k_Canon_farthestSound_44 : decode Y_Canon_farthestSound.2.1 44 = .ok (.iload 6, 2) := by decide +kernel
theorem k_Canon_farthestSound_46 : decode Y_Canon_farthestSound.2.1 46 = .ok (.istore_n 3, 1) := by decide +kernel
theorem k_Canon_farthestSound_47 : decode Y_Canon_farthestSound.2.1 47 = .ok (.goto 23, 3) := by decide +kernel
theorem k_Canon_farthestSound_50 : decode Y_Canon_farthestSound.2.1 50 = .ok (.iload_n 2, 1) := by decide +kernel
theorem k_Canon_farthestSound_51 : decode Y_Canon_farthestSound.2.1 51 = .ok (.ifCond .eq 12, 3) := by decide +kernel
theorem k_Canon_farthestSound_54 : decode Y_Canon_farthestSound.2.1 54 = .ok (.iload_n 3, 1) := by decide +kernel
theorem k_Canon_farthestSound_55 : decode Y_Canon_farthestSound.2.1 55 = .ok (.iload 6, 2) := by decide +kernel
theorem k_Canon_farthestSound_57 : decode Y_Canon_farthestSound.2.1 57 = .ok (.invokestatic 96, 3) := by decide +kernel
theorem k_Canon_farthestSound_60 : decode Y_Canon_farthestSound.2.1 60 = .ok (.goto 9, 3) := by decide +kernel
theorem k_Canon_farthestSound_63 : decode Y_Canon_farthestSound.2.1 63 = .ok (.iload_n 3, 1) := by decide +kernel
theorem k_Canon_farthestSound_64 : decode Y_Canon_farthestSound.2.1 64 = .ok (.iload 6, 2) := by decide +kernel
theorem k_Canon_farthestSound_66 : decode Y_Canon_farthestSound.2.1 66 = .ok (.invokestatic 139, 3) := by decide +kernel
theorem k_Canon_farthestSound_69 : decode Y_Canon_farthestSound.2.1 69 = .ok (.istore_n 3, 1) := by decide +kernel
theorem k_Canon_farthestSound_70 : decode Y_Canon_farthestSound.2.1 70 = .ok (.iinc 5 1, 3) := by decide +kernel
theorem k_Canon_farthestSound_73 : decode Y_Canon_farthestSound.2.1 73 = .ok (.goto (-52), 3) := by decide +kernel
theorem k_Canon_farthestSound_76 : decode Y_Canon_farthestSound.2.1 76 = .ok (.iload_n 3, 1) := by decide +kernel
theorem k_Canon_farthestSound_77 : decode Y_Canon_farthestSound.2.1 77 = .ok (.ireturn, 1) := by decide +kernel
theorem k_Canon_stillIfStoppedAt_0 : decode Y_Canon_stillIfStoppedAt.2.1 0 = .ok (.iconst 0, 1) := by decide +kernel
theorem k_Canon_stillIfStoppedAt_1 : decode Y_Canon_stillIfStoppedAt.2.1 1 = .ok (.istore_n 2, 1) := by decide +kernel
theorem k_Canon_stillIfStoppedAt_2 : decode Y_Canon_stillIfStoppedAt.2.1 2 = .ok (.iconst 0, 1) := by decide +kernel
theorem k_Canon_stillIfStoppedAt_3 : decode Y_Canon_stillIfStoppedAt.2.1 3 = .ok (.istore_n 3, 1) := by decide +kernel
theorem k_Canon_stillIfStoppedAt_4 : decode Y_Canon_stillIfStoppedAt.2.1 4 = .ok (.iload_n 3, 1) := by decide +kernel
theorem k_Canon_stillIfStoppedAt_5 : decode Y_Canon_stillIfStoppedAt.2.1 5 = .ok (.aload_n 0, 1) := by decide +kernel
theorem k_Canon_stillIfStoppedAt_6 : decode Y_Canon_stillIfStoppedAt.2.1 6 = .ok (.invokevirtual 80, 3) := by decide +kernel
theorem k_Canon_stillIfStoppedAt_9 : decode Y_Canon_stillIfStoppedAt.2.1 9 = .ok (.if_icmp .ge 73, 3) := by decide +kernel
theorem k_Canon_stillIfStoppedAt_12 : decode Y_Canon_stillIfStoppedAt.2.1 12 = .ok (.aload_n 0, 1) := by decide +kernel
theorem k_Canon_stillIfStoppedAt_13 : decode Y_Canon_stillIfStoppedAt.2.1 13 = .ok (.iload_n 3, 1) := by decide +kernel
theorem k_Canon_stillIfStoppedAt_14 : decode Y_Canon_stillIfStoppedAt.2.1 14 = .ok (.invokevirtual 90, 3) := by decide +kernel
theorem k_Canon_stillIfStoppedAt_17 : decode Y_Canon_stillIfStoppedAt.2.1 17 = .ok (.istore 4, 2) := by decide +kernel
theorem k_Canon_stillIfStoppedAt_19 : decode Y_Canon_stillIfStoppedAt.2.1 19 = .ok (.iload_n 1, 1) := by decide +kernel
theorem k_Canon_stillIfStoppedAt_20 : decode Y_Canon_stillIfStoppedAt.2.1 20 = .ok (.aload_n 0, 1) := by decide +kernel
theorem k_Canon_stillIfStoppedAt_21 : decode Y_Canon_stillIfStoppedAt.2.1 21 = .ok (.getfield 27, 3) := by decide +kernel
theorem k_Canon_stillIfStoppedAt_24 : decode Y_Canon_stillIfStoppedAt.2.1 24 = .ok (.iload_n 3, 1) := by decide +kernel
theorem k_Canon_stillIfStoppedAt_25 : decode Y_Canon_stillIfStoppedAt.2.1 25 = .ok (.invokevirtual 64, 3) := by decide +kernel
theorem k_Canon_stillIfStoppedAt_28 : decode Y_Canon_stillIfStoppedAt.2.1 28 = .ok (.isub, 1) := by decide +kernel
theorem k_Canon_stillIfStoppedAt_29 : decode Y_Canon_stillIfStoppedAt.2.1 29 = .ok (.istore 5, 2) := by decide +kernel
theorem k_Canon_stillIfStoppedAt_31 : decode Y_Canon_stillIfStoppedAt.2.1 31 = .ok (.iload 4, 2) := by decide +kernel
theorem k_Canon_stillIfStoppedAt_33 : decode Y_Canon_stillIfStoppedAt.2.1 33 = .ok (.ifCond .le 43, 3) := by decide +kernel
theorem k_Canon_stillIfStoppedAt_36 : decode Y_Canon_stillIfStoppedAt.2.1 36 = .ok (.iload 5, 2) := by decide +kernel
theorem k_Canon_stillIfStoppedAt_38 : decode Y_Canon_stillIfStoppedAt.2.1 38 = .ok (.ifCond .lt 38, 3) := by decide +kernel
theorem k_Canon_stillIfStoppedAt_41 : decode Y_Canon_stillIfStoppedAt.2.1 41 = .ok (.iload 5, 2) := by decide +kernel
theorem k_Canon_stillIfStoppedAt_43 : decode Y_Canon_stillIfStoppedAt.2.1 43 = .ok (.iload 4, 2) := by decide +kernel
theorem k_Canon_stillIfStoppedAt_45 : decode Y_Canon_stillIfStoppedAt.2.1 45 = .ok (.idiv, 1) := by decide +kernel
theorem k_Canon_stillIfStoppedAt_46 : decode Y_Canon_stillIfStoppedAt.2.1 46 = .ok (.iconst 1, 1) := by decide +kernel
theorem k_Canon_stillIfStoppedAt_47 : decode Y_Canon_stillIfStoppedAt.2.1 47 = .ok (.iadd, 1) := by decide +kernel
theorem k_Canon_stillIfStoppedAt_48 : decode Y_Canon_stillIfStoppedAt.2.1 48 = .ok (.aload_n 0, 1) := by decide +kernel
theorem k_Canon_stillIfStoppedAt_49 : decode Y_Canon_stillIfStoppedAt.2.1 49 = .ok (.getfield 39, 3) := by decide +kernel
theorem k_Canon_stillIfStoppedAt_52 : decode Y_Canon_stillIfStoppedAt.2.1 52 = .ok (.invokestatic 139, 3) := by decide +kernel
theorem k_Canon_stillIfStoppedAt_55 : decode Y_Canon_stillIfStoppedAt.2.1 55 = .ok (.istore 6, 2) := by decide +kernel
theorem k_Canon_stillIfStoppedAt_57 : decode Y_Canon_stillIfStoppedAt.2.1 57 = .ok (.iload_n 2, 1) := by decide +kernel
theorem k_Canon_stillIfStoppedAt_58 : decode Y_Canon_stillIfStoppedAt.2.1 58 = .ok (.aload_n 0, 1) := by decide +kernel
theorem k_Canon_stillIfStoppedAt_59 : decode Y_Canon_stillIfStoppedAt.2.1 59 = .ok (.getfield 27, 3) := by decide +kernel
theorem k_Canon_stillIfStoppedAt_62 : decode Y_Canon_stillIfStoppedAt.2.1 62 = .ok (.iload_n 3, 1) := by decide +kernel
theorem k_Canon_stillIfStoppedAt_63 : decode Y_Canon_stillIfStoppedAt.2.1 63 = .ok (.invokevirtual 64, 3) := by decide +kernel
theorem k_Canon_stillIfStoppedAt_66 : decode Y_Canon_stillIfStoppedAt.2.1 66 = .ok (.iload 6, 2) := by decide +kernel
theorem k_Canon_stillIfStoppedAt_68 : decode Y_Canon_stillIfStoppedAt.2.1 68 = .ok (.iload 4, 2) := by decide +kernel
theorem k_Canon_stillIfStoppedAt_70 : decode Y_Canon_stillIfStoppedAt.2.1 70 = .ok (.imul, 1) := by decide +kernel
theorem k_Canon_stillIfStoppedAt_71 : decode Y_Canon_stillIfStoppedAt.2.1 71 = .ok (.iadd, 1) := by decide +kernel
theorem k_Canon_stillIfStoppedAt_72 : decode Y_Canon_stillIfStoppedAt.2.1 72 = .ok (.invokestatic 96, 3) := by decide +kernel
theorem k_Canon_stillIfStoppedAt_75 : decode Y_Canon_stillIfStoppedAt.2.1 75 = .ok (.istore_n 2, 1) := by decide +kernel
theorem k_Canon_stillIfStoppedAt_76 : decode Y_Canon_stillIfStoppedAt.2.1 76 = .ok (.iinc 3 1, 3) := by decide +kernel
theorem k_Canon_stillIfStoppedAt_79 : decode Y_Canon_stillIfStoppedAt.2.1 79 = .ok (.goto (-75), 3) := by decide +kernel
theorem k_Canon_stillIfStoppedAt_82 : decode Y_Canon_stillIfStoppedAt.2.1 82 = .ok (.iload_n 2, 1) := by decide +kernel
theorem k_Canon_stillIfStoppedAt_83 : decode Y_Canon_stillIfStoppedAt.2.1 83 = .ok (.ireturn, 1) := by decide +kernel
theorem k_Canon_unisonBeats_0 : decode Y_Canon_unisonBeats.2.1 0 = .ok (.iconst 0, 1) := by decide +kernel
theorem k_Canon_unisonBeats_1 : decode Y_Canon_unisonBeats.2.1 1 = .ok (.istore_n 1, 1) := by decide +kernel
theorem k_Canon_unisonBeats_2 : decode Y_Canon_unisonBeats.2.1 2 = .ok (.aload_n 0, 1) := by decide +kernel
theorem k_Canon_unisonBeats_3 : decode Y_Canon_unisonBeats.2.1 3 = .ok (.invokevirtual 133, 3) := by decide +kernel
theorem k_Canon_unisonBeats_6 : decode Y_Canon_unisonBeats.2.1 6 = .ok (.istore_n 2, 1) := by decide +kernel
theorem k_Canon_unisonBeats_7 : decode Y_Canon_unisonBeats.2.1 7 = .ok (.iconst 0, 1) := by decide +kernel
theorem k_Canon_unisonBeats_8 : decode Y_Canon_unisonBeats.2.1 8 = .ok (.istore_n 3, 1) := by decide +kernel
theorem k_Canon_unisonBeats_9 : decode Y_Canon_unisonBeats.2.1 9 = .ok (.iload_n 3, 1) := by decide +kernel
theorem k_Canon_unisonBeats_10 : decode Y_Canon_unisonBeats.2.1 10 = .ok (.iload_n 2, 1) := by decide +kernel
theorem k_Canon_unisonBeats_11 : decode Y_Canon_unisonBeats.2.1 11 = .ok (.if_icmp .ge 24, 3) := by decide +kernel
theorem k_Canon_unisonBeats_14 : decode Y_Canon_unisonBeats.2.1 14 = .ok (.aload_n 0, 1) := by decide +kernel
theorem k_Canon_unisonBeats_15 : decode Y_Canon_unisonBeats.2.1 15 = .ok (.iload_n 3, 1) := by decide +kernel
theorem k_Canon_unisonBeats_16 : decode Y_Canon_unisonBeats.2.1 16 = .ok (.invokevirtual 127, 3) := by decide +kernel
theorem k_Canon_unisonBeats_19 : decode Y_Canon_unisonBeats.2.1 19 = .ok (.aload_n 0, 1) := by decide +kernel
theorem k_Canon_unisonBeats_20 : decode Y_Canon_unisonBeats.2.1 20 = .ok (.invokevirtual 142, 3) := by decide +kernel
theorem k_Canon_unisonBeats_23 : decode Y_Canon_unisonBeats.2.1 23 = .ok (.ifCond .eq 6, 3) := by decide +kernel
theorem k_Canon_unisonBeats_26 : decode Y_Canon_unisonBeats.2.1 26 = .ok (.iinc 1 1, 3) := by decide +kernel
theorem k_Canon_unisonBeats_29 : decode Y_Canon_unisonBeats.2.1 29 = .ok (.iinc 3 1, 3) := by decide +kernel
theorem k_Canon_unisonBeats_32 : decode Y_Canon_unisonBeats.2.1 32 = .ok (.goto (-23), 3) := by decide +kernel
theorem k_Canon_unisonBeats_35 : decode Y_Canon_unisonBeats.2.1 35 = .ok (.iload_n 1, 1) := by decide +kernel
theorem k_Canon_unisonBeats_36 : decode Y_Canon_unisonBeats.2.1 36 = .ok (.ireturn, 1) := by decide +kernel
theorem k_Canon_isUnison_0 : decode Y_Canon_isUnison.2.1 0 = .ok (.iconst 0, 1) := by decide +kernel
theorem k_Canon_isUnison_1 : decode Y_Canon_isUnison.2.1 1 = .ok (.istore_n 1, 1) := by decide +kernel
theorem k_Canon_isUnison_2 : decode Y_Canon_isUnison.2.1 2 = .ok (.iload_n 1, 1) := by decide +kernel
theorem k_Canon_isUnison_3 : decode Y_Canon_isUnison.2.1 3 = .ok (.aload_n 0, 1) := by decide +kernel
theorem k_Canon_isUnison_4 : decode Y_Canon_isUnison.2.1 4 = .ok (.getfield 36, 3) := by decide +kernel
theorem k_Canon_isUnison_7 : decode Y_Canon_isUnison.2.1 7 = .ok (.invokevirtual 56, 3) := by decide +kernel
theorem k_Canon_isUnison_10 : decode Y_Canon_isUnison.2.1 10 = .ok (.if_icmp .ge 51, 3) := by decide +kernel
theorem k_Canon_isUnison_13 : decode Y_Canon_isUnison.2.1 13 = .ok (.iload_n 1, 1) := by decide +kernel
theorem k_Canon_isUnison_14 : decode Y_Canon_isUnison.2.1 14 = .ok (.iconst 1, 1) := by decide +kernel
theorem k_Canon_isUnison_15 : decode Y_Canon_isUnison.2.1 15 = .ok (.iadd, 1) := by decide +kernel
theorem k_Canon_isUnison_16 : decode Y_Canon_isUnison.2.1 16 = .ok (.istore_n 2, 1) := by decide +kernel
theorem k_Canon_isUnison_17 : decode Y_Canon_isUnison.2.1 17 = .ok (.iload_n 2, 1) := by decide +kernel
theorem k_Canon_isUnison_18 : decode Y_Canon_isUnison.2.1 18 = .ok (.aload_n 0, 1) := by decide +kernel
theorem k_Canon_isUnison_19 : decode Y_Canon_isUnison.2.1 19 = .ok (.getfield 36, 3) := by decide +kernel
theorem k_Canon_isUnison_22 : decode Y_Canon_isUnison.2.1 22 = .ok (.invokevirtual 56, 3) := by decide +kernel
theorem k_Canon_isUnison_25 : decode Y_Canon_isUnison.2.1 25 = .ok (.if_icmp .ge 30, 3) := by decide +kernel
theorem k_Canon_isUnison_28 : decode Y_Canon_isUnison.2.1 28 = .ok (.aload_n 0, 1) := by decide +kernel
theorem k_Canon_isUnison_29 : decode Y_Canon_isUnison.2.1 29 = .ok (.getfield 36, 3) := by decide +kernel
theorem k_Canon_isUnison_32 : decode Y_Canon_isUnison.2.1 32 = .ok (.iload_n 1, 1) := by decide +kernel
theorem k_Canon_isUnison_33 : decode Y_Canon_isUnison.2.1 33 = .ok (.invokevirtual 64, 3) := by decide +kernel
theorem k_Canon_isUnison_36 : decode Y_Canon_isUnison.2.1 36 = .ok (.aload_n 0, 1) := by decide +kernel
theorem k_Canon_isUnison_37 : decode Y_Canon_isUnison.2.1 37 = .ok (.getfield 36, 3) := by decide +kernel
theorem k_Canon_isUnison_40 : decode Y_Canon_isUnison.2.1 40 = .ok (.iload_n 2, 1) := by decide +kernel
theorem k_Canon_isUnison_41 : decode Y_Canon_isUnison.2.1 41 = .ok (.invokevirtual 64, 3) := by decide +kernel
theorem k_Canon_isUnison_44 : decode Y_Canon_isUnison.2.1 44 = .ok (.if_icmp .ne 5, 3) := by decide +kernel
theorem k_Canon_isUnison_47 : decode Y_Canon_isUnison.2.1 47 = .ok (.iconst 1, 1) := by decide +kernel
theorem k_Canon_isUnison_48 : decode Y_Canon_isUnison.2.1 48 = .ok (.ireturn, 1) := by decide +kernel
theorem k_Canon_isUnison_49 : decode Y_Canon_isUnison.2.1 49 = .ok (.iinc 2 1, 3) := by decide +kernel
theorem k_Canon_isUnison_52 : decode Y_Canon_isUnison.2.1 52 = .ok (.goto (-35), 3) := by decide +kernel
theorem k_Canon_isUnison_55 : decode Y_Canon_isUnison.2.1 55 = .ok (.iinc 1 1, 3) := by decide +kernel
theorem k_Canon_isUnison_58 : decode Y_Canon_isUnison.2.1 58 = .ok (.goto (-56), 3) := by decide +kernel
theorem k_Canon_isUnison_61 : decode Y_Canon_isUnison.2.1 61 = .ok (.iconst 0, 1) := by decide +kernel
theorem k_Canon_isUnison_62 : decode Y_Canon_isUnison.2.1 62 = .ok (.ireturn, 1) := by decide +kernel
theorem k_Canon_firstNotHeard_0 : decode Y_Canon_firstNotHeard.2.1 0 = .ok (.aload_n 3, 1) := by decide +kernel
theorem k_Canon_firstNotHeard_1 : decode Y_Canon_firstNotHeard.2.1 1 = .ok (.ifnonnull 6, 3) := by decide +kernel
theorem k_Canon_firstNotHeard_4 : decode Y_Canon_firstNotHeard.2.1 4 = .ok (.bipush (-9), 2) := by decide +kernel
theorem k_Canon_firstNotHeard_6 : decode Y_Canon_firstNotHeard.2.1 6 = .ok (.ireturn, 1) := by decide +kernel
theorem k_Canon_firstNotHeard_7 : decode Y_Canon_firstNotHeard.2.1 7 = .ok (.iconst 0, 1) := by decide +kernel
theorem k_Canon_firstNotHeard_8 : decode Y_Canon_firstNotHeard.2.1 8 = .ok (.istore 4, 2) := by decide +kernel
theorem k_Canon_firstNotHeard_10 : decode Y_Canon_firstNotHeard.2.1 10 = .ok (.iload 4, 2) := by decide +kernel
theorem k_Canon_firstNotHeard_12 : decode Y_Canon_firstNotHeard.2.1 12 = .ok (.aload_n 3, 1) := by decide +kernel
theorem k_Canon_firstNotHeard_13 : decode Y_Canon_firstNotHeard.2.1 13 = .ok (.invokevirtual 56, 3) := by decide +kernel
theorem k_Canon_firstNotHeard_16 : decode Y_Canon_firstNotHeard.2.1 16 = .ok (.if_icmp .ge 54, 3) := by decide +kernel
theorem k_Canon_firstNotHeard_19 : decode Y_Canon_firstNotHeard.2.1 19 = .ok (.aload_n 0, 1) := by decide +kernel
theorem k_Canon_firstNotHeard_20 : decode Y_Canon_firstNotHeard.2.1 20 = .ok (.iload_n 1, 1) := by decide +kernel
theorem k_Canon_firstNotHeard_21 : decode Y_Canon_firstNotHeard.2.1 21 = .ok (.iload_n 2, 1) := by decide +kernel
theorem k_Canon_firstNotHeard_22 : decode Y_Canon_firstNotHeard.2.1 22 = .ok (.iload 4, 2) := by decide +kernel
theorem k_Canon_firstNotHeard_24 : decode Y_Canon_firstNotHeard.2.1 24 = .ok (.iadd, 1) := by decide +kernel
theorem k_Canon_firstNotHeard_25 : decode Y_Canon_firstNotHeard.2.1 25 = .ok (.invokevirtual 120, 3) := by decide +kernel
theorem k_Canon_firstNotHeard_28 : decode Y_Canon_firstNotHeard.2.1 28 = .ok (.istore 5, 2) := by decide +kernel
theorem k_Canon_firstNotHeard_30 : decode Y_Canon_firstNotHeard.2.1 30 = .ok (.iload 5, 2) := by decide +kernel
theorem k_Canon_firstNotHeard_32 : decode Y_Canon_firstNotHeard.2.1 32 = .ok (.sipush 999, 3) := by decide +kernel
theorem k_Canon_firstNotHeard_35 : decode Y_Canon_firstNotHeard.2.1 35 = .ok (.if_icmp .ne 8, 3) := by decide +kernel
theorem k_Canon_firstNotHeard_38 : decode Y_Canon_firstNotHeard.2.1 38 = .ok (.bipush 60, 2) := by decide +kernel
theorem k_Canon_firstNotHeard_40 : decode Y_Canon_firstNotHeard.2.1 40 = .ok (.goto 8, 3) := by decide +kernel
theorem k_Canon_firstNotHeard_43 : decode Y_Canon_firstNotHeard.2.1 43 = .ok (.iload 5, 2) := by decide +kernel
theorem k_Canon_firstNotHeard_45 : decode Y_Canon_firstNotHeard.2.1 45 = .ok (.bipush 10, 2) := by decide +kernel
theorem k_Canon_firstNotHeard_47 : decode Y_Canon_firstNotHeard.2.1 47 = .ok (.iadd, 1) := by decide +kernel
theorem k_Canon_firstNotHeard_48 : decode Y_Canon_firstNotHeard.2.1 48 = .ok (.istore 6, 2) := by decide +kernel
theorem k_Canon_firstNotHeard_50 : decode Y_Canon_firstNotHeard.2.1 50 = .ok (.aload_n 3, 1) := by decide +kernel
theorem k_Canon_firstNotHeard_51 : decode Y_Canon_firstNotHeard.2.1 51 = .ok (.iload 4, 2) := by decide +kernel
theorem k_Canon_firstNotHeard_53 : decode Y_Canon_firstNotHeard.2.1 53 = .ok (.invokevirtual 64, 3) := by decide +kernel
theorem k_Canon_firstNotHeard_56 : decode Y_Canon_firstNotHeard.2.1 56 = .ok (.iload 6, 2) := by decide +kernel
theorem k_Canon_firstNotHeard_58 : decode Y_Canon_firstNotHeard.2.1 58 = .ok (.if_icmp .eq 6, 3) := by decide +kernel
theorem k_Canon_firstNotHeard_61 : decode Y_Canon_firstNotHeard.2.1 61 = .ok (.iload 4, 2) := by decide +kernel
theorem k_Canon_firstNotHeard_63 : decode Y_Canon_firstNotHeard.2.1 63 = .ok (.ireturn, 1) := by decide +kernel
theorem k_Canon_firstNotHeard_64 : decode Y_Canon_firstNotHeard.2.1 64 = .ok (.iinc 4 1, 3) := by decide +kernel
theorem k_Canon_firstNotHeard_67 : decode Y_Canon_firstNotHeard.2.1 67 = .ok (.goto (-57), 3) := by decide +kernel
theorem k_Canon_firstNotHeard_70 : decode Y_Canon_firstNotHeard.2.1 70 = .ok (.bipush (-9), 2) := by decide +kernel
theorem k_Canon_firstNotHeard_72 : decode Y_Canon_firstNotHeard.2.1 72 = .ok (.ireturn, 1) := by decide +kernel
theorem k_Meetings_init_0 : decode Y_Meetings_init.2.1 0 = .ok (.aload_n 0, 1) := by decide +kernel
theorem k_Meetings_init_1 : decode Y_Meetings_init.2.1 1 = .ok (.invokespecial 3, 3) := by decide +kernel
theorem k_Meetings_init_4 : decode Y_Meetings_init.2.1 4 = .ok (.aload_n 0, 1) := by decide +kernel
theorem k_Meetings_init_5 : decode Y_Meetings_init.2.1 5 = .ok (.new 9, 3) := by decide +kernel
theorem k_Meetings_init_8 : decode Y_Meetings_init.2.1 8 = .ok (.dup, 1) := by decide +kernel
theorem k_Meetings_init_9 : decode Y_Meetings_init.2.1 9 = .ok (.sipush 1170, 3) := by decide +kernel
theorem k_Meetings_init_12 : decode Y_Meetings_init.2.1 12 = .ok (.invokespecial 11, 3) := by decide +kernel
theorem k_Meetings_init_15 : decode Y_Meetings_init.2.1 15 = .ok (.putfield 14, 3) := by decide +kernel
theorem k_Meetings_init_18 : decode Y_Meetings_init.2.1 18 = .ok (.aload_n 0, 1) := by decide +kernel
theorem k_Meetings_init_19 : decode Y_Meetings_init.2.1 19 = .ok (.new 9, 3) := by decide +kernel
theorem k_Meetings_init_22 : decode Y_Meetings_init.2.1 22 = .ok (.dup, 1) := by decide +kernel
theorem k_Meetings_init_23 : decode Y_Meetings_init.2.1 23 = .ok (.sipush 1170, 3) := by decide +kernel
theorem k_Meetings_init_26 : decode Y_Meetings_init.2.1 26 = .ok (.invokespecial 11, 3) := by decide +kernel
theorem k_Meetings_init_29 : decode Y_Meetings_init.2.1 29 = .ok (.putfield 20, 3) := by decide +kernel
theorem k_Meetings_init_32 : decode Y_Meetings_init.2.1 32 = .ok (.return_, 1) := by decide +kernel
theorem k_Meetings_gather_0 : decode Y_Meetings_gather.2.1 0 = .ok (.aload_n 0, 1) := by decide +kernel
theorem k_Meetings_gather_1 : decode Y_Meetings_gather.2.1 1 = .ok (.getfield 14, 3) := by decide +kernel
theorem k_Meetings_gather_4 : decode Y_Meetings_gather.2.1 4 = .ok (.invokevirtual 23, 3) := by decide +kernel
theorem k_Meetings_gather_7 : decode Y_Meetings_gather.2.1 7 = .ok (.aload_n 0, 1) := by decide +kernel
theorem k_Meetings_gather_8 : decode Y_Meetings_gather.2.1 8 = .ok (.getfield 20, 3) := by decide +kernel
theorem k_Meetings_gather_11 : decode Y_Meetings_gather.2.1 11 = .ok (.invokevirtual 23, 3) := by decide +kernel
theorem k_Meetings_gather_14 : decode Y_Meetings_gather.2.1 14 = .ok (.aload_n 1, 1) := by decide +kernel
theorem k_Meetings_gather_15 : decode Y_Meetings_gather.2.1 15 = .ok (.ifnonnull 4, 3) := by decide +kernel
theorem k_Meetings_gather_18 : decode Y_Meetings_gather.2.1 18 = .ok (.return_, 1) := by decide +kernel
theorem k_Meetings_gather_19 : decode Y_Meetings_gather.2.1 19 = .ok (.iconst 0, 1) := by decide +kernel
theorem k_Meetings_gather_20 : decode Y_Meetings_gather.2.1 20 = .ok (.istore_n 2, 1) := by decide +kernel
theorem k_Meetings_gather_21 : decode Y_Meetings_gather.2.1 21 = .ok (.iload_n 2, 1) := by decide +kernel
theorem k_Meetings_gather_22 : decode Y_Meetings_gather.2.1 22 = .ok (.aload_n 1, 1) := by decide +kernel
theorem k_Meetings_gather_23 : decode Y_Meetings_gather.2.1 23 = .ok (.invokevirtual 26, 3) := by decide +kernel
theorem k_Meetings_gather_26 : decode Y_Meetings_gather.2.1 26 = .ok (.if_icmp .ge 97, 3) := by decide +kernel
theorem k_Meetings_gather_29 : decode Y_Meetings_gather.2.1 29 = .ok (.iload_n 2, 1) := by decide +kernel
theorem k_Meetings_gather_30 : decode Y_Meetings_gather.2.1 30 = .ok (.iconst 1, 1) := by decide +kernel
theorem k_Meetings_gather_31 : decode Y_Meetings_gather.2.1 31 = .ok (.iadd, 1) := by decide +kernel
theorem k_Meetings_gather_32 : decode Y_Meetings_gather.2.1 32 = .ok (.istore_n 3, 1) := by decide +kernel
theorem k_Meetings_gather_33 : decode Y_Meetings_gather.2.1 33 = .ok (.iload_n 3, 1) := by decide +kernel
theorem k_Meetings_gather_34 : decode Y_Meetings_gather.2.1 34 = .ok (.aload_n 1, 1) := by decide +kernel
theorem k_Meetings_gather_35 : decode Y_Meetings_gather.2.1 35 = .ok (.invokevirtual 26, 3) := by decide +kernel
theorem k_Meetings_gather_38 : decode Y_Meetings_gather.2.1 38 = .ok (.if_icmp .ge 79, 3) := by decide +kernel
theorem k_Meetings_gather_41 : decode Y_Meetings_gather.2.1 41 = .ok (.aload_n 0, 1) := by decide +kernel
theorem k_Meetings_gather_42 : decode Y_Meetings_gather.2.1 42 = .ok (.getfield 14, 3) := by decide +kernel
theorem k_Meetings_gather_45 : decode Y_Meetings_gather.2.1 45 = .ok (.invokevirtual 32, 3) := by decide +kernel
theorem k_Meetings_gather_48 : decode Y_Meetings_gather.2.1 48 = .ok (.istore 4, 2) := by decide +kernel
theorem k_Meetings_gather_50 : decode Y_Meetings_gather.2.1 50 = .ok (.aload_n 1, 1) := by decide +kernel
theorem k_Meetings_gather_51 : decode Y_Meetings_gather.2.1 51 = .ok (.iload_n 2, 1) := by decide +kernel
theorem k_Meetings_gather_52 : decode Y_Meetings_gather.2.1 52 = .ok (.invokevirtual 35, 3) := by decide +kernel
theorem k_Meetings_gather_55 : decode Y_Meetings_gather.2.1 55 = .ok (.aload_n 1, 1) := by decide +kernel
theorem k_Meetings_gather_56 : decode Y_Meetings_gather.2.1 56 = .ok (.iload_n 3, 1) := by decide +kernel
theorem k_Meetings_gather_57 : decode Y_Meetings_gather.2.1 57 = .ok (.invokevirtual 35, 3) := by decide +kernel
theorem k_Meetings_gather_60 : decode Y_Meetings_gather.2.1 60 = .ok (.invokestatic 39, 3) := by decide +kernel
theorem k_Meetings_gather_63 : decode Y_Meetings_gather.2.1 63 = .ok (.istore 5, 2) := by decide +kernel
theorem k_Meetings_gather_65 : decode Y_Meetings_gather.2.1 65 = .ok (.aload_n 1, 1) := by decide +kernel
theorem k_Meetings_gather_66 : decode Y_Meetings_gather.2.1 66 = .ok (.iload_n 2, 1) := by decide +kernel
theorem k_Meetings_gather_67 : decode Y_Meetings_gather.2.1 67 = .ok (.invokevirtual 45, 3) := by decide +kernel
theorem k_Meetings_gather_70 : decode Y_Meetings_gather.2.1 70 = .ok (.aload_n 1, 1) := by decide +kernel
theorem k_Meetings_gather_71 : decode Y_Meetings_gather.2.1 71 = .ok (.iload_n 3, 1) := by decide +kernel
theorem k_Meetings_gather_72 : decode Y_Meetings_gather.2.1 72 = .ok (.invokevirtual 45, 3) := by decide +kernel
theorem k_Meetings_gather_75 : decode Y_Meetings_gather.2.1 75 = .ok (.invokestatic 48, 3) := by decide +kernel
theorem k_Meetings_gather_78 : decode Y_Meetings_gather.2.1 78 = .ok (.istore 6, 2) := by decide +kernel
theorem k_Meetings_gather_80 : decode Y_Meetings_gather.2.1 80 = .ok (.iload 5, 2) := by decide +kernel
theorem k_Meetings_gather_82 : decode Y_Meetings_gather.2.1 82 = .ok (.istore 7, 2) := by decide +kernel
theorem k_Meetings_gather_84 : decode Y_Meetings_gather.2.1 84 = .ok (.iload 7, 2) := by decide +kernel
theorem k_Meetings_gather_86 : decode Y_Meetings_gather.2.1 86 = .ok (.iload 6, 2) := by decide +kernel
theorem k_Meetings_gather_88 : decode Y_Meetings_gather.2.1 88 = .ok (.if_icmp .ge 23, 3) := by decide +kernel
theorem k_Meetings_gather_91 : decode Y_Meetings_gather.2.1 91 = .ok (.aload_n 0, 1) := by decide +kernel
theorem k_Meetings_gather_92 : decode Y_Meetings_gather.2.1 92 = .ok (.aload_n 1, 1) := by decide +kernel
theorem k_Meetings_gather_93 : decode Y_Meetings_gather.2.1 93 = .ok (.iload_n 2, 1) := by decide +kernel
theorem k_Meetings_gather_94 : decode Y_Meetings_gather.2.1 94 = .ok (.iload_n 3, 1) := by decide +kernel
theorem k_Meetings_gather_95 : decode Y_Meetings_gather.2.1 95 = .ok (.iload 7, 2) := by decide +kernel
theorem k_Meetings_gather_97 : decode Y_Meetings_gather.2.1 97 = .ok (.invokestatic 51, 3) := by decide +kernel
theorem k_Meetings_gather_100 : decode Y_Meetings_gather.2.1 100 = .ok (.iload 4, 2) := by decide +kernel
theorem k_Meetings_gather_102 : decode Y_Meetings_gather.2.1 102 = .ok (.invokevirtual 55, 3) := by decide +kernel
theorem k_Meetings_gather_105 : decode Y_Meetings_gather.2.1 105 = .ok (.iinc 7 1, 3) := by decide +kernel
theorem k_Meetings_gather_108 : decode Y_Meetings_gather.2.1 108 = .ok (.goto (-24), 3) := by decide +kernel
theorem k_Meetings_gather_111 : decode Y_Meetings_gather.2.1 111 = .ok (.iinc 3 1, 3) := by decide +kernel
theorem k_Meetings_gather_114 : decode Y_Meetings_gather.2.1 114 = .ok (.goto (-81), 3) := by decide +kernel
theorem k_Meetings_gather_117 : decode Y_Meetings_gather.2.1 117 = .ok (.iinc 2 1, 3) := by decide +kernel
theorem k_Meetings_gather_120 : decode Y_Meetings_gather.2.1 120 = .ok (.goto (-99), 3) := by decide +kernel
theorem k_Meetings_gather_123 : decode Y_Meetings_gather.2.1 123 = .ok (.return_, 1) := by decide +kernel
theorem k_Meetings_wayOf_0 : decode Y_Meetings_wayOf.2.1 0 = .ok (.aload_n 0, 1) := by decide +kernel
theorem k_Meetings_wayOf_1 : decode Y_Meetings_wayOf.2.1 1 = .ok (.iload_n 1, 1) := by decide +kernel
theorem k_Meetings_wayOf_2 : decode Y_Meetings_wayOf.2.1 2 = .ok (.iload_n 3, 1) := by decide +kernel
theorem k_Meetings_wayOf_3 : decode Y_Meetings_wayOf.2.1 3 = .ok (.invokevirtual 59, 3) := by decide +kernel
theorem k_Meetings_wayOf_6 : decode Y_Meetings_wayOf.2.1 6 = .ok (.aload_n 0, 1) := by decide +kernel
theorem k_Meetings_wayOf_7 : decode Y_Meetings_wayOf.2.1 7 = .ok (.iload_n 2, 1) := by decide +kernel
theorem k_Meetings_wayOf_8 : decode Y_Meetings_wayOf.2.1 8 = .ok (.iload_n 3, 1) := by decide +kernel
theorem k_Meetings_wayOf_9 : decode Y_Meetings_wayOf.2.1 9 = .ok (.invokevirtual 59, 3) := by decide +kernel
theorem k_Meetings_wayOf_12 : decode Y_Meetings_wayOf.2.1 12 = .ok (.isub, 1) := by decide +kernel
theorem k_Meetings_wayOf_13 : decode Y_Meetings_wayOf.2.1 13 = .ok (.istore 4, 2) := by decide +kernel
theorem k_Meetings_wayOf_15 : decode Y_Meetings_wayOf.2.1 15 = .ok (.aload_n 0, 1) := by decide +kernel
theorem k_Meetings_wayOf_16 : decode Y_Meetings_wayOf.2.1 16 = .ok (.iload_n 2, 1) := by decide +kernel
theorem k_Meetings_wayOf_17 : decode Y_Meetings_wayOf.2.1 17 = .ok (.invokevirtual 62, 3) := by decide +kernel
theorem k_Meetings_wayOf_20 : decode Y_Meetings_wayOf.2.1 20 = .ok (.istore 5, 2) := by decide +kernel
theorem k_Meetings_wayOf_22 : decode Y_Meetings_wayOf.2.1 22 = .ok (.iload 5, 2) := by decide +kernel
theorem k_Meetings_wayOf_24 : decode Y_Meetings_wayOf.2.1 24 = .ok (.ifCond .eq 8, 3) := by decide +kernel
theorem k_Meetings_wayOf_27 : decode Y_Meetings_wayOf.2.1 27 = .ok (.iload 4, 2) := by decide +kernel
theorem k_Meetings_wayOf_29 : decode Y_Meetings_wayOf.2.1 29 = .ok (.ineg, 1) := by decide +kernel
theorem k_Meetings_wayOf_30 : decode Y_Meetings_wayOf.2.1 30 = .ok (.istore 4, 2) := by decide +kernel
theorem k_Meetings_wayOf_32 : decode Y_Meetings_wayOf.2.1 32 = .ok (.aload_n 0, 1) := by decide +kernel
theorem k_Meetings_wayOf_33 : decode Y_Meetings_wayOf.2.1 33 = .ok (.iload_n 1, 1) := by decide +kernel
theorem k_Meetings_wayOf_34 : decode Y_Meetings_wayOf.2.1 34 = .ok (.iload_n 3, 1) := by decide +kernel
theorem k_Meetings_wayOf_35 : decode Y_Meetings_wayOf.2.1 35 = .ok (.invokevirtual 66, 3) := by decide +kernel
theorem k_Meetings_wayOf_38 : decode Y_Meetings_wayOf.2.1 38 = .ok (.aload_n 0, 1) := by decide +kernel
theorem k_Meetings_wayOf_39 : decode Y_Meetings_wayOf.2.1 39 = .ok (.iload_n 2, 1) := by decide +kernel
theorem k_Meetings_wayOf_40 : decode Y_Meetings_wayOf.2.1 40 = .ok (.iload_n 3, 1) := by decide +kernel
theorem k_Meetings_wayOf_41 : decode Y_Meetings_wayOf.2.1 41 = .ok (.invokevirtual 66, 3) := by decide +kernel
theorem k_Meetings_wayOf_44 : decode Y_Meetings_wayOf.2.1 44 = .ok (.iconst 4, 1) := by decide +kernel
theorem k_Meetings_wayOf_45 : decode Y_Meetings_wayOf.2.1 45 = .ok (.ishl, 1) := by decide +kernel
theorem k_Meetings_wayOf_46 : decode Y_Meetings_wayOf.2.1 46 = .ok (.ior, 1) := by decide +kernel
theorem k_Meetings_wayOf_47 : decode Y_Meetings_wayOf.2.1 47 = .ok (.istore 6, 2) := by decide +kernel
theorem k_Meetings_wayOf_49 : decode Y_Meetings_wayOf.2.1 49 = .ok (.aload_n 0, 1) := by decide +kernel
theorem k_Meetings_wayOf_50 : decode Y_Meetings_wayOf.2.1 50 = .ok (.iload_n 1, 1) := by decide +kernel
theorem k_Meetings_wayOf_51 : decode Y_Meetings_wayOf.2.1 51 = .ok (.invokevirtual 62, 3) := by decide +kernel
theorem k_Meetings_wayOf_54 : decode Y_Meetings_wayOf.2.1 54 = .ok (.iload 5, 2) := by decide +kernel
theorem k_Meetings_wayOf_56 : decode Y_Meetings_wayOf.2.1 56 = .ok (.if_icmp .eq 9, 3) := by decide +kernel
theorem k_Meetings_wayOf_59 : decode Y_Meetings_wayOf.2.1 59 = .ok (.sipush 16384, 3) := by decide +kernel
theorem k_Meetings_wayOf_62 : decode Y_Meetings_wayOf.2.1 62 = .ok (.goto 4, 3) := by decide +kernel
theorem k_Meetings_wayOf_65 : decode Y_Meetings_wayOf.2.1 65 = .ok (.iconst 0, 1) := by decide +kernel
theorem k_Meetings_wayOf_66 : decode Y_Meetings_wayOf.2.1 66 = .ok (.istore 7, 2) := by decide +kernel
theorem k_Meetings_wayOf_68 : decode Y_Meetings_wayOf.2.1 68 = .ok (.iload 6, 2) := by decide +kernel
theorem k_Meetings_wayOf_70 : decode Y_Meetings_wayOf.2.1 70 = .ok (.iload 4, 2) := by decide +kernel
theorem k_Meetings_wayOf_72 : decode Y_Meetings_wayOf.2.1 72 = .ok (.bipush 32, 2) := by decide +kernel
theorem k_Meetings_wayOf_74 : decode Y_Meetings_wayOf.2.1 74 = .ok (.iadd, 1) := by decide +kernel
theorem k_Meetings_wayOf_75 : decode Y_Meetings_wayOf.2.1 75 = .ok (.bipush 8, 2) := by decide +kernel
theorem k_Meetings_wayOf_77 : decode Y_Meetings_wayOf.2.1 77 = .ok (.ishl, 1) := by decide +kernel
theorem k_Meetings_wayOf_78 : decode Y_Meetings_wayOf.2.1 78 = .ok (.ior, 1) := by decide +kernel
theorem k_Meetings_wayOf_79 : decode Y_Meetings_wayOf.2.1 79 = .ok (.iload 7, 2) := by decide +kernel
theorem k_Meetings_wayOf_81 : decode Y_Meetings_wayOf.2.1 81 = .ok (.ior, 1) := by decide +kernel
theorem k_Meetings_wayOf_82 : decode Y_Meetings_wayOf.2.1 82 = .ok (.ireturn, 1) := by decide +kernel
theorem k_Meetings_meet_0 : decode Y_Meetings_meet.2.1 0 = .ok (.aload_n 0, 1) := by decide +kernel
theorem k_Meetings_meet_1 : decode Y_Meetings_meet.2.1 1 = .ok (.getfield 14, 3) := by decide +kernel
theorem k_Meetings_meet_4 : decode Y_Meetings_meet.2.1 4 = .ok (.invokevirtual 32, 3) := by decide +kernel
theorem k_Meetings_meet_7 : decode Y_Meetings_meet.2.1 7 = .ok (.iconst 1, 1) := by decide +kernel
theorem k_Meetings_meet_8 : decode Y_Meetings_meet.2.1 8 = .ok (.isub, 1) := by decide +kernel
theorem k_Meetings_meet_9 : decode Y_Meetings_meet.2.1 9 = .ok (.istore_n 3, 1) := by decide +kernel
theorem k_Meetings_meet_10 : decode Y_Meetings_meet.2.1 10 = .ok (.iload_n 3, 1) := by decide +kernel
theorem k_Meetings_meet_11 : decode Y_Meetings_meet.2.1 11 = .ok (.iload_n 2, 1) := by decide +kernel
theorem k_Meetings_meet_12 : decode Y_Meetings_meet.2.1 12 = .ok (.if_icmp .lt 40, 3) := by decide +kernel
theorem k_Meetings_meet_15 : decode Y_Meetings_meet.2.1 15 = .ok (.aload_n 0, 1) := by decide +kernel
theorem k_Meetings_meet_16 : decode Y_Meetings_meet.2.1 16 = .ok (.getfield 14, 3) := by decide +kernel
theorem k_Meetings_meet_19 : decode Y_Meetings_meet.2.1 19 = .ok (.iload_n 3, 1) := by decide +kernel
theorem k_Meetings_meet_20 : decode Y_Meetings_meet.2.1 20 = .ok (.invokevirtual 69, 3) := by decide +kernel
theorem k_Meetings_meet_23 : decode Y_Meetings_meet.2.1 23 = .ok (.iload_n 1, 1) := by decide +kernel
theorem k_Meetings_meet_24 : decode Y_Meetings_meet.2.1 24 = .ok (.if_icmp .ne 22, 3) := by decide +kernel
theorem k_Meetings_meet_27 : decode Y_Meetings_meet.2.1 27 = .ok (.aload_n 0, 1) := by decide +kernel
theorem k_Meetings_meet_28 : decode Y_Meetings_meet.2.1 28 = .ok (.getfield 20, 3) := by decide +kernel
theorem k_Meetings_meet_31 : decode Y_Meetings_meet.2.1 31 = .ok (.iload_n 3, 1) := by decide +kernel
theorem k_Meetings_meet_32 : decode Y_Meetings_meet.2.1 32 = .ok (.aload_n 0, 1) := by decide +kernel
theorem k_Meetings_meet_33 : decode Y_Meetings_meet.2.1 33 = .ok (.getfield 20, 3) := by decide +kernel
theorem k_Meetings_meet_36 : decode Y_Meetings_meet.2.1 36 = .ok (.iload_n 3, 1) := by decide +kernel
theorem k_Meetings_meet_37 : decode Y_Meetings_meet.2.1 37 = .ok (.invokevirtual 69, 3) := by decide +kernel
theorem k_Meetings_meet_40 : decode Y_Meetings_meet.2.1 40 = .ok (.iconst 1, 1) := by decide +kernel
theorem k_Meetings_meet_41 : decode Y_Meetings_meet.2.1 41 = .ok (.iadd, 1) := by decide +kernel
theorem k_Meetings_meet_42 : decode Y_Meetings_meet.2.1 42 = .ok (.invokevirtual 72, 3) := by decide +kernel
theorem k_Meetings_meet_45 : decode Y_Meetings_meet.2.1 45 = .ok (.return_, 1) := by decide +kernel
theorem k_Meetings_meet_46 : decode Y_Meetings_meet.2.1 46 = .ok (.iinc 3 (-1), 3) := by decide +kernel
theorem k_Meetings_meet_49 : decode Y_Meetings_meet.2.1 49 = .ok (.goto (-39), 3) := by decide +kernel
theorem k_Meetings_meet_52 : decode Y_Meetings_meet.2.1 52 = .ok (.aload_n 0, 1) := by decide +kernel
theorem k_Meetings_meet_53 : decode Y_Meetings_meet.2.1 53 = .ok (.getfield 14, 3) := by decide +kernel
theorem k_Meetings_meet_56 : decode Y_Meetings_meet.2.1 56 = .ok (.iload_n 1, 1) := by decide +kernel
theorem k_Meetings_meet_57 : decode Y_Meetings_meet.2.1 57 = .ok (.invokevirtual 75, 3) := by decide +kernel
theorem k_Meetings_meet_60 : decode Y_Meetings_meet.2.1 60 = .ok (.aload_n 0, 1) := by decide +kernel
theorem k_Meetings_meet_61 : decode Y_Meetings_meet.2.1 61 = .ok (.getfield 20, 3) := by decide +kernel
theorem k_Meetings_meet_64 : decode Y_Meetings_meet.2.1 64 = .ok (.iconst 1, 1) := by decide +kernel
theorem k_Meetings_meet_65 : decode Y_Meetings_meet.2.1 65 = .ok (.invokevirtual 75, 3) := by decide +kernel
theorem k_Meetings_meet_68 : decode Y_Meetings_meet.2.1 68 = .ok (.return_, 1) := by decide +kernel
theorem k_Meetings_size_0 : decode Y_Meetings_size.2.1 0 = .ok (.aload_n 0, 1) := by decide +kernel
theorem k_Meetings_size_1 : decode Y_Meetings_size.2.1 1 = .ok (.getfield 14, 3) := by decide +kernel
theorem k_Meetings_size_4 : decode Y_Meetings_size.2.1 4 = .ok (.invokevirtual 32, 3) := by decide +kernel
theorem k_Meetings_size_7 : decode Y_Meetings_size.2.1 7 = .ok (.ireturn, 1) := by decide +kernel
theorem k_Meetings_isIll_0 : decode Y_Meetings_isIll.2.1 0 = .ok (.aload_n 0, 1) := by decide +kernel
theorem k_Meetings_isIll_1 : decode Y_Meetings_isIll.2.1 1 = .ok (.getfield 14, 3) := by decide +kernel
theorem k_Meetings_isIll_4 : decode Y_Meetings_isIll.2.1 4 = .ok (.iload_n 1, 1) := by decide +kernel
theorem k_Meetings_isIll_5 : decode Y_Meetings_isIll.2.1 5 = .ok (.invokevirtual 69, 3) := by decide +kernel
theorem k_Meetings_isIll_8 : decode Y_Meetings_isIll.2.1 8 = .ok (.istore_n 3, 1) := by decide +kernel
theorem k_Meetings_isIll_9 : decode Y_Meetings_isIll.2.1 9 = .ok (.aload_n 2, 1) := by decide +kernel
theorem k_Meetings_isIll_10 : decode Y_Meetings_isIll.2.1 10 = .ok (.getfield 78, 3) := by decide +kernel
theorem k_Meetings_isIll_13 : decode Y_Meetings_isIll.2.1 13 = .ok (.getfield 82, 3) := by decide +kernel
theorem k_Meetings_isIll_16 : decode Y_Meetings_isIll.2.1 16 = .ok (.astore 4, 2) := by decide +kernel
theorem k_Meetings_isIll_18 : decode Y_Meetings_isIll.2.1 18 = .ok (.aload 4, 2) := by decide +kernel
theorem k_Meetings_isIll_20 : decode Y_Meetings_isIll.2.1 20 = .ok (.iload_n 3, 1) := by decide +kernel
theorem k_Meetings_isIll_21 : decode Y_Meetings_isIll.2.1 21 = .ok (.bipush 15, 2) := by decide +kernel
theorem k_Meetings_isIll_23 : decode Y_Meetings_isIll.2.1 23 = .ok (.iand, 1) := by decide +kernel
theorem k_Meetings_isIll_24 : decode Y_Meetings_isIll.2.1 24 = .ok (.invokevirtual 69, 3) := by decide +kernel
theorem k_Meetings_isIll_27 : decode Y_Meetings_isIll.2.1 27 = .ok (.istore 5, 2) := by decide +kernel
theorem k_Meetings_isIll_29 : decode Y_Meetings_isIll.2.1 29 = .ok (.aload 4, 2) := by decide +kernel
theorem k_Meetings_isIll_31 : decode Y_Meetings_isIll.2.1 31 = .ok (.iload_n 3, 1) := by decide +kernel
theorem k_Meetings_isIll_32 : decode Y_Meetings_isIll.2.1 32 = .ok (.iconst 4, 1) := by decide +kernel
theorem k_Meetings_isIll_33 : decode Y_Meetings_isIll.2.1 33 = .ok (.ishr, 1) := by decide +kernel
theorem k_Meetings_isIll_34 : decode Y_Meetings_isIll.2.1 34 = .ok (.bipush 15, 2) := by decide +kernel
theorem k_Meetings_isIll_36 : decode Y_Meetings_isIll.2.1 36 = .ok (.iand, 1) := by decide +kernel
theorem k_Meetings_isIll_37 : decode Y_Meetings_isIll.2.1 37 = .ok (.invokevirtual 69, 3) := by decide +kernel
theorem k_Meetings_isIll_40 : decode Y_Meetings_isIll.2.1 40 = .ok (.istore 6, 2) := by decide +kernel
theorem k_Meetings_isIll_42 : decode Y_Meetings_isIll.2.1 42 = .ok (.iload_n 3, 1) := by decide +kernel
theorem k_Meetings_isIll_43 : decode Y_Meetings_isIll.2.1 43 = .ok (.bipush 8, 2) := by decide +kernel
theorem k_Meetings_isIll_45 : decode Y_Meetings_isIll.2.1 45 = .ok (.ishr, 1) := by decide +kernel
theorem k_Meetings_isIll_46 : decode Y_Meetings_isIll.2.1 46 = .ok (.bipush 63, 2) := by decide +kernel
theorem k_Meetings_isIll_48 : decode Y_Meetings_isIll.2.1 48 = .ok (.iand, 1) := by decide +kernel
theorem k_Meetings_isIll_49 : decode Y_Meetings_isIll.2.1 49 = .ok (.bipush 32, 2) := by decide +kernel
theorem k_Meetings_isIll_51 : decode Y_Meetings_isIll.2.1 51 = .ok (.isub, 1) := by decide +kernel
theorem k_Meetings_isIll_52 : decode Y_Meetings_isIll.2.1 52 = .ok (.istore 7, 2) := by decide +kernel
theorem k_Meetings_isIll_54 : decode Y_Meetings_isIll.2.1 54 = .ok (.iload 7, 2) := by decide +kernel
theorem k_Meetings_isIll_56 : decode Y_Meetings_isIll.2.1 56 = .ok (.iload_n 3, 1) := by decide +kernel
theorem k_Meetings_isIll_57 : decode Y_Meetings_isIll.2.1 57 = .ok (.bipush 14, 2) := by decide +kernel
theorem k_Meetings_isIll_59 : decode Y_Meetings_isIll.2.1 59 = .ok (.ishr, 1) := by decide +kernel
theorem k_Meetings_isIll_60 : decode Y_Meetings_isIll.2.1 60 = .ok (.ifCond .ne 11, 3) := by decide +kernel
theorem k_Meetings_isIll_63 : decode Y_Meetings_isIll.2.1 63 = .ok (.iload 5, 2) := by decide +kernel
theorem k_Meetings_isIll_65 : decode Y_Meetings_isIll.2.1 65 = .ok (.iload 6, 2) := by decide +kernel
theorem k_Meetings_isIll_67 : decode Y_Meetings_isIll.2.1 67 = .ok (.isub, 1) := by decide +kernel
theorem k_Meetings_isIll_68 : decode Y_Meetings_isIll.2.1 68 = .ok (.goto 17, 3) := by decide +kernel
theorem k_Meetings_isIll_71 : decode Y_Meetings_isIll.2.1 71 = .ok (.iconst 2, 1) := by decide +kernel
theorem k_Meetings_isIll_72 : decode Y_Meetings_isIll.2.1 72 = .ok (.aload 4, 2) := by decide +kernel
theorem k_Meetings_isIll_74 : decode Y_Meetings_isIll.2.1 74 = .ok (.iconst 0, 1) := by decide +kernel
theorem k_Meetings_isIll_75 : decode Y_Meetings_isIll.2.1 75 = .ok (.invokevirtual 69, 3) := by decide +kernel
theorem k_Meetings_isIll_78 : decode Y_Meetings_isIll.2.1 78 = .ok (.imul, 1) := by decide +kernel
theorem k_Meetings_isIll_79 : decode Y_Meetings_isIll.2.1 79 = .ok (.iload 5, 2) := by decide +kernel
theorem k_Meetings_isIll_81 : decode Y_Meetings_isIll.2.1 81 = .ok (.isub, 1) := by decide +kernel
theorem k_Meetings_isIll_82 : decode Y_Meetings_isIll.2.1 82 = .ok (.iload 6, 2) := by decide +kernel
theorem k_Meetings_isIll_84 : decode Y_Meetings_isIll.2.1 84 = .ok (.isub, 1) := by decide +kernel
theorem k_Meetings_isIll_85 : decode Y_Meetings_isIll.2.1 85 = .ok (.iadd, 1) := by decide +kernel
theorem k_Meetings_isIll_86 : decode Y_Meetings_isIll.2.1 86 = .ok (.istore 8, 2) := by decide +kernel
theorem k_Meetings_isIll_88 : decode Y_Meetings_isIll.2.1 88 = .ok (.aload_n 2, 1) := by decide +kernel
theorem k_Meetings_isIll_89 : decode Y_Meetings_isIll.2.1 89 = .ok (.getfield 87, 3) := by decide +kernel
theorem k_Meetings_isIll_92 : decode Y_Meetings_isIll.2.1 92 = .ok (.iload 8, 2) := by decide +kernel
theorem k_Meetings_isIll_94 : decode Y_Meetings_isIll.2.1 94 = .ok (.invokestatic 91, 3) := by decide +kernel
theorem k_Meetings_isIll_97 : decode Y_Meetings_isIll.2.1 97 = .ok (.ifCond .ne 7, 3) := by decide +kernel
theorem k_Meetings_isIll_100 : decode Y_Meetings_isIll.2.1 100 = .ok (.iconst 1, 1) := by decide +kernel
theorem k_Meetings_isIll_101 : decode Y_Meetings_isIll.2.1 101 = .ok (.goto 4, 3) := by decide +kernel
theorem k_Meetings_isIll_104 : decode Y_Meetings_isIll.2.1 104 = .ok (.iconst 0, 1) := by decide +kernel
theorem k_Meetings_isIll_105 : decode Y_Meetings_isIll.2.1 105 = .ok (.ireturn, 1) := by decide +kernel
theorem k_Meetings_notesOf_0 : decode Y_Meetings_notesOf.2.1 0 = .ok (.aload_n 0, 1) := by decide +kernel
theorem k_Meetings_notesOf_1 : decode Y_Meetings_notesOf.2.1 1 = .ok (.getfield 14, 3) := by decide +kernel
theorem k_Meetings_notesOf_4 : decode Y_Meetings_notesOf.2.1 4 = .ok (.iload_n 1, 1) := by decide +kernel
theorem k_Meetings_notesOf_5 : decode Y_Meetings_notesOf.2.1 5 = .ok (.invokevirtual 69, 3) := by decide +kernel
theorem k_Meetings_notesOf_8 : decode Y_Meetings_notesOf.2.1 8 = .ok (.istore_n 2, 1) := by decide +kernel
theorem k_Meetings_notesOf_9 : decode Y_Meetings_notesOf.2.1 9 = .ok (.iconst 1, 1) := by decide +kernel
theorem k_Meetings_notesOf_10 : decode Y_Meetings_notesOf.2.1 10 = .ok (.iload_n 2, 1) := by decide +kernel
theorem k_Meetings_notesOf_11 : decode Y_Meetings_notesOf.2.1 11 = .ok (.bipush 15, 2) := by decide +kernel
theorem k_Meetings_notesOf_13 : decode Y_Meetings_notesOf.2.1 13 = .ok (.iand, 1) := by decide +kernel
theorem k_Meetings_notesOf_14 : decode Y_Meetings_notesOf.2.1 14 = .ok (.ishl, 1) := by decide +kernel
theorem k_Meetings_notesOf_15 : decode Y_Meetings_notesOf.2.1 15 = .ok (.iconst 1, 1) := by decide +kernel
theorem k_Meetings_notesOf_16 : decode Y_Meetings_notesOf.2.1 16 = .ok (.iload_n 2, 1) := by decide +kernel
theorem k_Meetings_notesOf_17 : decode Y_Meetings_notesOf.2.1 17 = .ok (.iconst 4, 1) := by decide +kernel
theorem k_Meetings_notesOf_18 : decode Y_Meetings_notesOf.2.1 18 = .ok (.ishr, 1) := by decide +kernel
theorem k_Meetings_notesOf_19 : decode Y_Meetings_notesOf.2.1 19 = .ok (.bipush 15, 2) := by decide +kernel
theorem k_Meetings_notesOf_21 : decode Y_Meetings_notesOf.2.1 21 = .ok (.iand, 1) := by decide +kernel
theorem k_Meetings_notesOf_22 : decode Y_Meetings_notesOf.2.1 22 = .ok (.ishl, 1) := by decide +kernel
theorem k_Meetings_notesOf_23 : decode Y_Meetings_notesOf.2.1 23 = .ok (.ior, 1) := by decide +kernel
theorem k_Meetings_notesOf_24 : decode Y_Meetings_notesOf.2.1 24 = .ok (.iload_n 2, 1) := by decide +kernel
theorem k_Meetings_notesOf_25 : decode Y_Meetings_notesOf.2.1 25 = .ok (.bipush 14, 2) := by decide +kernel
theorem k_Meetings_notesOf_27 : decode Y_Meetings_notesOf.2.1 27 = .ok (.ishr, 1) := by decide +kernel
theorem k_Meetings_notesOf_28 : decode Y_Meetings_notesOf.2.1 28 = .ok (.ior, 1) := by decide +kernel
theorem k_Meetings_notesOf_29 : decode Y_Meetings_notesOf.2.1 29 = .ok (.ireturn, 1) := by decide +kernel
theorem k_Meetings_areWell_0 : decode Y_Meetings_areWell.2.1 0 = .ok (.iconst 0, 1) := by decide +kernel
theorem k_Meetings_areWell_1 : decode Y_Meetings_areWell.2.1 1 = .ok (.istore_n 2, 1) := by decide +kernel
theorem k_Meetings_areWell_2 : decode Y_Meetings_areWell.2.1 2 = .ok (.iload_n 2, 1) := by decide +kernel
theorem k_Meetings_areWell_3 : decode Y_Meetings_areWell.2.1 3 = .ok (.aload_n 0, 1) := by decide +kernel
theorem k_Meetings_areWell_4 : decode Y_Meetings_areWell.2.1 4 = .ok (.getfield 14, 3) := by decide +kernel
theorem k_Meetings_areWell_7 : decode Y_Meetings_areWell.2.1 7 = .ok (.invokevirtual 32, 3) := by decide +kernel
theorem k_Meetings_areWell_10 : decode Y_Meetings_areWell.2.1 10 = .ok (.if_icmp .ge 20, 3) := by decide +kernel
theorem k_Meetings_areWell_13 : decode Y_Meetings_areWell.2.1 13 = .ok (.aload_n 0, 1) := by decide +kernel
theorem k_Meetings_areWell_14 : decode Y_Meetings_areWell.2.1 14 = .ok (.iload_n 2, 1) := by decide +kernel
theorem k_Meetings_areWell_15 : decode Y_Meetings_areWell.2.1 15 = .ok (.aload_n 1, 1) := by decide +kernel
theorem k_Meetings_areWell_16 : decode Y_Meetings_areWell.2.1 16 = .ok (.invokevirtual 95, 3) := by decide +kernel
theorem k_Meetings_areWell_19 : decode Y_Meetings_areWell.2.1 19 = .ok (.ifCond .eq 5, 3) := by decide +kernel
theorem k_Meetings_areWell_22 : decode Y_Meetings_areWell.2.1 22 = .ok (.iconst 0, 1) := by decide +kernel
theorem k_Meetings_areWell_23 : decode Y_Meetings_areWell.2.1 23 = .ok (.ireturn, 1) := by decide +kernel
theorem k_Meetings_areWell_24 : decode Y_Meetings_areWell.2.1 24 = .ok (.iinc 2 1, 3) := by decide +kernel
theorem k_Meetings_areWell_27 : decode Y_Meetings_areWell.2.1 27 = .ok (.goto (-25), 3) := by decide +kernel
theorem k_Meetings_areWell_30 : decode Y_Meetings_areWell.2.1 30 = .ok (.iconst 1, 1) := by decide +kernel
theorem k_Meetings_areWell_31 : decode Y_Meetings_areWell.2.1 31 = .ok (.ireturn, 1) := by decide +kernel
theorem k_Meetings_ills_0 : decode Y_Meetings_ills.2.1 0 = .ok (.iconst 0, 1) := by decide +kernel
theorem k_Meetings_ills_1 : decode Y_Meetings_ills.2.1 1 = .ok (.istore_n 2, 1) := by decide +kernel
theorem k_Meetings_ills_2 : decode Y_Meetings_ills.2.1 2 = .ok (.iconst 0, 1) := by decide +kernel
theorem k_Meetings_ills_3 : decode Y_Meetings_ills.2.1 3 = .ok (.istore_n 3, 1) := by decide +kernel
theorem k_Meetings_ills_4 : decode Y_Meetings_ills.2.1 4 = .ok (.iload_n 3, 1) := by decide +kernel
theorem k_Meetings_ills_5 : decode Y_Meetings_ills.2.1 5 = .ok (.aload_n 0, 1) := by decide +kernel
theorem k_Meetings_ills_6 : decode Y_Meetings_ills.2.1 6 = .ok (.getfield 14, 3) := by decide +kernel
theorem k_Meetings_ills_9 : decode Y_Meetings_ills.2.1 9 = .ok (.invokevirtual 32, 3) := by decide +kernel
theorem k_Meetings_ills_12 : decode Y_Meetings_ills.2.1 12 = .ok (.if_icmp .ge 29, 3) := by decide +kernel
theorem k_Meetings_ills_15 : decode Y_Meetings_ills.2.1 15 = .ok (.aload_n 0, 1) := by decide +kernel
theorem k_Meetings_ills_16 : decode Y_Meetings_ills.2.1 16 = .ok (.iload_n 3, 1) := by decide +kernel
theorem k_Meetings_ills_17 : decode Y_Meetings_ills.2.1 17 = .ok (.aload_n 1, 1) := by decide +kernel
theorem k_Meetings_ills_18 : decode Y_Meetings_ills.2.1 18 = .ok (.invokevirtual 95, 3) := by decide +kernel
theorem k_Meetings_ills_21 : decode Y_Meetings_ills.2.1 21 = .ok (.ifCond .eq 14, 3) := by decide +kernel
theorem k_Meetings_ills_24 : decode Y_Meetings_ills.2.1 24 = .ok (.iload_n 2, 1) := by decide +kernel
theorem k_Meetings_ills_25 : decode Y_Meetings_ills.2.1 25 = .ok (.aload_n 0, 1) := by decide +kernel
theorem k_Meetings_ills_26 : decode Y_Meetings_ills.2.1 26 = .ok (.getfield 20, 3) := by decide +kernel
theorem k_Meetings_ills_29 : decode Y_Meetings_ills.2.1 29 = .ok (.iload_n 3, 1) := by decide +kernel
theorem k_Meetings_ills_30 : decode Y_Meetings_ills.2.1 30 = .ok (.invokevirtual 69, 3) := by decide +kernel
theorem k_Meetings_ills_33 : decode Y_Meetings_ills.2.1 33 = .ok (.iadd, 1) := by decide +kernel
theorem k_Meetings_ills_34 : decode Y_Meetings_ills.2.1 34 = .ok (.istore_n 2, 1) := by decide +kernel
theorem k_Meetings_ills_35 : decode Y_Meetings_ills.2.1 35 = .ok (.iinc 3 1, 3) := by decide +kernel
theorem k_Meetings_ills_38 : decode Y_Meetings_ills.2.1 38 = .ok (.goto (-34), 3) := by decide +kernel
theorem k_Meetings_ills_41 : decode Y_Meetings_ills.2.1 41 = .ok (.iload_n 2, 1) := by decide +kernel
theorem k_Meetings_ills_42 : decode Y_Meetings_ills.2.1 42 = .ok (.ireturn, 1) := by decide +kernel
theorem k_Mind_init_0 : decode Y_Mind_init.2.1 0 = .ok (.aload_n 0, 1) := by decide +kernel
theorem k_Mind_init_1 : decode Y_Mind_init.2.1 1 = .ok (.invokespecial 3, 3) := by decide +kernel
theorem k_Mind_init_4 : decode Y_Mind_init.2.1 4 = .ok (.aload_n 0, 1) := by decide +kernel
theorem k_Mind_init_5 : decode Y_Mind_init.2.1 5 = .ok (.new 9, 3) := by decide +kernel
theorem k_Mind_init_8 : decode Y_Mind_init.2.1 8 = .ok (.dup, 1) := by decide +kernel
theorem k_Mind_init_9 : decode Y_Mind_init.2.1 9 = .ok (.invokespecial 11, 3) := by decide +kernel
theorem k_Mind_init_12 : decode Y_Mind_init.2.1 12 = .ok (.putfield 12, 3) := by decide +kernel
theorem k_Mind_init_15 : decode Y_Mind_init.2.1 15 = .ok (.aload_n 0, 1) := by decide +kernel
theorem k_Mind_init_16 : decode Y_Mind_init.2.1 16 = .ok (.new 18, 3) := by decide +kernel
theorem k_Mind_init_19 : decode Y_Mind_init.2.1 19 = .ok (.dup, 1) := by decide +kernel
theorem k_Mind_init_20 : decode Y_Mind_init.2.1 20 = .ok (.invokespecial 20, 3) := by decide +kernel
theorem k_Mind_init_23 : decode Y_Mind_init.2.1 23 = .ok (.putfield 21, 3) := by decide +kernel
theorem k_Mind_init_26 : decode Y_Mind_init.2.1 26 = .ok (.aload_n 0, 1) := by decide +kernel
theorem k_Mind_init_27 : decode Y_Mind_init.2.1 27 = .ok (.new 25, 3) := by decide +kernel
theorem k_Mind_init_30 : decode Y_Mind_init.2.1 30 = .ok (.dup, 1) := by decide +kernel
theorem k_Mind_init_31 : decode Y_Mind_init.2.1 31 = .ok (.bipush 12, 2) := by decide +kernel
theorem k_Mind_init_33 : decode Y_Mind_init.2.1 33 = .ok (.invokespecial 27, 3) := by decide +kernel
theorem k_Mind_init_36 : decode Y_Mind_init.2.1 36 = .ok (.putfield 30, 3) := by decide +kernel
theorem k_Mind_init_39 : decode Y_Mind_init.2.1 39 = .ok (.return_, 1) := by decide +kernel
theorem k_Mind_take_0 : decode Y_Mind_take.2.1 0 = .ok (.aload_n 0, 1) := by decide +kernel
theorem k_Mind_take_1 : decode Y_Mind_take.2.1 1 = .ok (.getfield 12, 3) := by decide +kernel
theorem k_Mind_take_4 : decode Y_Mind_take.2.1 4 = .ok (.aload_n 1, 1) := by decide +kernel
theorem k_Mind_take_5 : decode Y_Mind_take.2.1 5 = .ok (.invokevirtual 34, 3) := by decide +kernel
theorem k_Mind_take_8 : decode Y_Mind_take.2.1 8 = .ok (.aload_n 0, 1) := by decide +kernel
theorem k_Mind_take_9 : decode Y_Mind_take.2.1 9 = .ok (.getfield 12, 3) := by decide +kernel
theorem k_Mind_take_12 : decode Y_Mind_take.2.1 12 = .ok (.areturn, 1) := by decide +kernel
theorem k_Mind_agreeingEntries_0 : decode Y_Mind_agreeingEntries.2.1 0 = .ok (.aload_n 0, 1) := by decide +kernel
theorem k_Mind_agreeingEntries_1 : decode Y_Mind_agreeingEntries.2.1 1 = .ok (.aload_n 1, 1) := by decide +kernel
theorem k_Mind_agreeingEntries_2 : decode Y_Mind_agreeingEntries.2.1 2 = .ok (.invokevirtual 38, 3) := by decide +kernel
theorem k_Mind_agreeingEntries_5 : decode Y_Mind_agreeingEntries.2.1 5 = .ok (.pop, 1) := by decide +kernel
theorem k_Mind_agreeingEntries_6 : decode Y_Mind_agreeingEntries.2.1 6 = .ok (.aload_n 0, 1) := by decide +kernel
theorem k_Mind_agreeingEntries_7 : decode Y_Mind_agreeingEntries.2.1 7 = .ok (.getfield 12, 3) := by decide +kernel
theorem k_Mind_agreeingEntries_10 : decode Y_Mind_agreeingEntries.2.1 10 = .ok (.invokevirtual 42, 3) := by decide +kernel
theorem k_Mind_agreeingEntries_13 : decode Y_Mind_agreeingEntries.2.1 13 = .ok (.istore 4, 2) := by decide +kernel
theorem k_Mind_agreeingEntries_15 : decode Y_Mind_agreeingEntries.2.1 15 = .ok (.aload_n 0, 1) := by decide +kernel
theorem k_Mind_agreeingEntries_16 : decode Y_Mind_agreeingEntries.2.1 16 = .ok (.getfield 12, 3) := by decide +kernel
theorem k_Mind_agreeingEntries_19 : decode Y_Mind_agreeingEntries.2.1 19 = .ok (.iload_n 2, 1) := by decide +kernel
theorem k_Mind_agreeingEntries_20 : decode Y_Mind_agreeingEntries.2.1 20 = .ok (.iconst 0, 1) := by decide +kernel
theorem k_Mind_agreeingEntries_21 : decode Y_Mind_agreeingEntries.2.1 21 = .ok (.iload_n 3, 1) := by decide +kernel
theorem k_Mind_agreeingEntries_22 : decode Y_Mind_agreeingEntries.2.1 22 = .ok (.invokevirtual 46, 3) := by decide +kernel
theorem k_Mind_agreeingEntries_25 : decode Y_Mind_agreeingEntries.2.1 25 = .ok (.iconst 0, 1) := by decide +kernel
theorem k_Mind_agreeingEntries_26 : decode Y_Mind_agreeingEntries.2.1 26 = .ok (.istore 5, 2) := by decide +kernel
theorem k_Mind_agreeingEntries_28 : decode Y_Mind_agreeingEntries.2.1 28 = .ok (.iconst 0, 1) := by decide +kernel
theorem k_Mind_agreeingEntries_29 : decode Y_Mind_agreeingEntries.2.1 29 = .ok (.istore 6, 2) := by decide +kernel
theorem k_Mind_agreeingEntries_31 : decode Y_Mind_agreeingEntries.2.1 31 = .ok (.iload 6, 2) := by decide +kernel
theorem k_Mind_agreeingEntries_33 : decode Y_Mind_agreeingEntries.2.1 33 = .ok (.bipush 31, 2) := by decide +kernel
theorem k_Mind_agreeingEntries_35 : decode Y_Mind_agreeingEntries.2.1 35 = .ok (.if_icmp .ge 39, 3) := by decide +kernel
theorem k_Mind_agreeingEntries_38 : decode Y_Mind_agreeingEntries.2.1 38 = .ok (.aload_n 0, 1) := by decide +kernel
theorem k_Mind_agreeingEntries_39 : decode Y_Mind_agreeingEntries.2.1 39 = .ok (.getfield 12, 3) := by decide +kernel
theorem k_Mind_agreeingEntries_42 : decode Y_Mind_agreeingEntries.2.1 42 = .ok (.iload 4, 2) := by decide +kernel
theorem k_Mind_agreeingEntries_44 : decode Y_Mind_agreeingEntries.2.1 44 = .ok (.iload 6, 2) := by decide +kernel
theorem k_Mind_agreeingEntries_46 : decode Y_Mind_agreeingEntries.2.1 46 = .ok (.invokevirtual 50, 3) := by decide +kernel
theorem k_Mind_agreeingEntries_49 : decode Y_Mind_agreeingEntries.2.1 49 = .ok (.aload_n 0, 1) := by decide +kernel
theorem k_Mind_agreeingEntries_50 : decode Y_Mind_agreeingEntries.2.1 50 = .ok (.getfield 12, 3) := by decide +kernel
theorem k_Mind_agreeingEntries_53 : decode Y_Mind_agreeingEntries.2.1 53 = .ok (.invokevirtual 54, 3) := by decide +kernel
theorem k_Mind_agreeingEntries_56 : decode Y_Mind_agreeingEntries.2.1 56 = .ok (.ifCond .eq 12, 3) := by decide +kernel
theorem k_Mind_agreeingEntries_59 : decode Y_Mind_agreeingEntries.2.1 59 = .ok (.iload 5, 2) := by decide +kernel
theorem k_Mind_agreeingEntries_61 : decode Y_Mind_agreeingEntries.2.1 61 = .ok (.iconst 1, 1) := by decide +kernel
theorem k_Mind_agreeingEntries_62 : decode Y_Mind_agreeingEntries.2.1 62 = .ok (.iload 6, 2) := by decide +kernel
theorem k_Mind_agreeingEntries_64 : decode Y_Mind_agreeingEntries.2.1 64 = .ok (.ishl, 1) := by decide +kernel
theorem k_Mind_agreeingEntries_65 : decode Y_Mind_agreeingEntries.2.1 65 = .ok (.ior, 1) := by decide +kernel
theorem k_Mind_agreeingEntries_66 : decode Y_Mind_agreeingEntries.2.1 66 = .ok (.istore 5, 2) := by decide +kernel
theorem k_Mind_agreeingEntries_68 : decode Y_Mind_agreeingEntries.2.1 68 = .ok (.iinc 6 1, 3) := by decide +kernel
theorem k_Mind_agreeingEntries_71 : decode Y_Mind_agreeingEntries.2.1 71 = .ok (.goto (-40), 3) := by decide +kernel
theorem k_Mind_agreeingEntries_74 : decode Y_Mind_agreeingEntries.2.1 74 = .ok (.iload 5, 2) := by decide +kernel
theorem k_Mind_agreeingEntries_76 : decode Y_Mind_agreeingEntries.2.1 76 = .ok (.ireturn, 1) := by decide +kernel
theorem k_Mind_addablePitches_0 : decode Y_Mind_addablePitches.2.1 0 = .ok (.aload_n 0, 1) := by decide +kernel
theorem k_Mind_addablePitches_1 : decode Y_Mind_addablePitches.2.1 1 = .ok (.aload_n 1, 1) := by decide +kernel
theorem k_Mind_addablePitches_2 : decode Y_Mind_addablePitches.2.1 2 = .ok (.invokevirtual 38, 3) := by decide +kernel
theorem k_Mind_addablePitches_5 : decode Y_Mind_addablePitches.2.1 5 = .ok (.pop, 1) := by decide +kernel
theorem k_Mind_addablePitches_6 : decode Y_Mind_addablePitches.2.1 6 = .ok (.aload_n 0, 1) := by decide +kernel
theorem k_Mind_addablePitches_7 : decode Y_Mind_addablePitches.2.1 7 = .ok (.getfield 12, 3) := by decide +kernel
theorem k_Mind_addablePitches_10 : decode Y_Mind_addablePitches.2.1 10 = .ok (.getfield 58, 3) := by decide +kernel
theorem k_Mind_addablePitches_13 : decode Y_Mind_addablePitches.2.1 13 = .ok (.invokevirtual 62, 3) := by decide +kernel
theorem k_Mind_addablePitches_16 : decode Y_Mind_addablePitches.2.1 16 = .ok (.istore_n 2, 1) := by decide +kernel
theorem k_Mind_addablePitches_17 : decode Y_Mind_addablePitches.2.1 17 = .ok (.aload_n 0, 1) := by decide +kernel
theorem k_Mind_addablePitches_18 : decode Y_Mind_addablePitches.2.1 18 = .ok (.getfield 12, 3) := by decide +kernel
theorem k_Mind_addablePitches_21 : decode Y_Mind_addablePitches.2.1 21 = .ok (.getfield 58, 3) := by decide +kernel
theorem k_Mind_addablePitches_24 : decode Y_Mind_addablePitches.2.1 24 = .ok (.iconst 0, 1) := by decide +kernel
theorem k_Mind_addablePitches_25 : decode Y_Mind_addablePitches.2.1 25 = .ok (.iconst 1, 1) := by decide +kernel
theorem k_Mind_addablePitches_26 : decode Y_Mind_addablePitches.2.1 26 = .ok (.invokevirtual 67, 3) := by decide +kernel
theorem k_Mind_addablePitches_29 : decode Y_Mind_addablePitches.2.1 29 = .ok (.aload_n 0, 1) := by decide +kernel
theorem k_Mind_addablePitches_30 : decode Y_Mind_addablePitches.2.1 30 = .ok (.getfield 21, 3) := by decide +kernel
theorem k_Mind_addablePitches_33 : decode Y_Mind_addablePitches.2.1 33 = .ok (.aload_n 0, 1) := by decide +kernel
theorem k_Mind_addablePitches_34 : decode Y_Mind_addablePitches.2.1 34 = .ok (.getfield 12, 3) := by decide +kernel
theorem k_Mind_addablePitches_37 : decode Y_Mind_addablePitches.2.1 37 = .ok (.invokevirtual 70, 3) := by decide +kernel
theorem k_Mind_addablePitches_40 : decode Y_Mind_addablePitches.2.1 40 = .ok (.iconst 0, 1) := by decide +kernel
theorem k_Mind_addablePitches_41 : decode Y_Mind_addablePitches.2.1 41 = .ok (.istore_n 3, 1) := by decide +kernel
theorem k_Mind_addablePitches_42 : decode Y_Mind_addablePitches.2.1 42 = .ok (.iconst 0, 1) := by decide +kernel
theorem k_Mind_addablePitches_43 : decode Y_Mind_addablePitches.2.1 43 = .ok (.istore 4, 2) := by decide +kernel
theorem k_Mind_addablePitches_45 : decode Y_Mind_addablePitches.2.1 45 = .ok (.iload 4, 2) := by decide +kernel
theorem k_Mind_addablePitches_47 : decode Y_Mind_addablePitches.2.1 47 = .ok (.bipush 9, 2) := by decide +kernel
theorem k_Mind_addablePitches_49 : decode Y_Mind_addablePitches.2.1 49 = .ok (.if_icmp .gt 43, 3) := by decide +kernel
theorem k_Mind_addablePitches_52 : decode Y_Mind_addablePitches.2.1 52 = .ok (.aload_n 0, 1) := by decide +kernel
theorem k_Mind_addablePitches_53 : decode Y_Mind_addablePitches.2.1 53 = .ok (.getfield 12, 3) := by decide +kernel
theorem k_Mind_addablePitches_56 : decode Y_Mind_addablePitches.2.1 56 = .ok (.getfield 58, 3) := by decide +kernel
theorem k_Mind_addablePitches_59 : decode Y_Mind_addablePitches.2.1 59 = .ok (.iload_n 2, 1) := by decide +kernel
theorem k_Mind_addablePitches_60 : decode Y_Mind_addablePitches.2.1 60 = .ok (.iload 4, 2) := by decide +kernel
theorem k_Mind_addablePitches_62 : decode Y_Mind_addablePitches.2.1 62 = .ok (.invokevirtual 73, 3) := by decide +kernel
theorem k_Mind_addablePitches_65 : decode Y_Mind_addablePitches.2.1 65 = .ok (.aload_n 0, 1) := by decide +kernel
theorem k_Mind_addablePitches_66 : decode Y_Mind_addablePitches.2.1 66 = .ok (.getfield 21, 3) := by decide +kernel
theorem k_Mind_addablePitches_69 : decode Y_Mind_addablePitches.2.1 69 = .ok (.aload_n 0, 1) := by decide +kernel
theorem k_Mind_addablePitches_70 : decode Y_Mind_addablePitches.2.1 70 = .ok (.getfield 12, 3) := by decide +kernel
theorem k_Mind_addablePitches_73 : decode Y_Mind_addablePitches.2.1 73 = .ok (.invokevirtual 76, 3) := by decide +kernel
theorem k_Mind_addablePitches_76 : decode Y_Mind_addablePitches.2.1 76 = .ok (.ifCond .eq 10, 3) := by decide +kernel
theorem k_Mind_addablePitches_79 : decode Y_Mind_addablePitches.2.1 79 = .ok (.iload_n 3, 1) := by decide +kernel
theorem k_Mind_addablePitches_80 : decode Y_Mind_addablePitches.2.1 80 = .ok (.iconst 1, 1) := by decide +kernel
theorem k_Mind_addablePitches_81 : decode Y_Mind_addablePitches.2.1 81 = .ok (.iload 4, 2) := by decide +kernel
theorem k_Mind_addablePitches_83 : decode Y_Mind_addablePitches.2.1 83 = .ok (.ishl, 1) := by decide +kernel
theorem k_Mind_addablePitches_84 : decode Y_Mind_addablePitches.2.1 84 = .ok (.ior, 1) := by decide +kernel
theorem k_Mind_addablePitches_85 : decode Y_Mind_addablePitches.2.1 85 = .ok (.istore_n 3, 1) := by decide +kernel
theorem k_Mind_addablePitches_86 : decode Y_Mind_addablePitches.2.1 86 = .ok (.iinc 4 1, 3) := by decide +kernel
theorem k_Mind_addablePitches_89 : decode Y_Mind_addablePitches.2.1 89 = .ok (.goto (-44), 3) := by decide +kernel
theorem k_Mind_addablePitches_92 : decode Y_Mind_addablePitches.2.1 92 = .ok (.iload_n 3, 1) := by decide +kernel
theorem k_Mind_addablePitches_93 : decode Y_Mind_addablePitches.2.1 93 = .ok (.ireturn, 1) := by decide +kernel
theorem k_Mind_leastIlls_0 : decode Y_Mind_leastIlls.2.1 0 = .ok (.aload_n 0, 1) := by decide +kernel
theorem k_Mind_leastIlls_1 : decode Y_Mind_leastIlls.2.1 1 = .ok (.aload_n 1, 1) := by decide +kernel
theorem k_Mind_leastIlls_2 : decode Y_Mind_leastIlls.2.1 2 = .ok (.invokevirtual 38, 3) := by decide +kernel
theorem k_Mind_leastIlls_5 : decode Y_Mind_leastIlls.2.1 5 = .ok (.pop, 1) := by decide +kernel
theorem k_Mind_leastIlls_6 : decode Y_Mind_leastIlls.2.1 6 = .ok (.aload_n 0, 1) := by decide +kernel
theorem k_Mind_leastIlls_7 : decode Y_Mind_leastIlls.2.1 7 = .ok (.getfield 21, 3) := by decide +kernel
theorem k_Mind_leastIlls_10 : decode Y_Mind_leastIlls.2.1 10 = .ok (.aload_n 0, 1) := by decide +kernel
theorem k_Mind_leastIlls_11 : decode Y_Mind_leastIlls.2.1 11 = .ok (.getfield 12, 3) := by decide +kernel
theorem k_Mind_leastIlls_14 : decode Y_Mind_leastIlls.2.1 14 = .ok (.invokevirtual 70, 3) := by decide +kernel
theorem k_Mind_leastIlls_17 : decode Y_Mind_leastIlls.2.1 17 = .ok (.aload_n 0, 1) := by decide +kernel
theorem k_Mind_leastIlls_18 : decode Y_Mind_leastIlls.2.1 18 = .ok (.getfield 21, 3) := by decide +kernel
theorem k_Mind_leastIlls_21 : decode Y_Mind_leastIlls.2.1 21 = .ok (.aload_n 0, 1) := by decide +kernel
theorem k_Mind_leastIlls_22 : decode Y_Mind_leastIlls.2.1 22 = .ok (.getfield 12, 3) := by decide +kernel
theorem k_Mind_leastIlls_25 : decode Y_Mind_leastIlls.2.1 25 = .ok (.invokevirtual 80, 3) := by decide +kernel
theorem k_Mind_leastIlls_28 : decode Y_Mind_leastIlls.2.1 28 = .ok (.istore_n 2, 1) := by decide +kernel
theorem k_Mind_leastIlls_29 : decode Y_Mind_leastIlls.2.1 29 = .ok (.iconst 0, 1) := by decide +kernel
theorem k_Mind_leastIlls_30 : decode Y_Mind_leastIlls.2.1 30 = .ok (.istore_n 3, 1) := by decide +kernel
theorem k_Mind_leastIlls_31 : decode Y_Mind_leastIlls.2.1 31 = .ok (.iload_n 3, 1) := by decide +kernel
theorem k_Mind_leastIlls_32 : decode Y_Mind_leastIlls.2.1 32 = .ok (.aload_n 0, 1) := by decide +kernel
theorem k_Mind_leastIlls_33 : decode Y_Mind_leastIlls.2.1 33 = .ok (.getfield 12, 3) := by decide +kernel
theorem k_Mind_leastIlls_36 : decode Y_Mind_leastIlls.2.1 36 = .ok (.getfield 58, 3) := by decide +kernel
theorem k_Mind_leastIlls_39 : decode Y_Mind_leastIlls.2.1 39 = .ok (.invokevirtual 62, 3) := by decide +kernel
theorem k_Mind_leastIlls_42 : decode Y_Mind_leastIlls.2.1 42 = .ok (.if_icmp .ge 80, 3) := by decide +kernel
theorem k_Mind_leastIlls_45 : decode Y_Mind_leastIlls.2.1 45 = .ok (.aload_n 0, 1) := by decide +kernel
theorem k_Mind_leastIlls_46 : decode Y_Mind_leastIlls.2.1 46 = .ok (.getfield 12, 3) := by decide +kernel
theorem k_Mind_leastIlls_49 : decode Y_Mind_leastIlls.2.1 49 = .ok (.getfield 58, 3) := by decide +kernel
theorem k_Mind_leastIlls_52 : decode Y_Mind_leastIlls.2.1 52 = .ok (.iload_n 3, 1) := by decide +kernel
theorem k_Mind_leastIlls_53 : decode Y_Mind_leastIlls.2.1 53 = .ok (.invokevirtual 84, 3) := by decide +kernel
theorem k_Mind_leastIlls_56 : decode Y_Mind_leastIlls.2.1 56 = .ok (.istore 4, 2) := by decide +kernel
theorem k_Mind_leastIlls_58 : decode Y_Mind_leastIlls.2.1 58 = .ok (.iconst 0, 1) := by decide +kernel
theorem k_Mind_leastIlls_59 : decode Y_Mind_leastIlls.2.1 59 = .ok (.istore 5, 2) := by decide +kernel
theorem k_Mind_leastIlls_61 : decode Y_Mind_leastIlls.2.1 61 = .ok (.iload 5, 2) := by decide +kernel
theorem k_Mind_leastIlls_63 : decode Y_Mind_leastIlls.2.1 63 = .ok (.bipush 9, 2) := by decide +kernel
theorem k_Mind_leastIlls_65 : decode Y_Mind_leastIlls.2.1 65 = .ok (.if_icmp .gt 38, 3) := by decide +kernel
theorem k_Mind_leastIlls_68 : decode Y_Mind_leastIlls.2.1 68 = .ok (.aload_n 0, 1) := by decide +kernel
theorem k_Mind_leastIlls_69 : decode Y_Mind_leastIlls.2.1 69 = .ok (.getfield 12, 3) := by decide +kernel
theorem k_Mind_leastIlls_72 : decode Y_Mind_leastIlls.2.1 72 = .ok (.getfield 58, 3) := by decide +kernel
theorem k_Mind_leastIlls_75 : decode Y_Mind_leastIlls.2.1 75 = .ok (.iload_n 3, 1) := by decide +kernel
theorem k_Mind_leastIlls_76 : decode Y_Mind_leastIlls.2.1 76 = .ok (.iload 5, 2) := by decide +kernel
theorem k_Mind_leastIlls_78 : decode Y_Mind_leastIlls.2.1 78 = .ok (.invokevirtual 73, 3) := by decide +kernel
theorem k_Mind_leastIlls_81 : decode Y_Mind_leastIlls.2.1 81 = .ok (.iload_n 2, 1) := by decide +kernel
theorem k_Mind_leastIlls_82 : decode Y_Mind_leastIlls.2.1 82 = .ok (.aload_n 0, 1) := by decide +kernel
theorem k_Mind_leastIlls_83 : decode Y_Mind_leastIlls.2.1 83 = .ok (.getfield 21, 3) := by decide +kernel
theorem k_Mind_leastIlls_86 : decode Y_Mind_leastIlls.2.1 86 = .ok (.aload_n 0, 1) := by decide +kernel
theorem k_Mind_leastIlls_87 : decode Y_Mind_leastIlls.2.1 87 = .ok (.getfield 12, 3) := by decide +kernel
theorem k_Mind_leastIlls_90 : decode Y_Mind_leastIlls.2.1 90 = .ok (.invokevirtual 80, 3) := by decide +kernel
theorem k_Mind_leastIlls_93 : decode Y_Mind_leastIlls.2.1 93 = .ok (.invokestatic 88, 3) := by decide +kernel
theorem k_Mind_leastIlls_96 : decode Y_Mind_leastIlls.2.1 96 = .ok (.istore_n 2, 1) := by decide +kernel
theorem k_Mind_leastIlls_97 : decode Y_Mind_leastIlls.2.1 97 = .ok (.iinc 5 1, 3) := by decide +kernel
theorem k_Mind_leastIlls_100 : decode Y_Mind_leastIlls.2.1 100 = .ok (.goto (-39), 3) := by decide +kernel
theorem k_Mind_leastIlls_103 : decode Y_Mind_leastIlls.2.1 103 = .ok (.aload_n 0, 1) := by decide +kernel
theorem k_Mind_leastIlls_104 : decode Y_Mind_leastIlls.2.1 104 = .ok (.getfield 12, 3) := by decide +kernel
theorem k_Mind_leastIlls_107 : decode Y_Mind_leastIlls.2.1 107 = .ok (.getfield 58, 3) := by decide +kernel
theorem k_Mind_leastIlls_110 : decode Y_Mind_leastIlls.2.1 110 = .ok (.iload_n 3, 1) := by decide +kernel
theorem k_Mind_leastIlls_111 : decode Y_Mind_leastIlls.2.1 111 = .ok (.iload 4, 2) := by decide +kernel
theorem k_Mind_leastIlls_113 : decode Y_Mind_leastIlls.2.1 113 = .ok (.invokevirtual 73, 3) := by decide +kernel
theorem k_Mind_leastIlls_116 : decode Y_Mind_leastIlls.2.1 116 = .ok (.iinc 3 1, 3) := by decide +kernel
theorem k_Mind_leastIlls_119 : decode Y_Mind_leastIlls.2.1 119 = .ok (.goto (-88), 3) := by decide +kernel
theorem k_Mind_leastIlls_122 : decode Y_Mind_leastIlls.2.1 122 = .ok (.iload_n 2, 1) := by decide +kernel
theorem k_Mind_leastIlls_123 : decode Y_Mind_leastIlls.2.1 123 = .ok (.ireturn, 1) := by decide +kernel
theorem k_Mind_wellDraws_0 : decode Y_Mind_wellDraws.2.1 0 = .ok (.aload_n 0, 1) := by decide +kernel
theorem k_Mind_wellDraws_1 : decode Y_Mind_wellDraws.2.1 1 = .ok (.aload_n 1, 1) := by decide +kernel
theorem k_Mind_wellDraws_2 : decode Y_Mind_wellDraws.2.1 2 = .ok (.invokevirtual 38, 3) := by decide +kernel
theorem k_Mind_wellDraws_5 : decode Y_Mind_wellDraws.2.1 5 = .ok (.pop, 1) := by decide +kernel
theorem k_Mind_wellDraws_6 : decode Y_Mind_wellDraws.2.1 6 = .ok (.aload_n 0, 1) := by decide +kernel
theorem k_Mind_wellDraws_7 : decode Y_Mind_wellDraws.2.1 7 = .ok (.getfield 21, 3) := by decide +kernel
theorem k_Mind_wellDraws_10 : decode Y_Mind_wellDraws.2.1 10 = .ok (.aload_n 0, 1) := by decide +kernel
theorem k_Mind_wellDraws_11 : decode Y_Mind_wellDraws.2.1 11 = .ok (.getfield 12, 3) := by decide +kernel
theorem k_Mind_wellDraws_14 : decode Y_Mind_wellDraws.2.1 14 = .ok (.invokevirtual 70, 3) := by decide +kernel
theorem k_Mind_wellDraws_17 : decode Y_Mind_wellDraws.2.1 17 = .ok (.iload_n 3, 1) := by decide +kernel
theorem k_Mind_wellDraws_18 : decode Y_Mind_wellDraws.2.1 18 = .ok (.istore 4, 2) := by decide +kernel
theorem k_Mind_wellDraws_20 : decode Y_Mind_wellDraws.2.1 20 = .ok (.iconst 0, 1) := by decide +kernel
theorem k_Mind_wellDraws_21 : decode Y_Mind_wellDraws.2.1 21 = .ok (.istore 5, 2) := by decide +kernel
theorem k_Mind_wellDraws_23 : decode Y_Mind_wellDraws.2.1 23 = .ok (.iconst 0, 1) := by decide +kernel
theorem k_Mind_wellDraws_24 : decode Y_Mind_wellDraws.2.1 24 = .ok (.istore 6, 2) := by decide +kernel
theorem k_Mind_wellDraws_26 : decode Y_Mind_wellDraws.2.1 26 = .ok (.iload 6, 2) := by decide +kernel
theorem k_Mind_wellDraws_28 : decode Y_Mind_wellDraws.2.1 28 = .ok (.iload_n 2, 1) := by decide +kernel
theorem k_Mind_wellDraws_29 : decode Y_Mind_wellDraws.2.1 29 = .ok (.if_icmp .ge 84, 3) := by decide +kernel
theorem k_Mind_wellDraws_32 : decode Y_Mind_wellDraws.2.1 32 = .ok (.iconst 0, 1) := by decide +kernel
theorem k_Mind_wellDraws_33 : decode Y_Mind_wellDraws.2.1 33 = .ok (.istore 7, 2) := by decide +kernel
theorem k_Mind_wellDraws_35 : decode Y_Mind_wellDraws.2.1 35 = .ok (.iload 7, 2) := by decide +kernel
theorem k_Mind_wellDraws_37 : decode Y_Mind_wellDraws.2.1 37 = .ok (.aload_n 0, 1) := by decide +kernel
theorem k_Mind_wellDraws_38 : decode Y_Mind_wellDraws.2.1 38 = .ok (.getfield 12, 3) := by decide +kernel
theorem k_Mind_wellDraws_41 : decode Y_Mind_wellDraws.2.1 41 = .ok (.getfield 58, 3) := by decide +kernel
theorem k_Mind_wellDraws_44 : decode Y_Mind_wellDraws.2.1 44 = .ok (.invokevirtual 62, 3) := by decide +kernel
theorem k_Mind_wellDraws_47 : decode Y_Mind_wellDraws.2.1 47 = .ok (.if_icmp .ge 43, 3) := by decide +kernel
theorem k_Mind_wellDraws_50 : decode Y_Mind_wellDraws.2.1 50 = .ok (.iload 4, 2) := by decide +kernel
theorem k_Mind_wellDraws_52 : decode Y_Mind_wellDraws.2.1 52 = .ok (.ldc 94, 2) := by decide +kernel
theorem k_Mind_wellDraws_54 : decode Y_Mind_wellDraws.2.1 54 = .ok (.imul, 1) := by decide +kernel
theorem k_Mind_wellDraws_55 : decode Y_Mind_wellDraws.2.1 55 = .ok (.ldc 95, 2) := by decide +kernel
theorem k_Mind_wellDraws_57 : decode Y_Mind_wellDraws.2.1 57 = .ok (.iadd, 1) := by decide +kernel
theorem k_Mind_wellDraws_58 : decode Y_Mind_wellDraws.2.1 58 = .ok (.istore 4, 2) := by decide +kernel
theorem k_Mind_wellDraws_60 : decode Y_Mind_wellDraws.2.1 60 = .ok (.aload_n 0, 1) := by decide +kernel
theorem k_Mind_wellDraws_61 : decode Y_Mind_wellDraws.2.1 61 = .ok (.getfield 12, 3) := by decide +kernel
theorem k_Mind_wellDraws_64 : decode Y_Mind_wellDraws.2.1 64 = .ok (.getfield 58, 3) := by decide +kernel
theorem k_Mind_wellDraws_67 : decode Y_Mind_wellDraws.2.1 67 = .ok (.iload 7, 2) := by decide +kernel
theorem k_Mind_wellDraws_69 : decode Y_Mind_wellDraws.2.1 69 = .ok (.iload 4, 2) := by decide +kernel
theorem k_Mind_wellDraws_71 : decode Y_Mind_wellDraws.2.1 71 = .ok (.ldc 96, 2) := by decide +kernel
theorem k_Mind_wellDraws_73 : decode Y_Mind_wellDraws.2.1 73 = .ok (.iand, 1) := by decide +kernel
theorem k_Mind_wellDraws_74 : decode Y_Mind_wellDraws.2.1 74 = .ok (.sipush 256, 3) := by decide +kernel
theorem k_Mind_wellDraws_77 : decode Y_Mind_wellDraws.2.1 77 = .ok (.idiv, 1) := by decide +kernel
theorem k_Mind_wellDraws_78 : decode Y_Mind_wellDraws.2.1 78 = .ok (.bipush 10, 2) := by decide +kernel
theorem k_Mind_wellDraws_80 : decode Y_Mind_wellDraws.2.1 80 = .ok (.irem, 1) := by decide +kernel
theorem k_Mind_wellDraws_81 : decode Y_Mind_wellDraws.2.1 81 = .ok (.invokevirtual 73, 3) := by decide +kernel
theorem k_Mind_wellDraws_84 : decode Y_Mind_wellDraws.2.1 84 = .ok (.iinc 7 1, 3) := by decide +kernel
theorem k_Mind_wellDraws_87 : decode Y_Mind_wellDraws.2.1 87 = .ok (.goto (-52), 3) := by decide +kernel
theorem k_Mind_wellDraws_90 : decode Y_Mind_wellDraws.2.1 90 = .ok (.aload_n 0, 1) := by decide +kernel
theorem k_Mind_wellDraws_91 : decode Y_Mind_wellDraws.2.1 91 = .ok (.getfield 21, 3) := by decide +kernel
theorem k_Mind_wellDraws_94 : decode Y_Mind_wellDraws.2.1 94 = .ok (.aload_n 0, 1) := by decide +kernel
theorem k_Mind_wellDraws_95 : decode Y_Mind_wellDraws.2.1 95 = .ok (.getfield 12, 3) := by decide +kernel
theorem k_Mind_wellDraws_98 : decode Y_Mind_wellDraws.2.1 98 = .ok (.invokevirtual 76, 3) := by decide +kernel
theorem k_Mind_wellDraws_101 : decode Y_Mind_wellDraws.2.1 101 = .ok (.ifCond .eq 6, 3) := by decide +kernel
theorem k_Mind_wellDraws_104 : decode Y_Mind_wellDraws.2.1 104 = .ok (.iinc 5 1, 3) := by decide +kernel
theorem k_Mind_wellDraws_107 : decode Y_Mind_wellDraws.2.1 107 = .ok (.iinc 6 1, 3) := by decide +kernel
theorem k_Mind_wellDraws_110 : decode Y_Mind_wellDraws.2.1 110 = .ok (.goto (-84), 3) := by decide +kernel
theorem k_Mind_wellDraws_113 : decode Y_Mind_wellDraws.2.1 113 = .ok (.iload 5, 2) := by decide +kernel
theorem k_Mind_wellDraws_115 : decode Y_Mind_wellDraws.2.1 115 = .ok (.ireturn, 1) := by decide +kernel
theorem k_Mind_fewestChanges_0 : decode Y_Mind_fewestChanges.2.1 0 = .ok (.aload_n 0, 1) := by decide +kernel
theorem k_Mind_fewestChanges_1 : decode Y_Mind_fewestChanges.2.1 1 = .ok (.aload_n 1, 1) := by decide +kernel
theorem k_Mind_fewestChanges_2 : decode Y_Mind_fewestChanges.2.1 2 = .ok (.invokevirtual 38, 3) := by decide +kernel
theorem k_Mind_fewestChanges_5 : decode Y_Mind_fewestChanges.2.1 5 = .ok (.pop, 1) := by decide +kernel
theorem k_Mind_fewestChanges_6 : decode Y_Mind_fewestChanges.2.1 6 = .ok (.aload_n 0, 1) := by decide +kernel
theorem k_Mind_fewestChanges_7 : decode Y_Mind_fewestChanges.2.1 7 = .ok (.getfield 21, 3) := by decide +kernel
theorem k_Mind_fewestChanges_10 : decode Y_Mind_fewestChanges.2.1 10 = .ok (.aload_n 0, 1) := by decide +kernel
theorem k_Mind_fewestChanges_11 : decode Y_Mind_fewestChanges.2.1 11 = .ok (.getfield 12, 3) := by decide +kernel
theorem k_Mind_fewestChanges_14 : decode Y_Mind_fewestChanges.2.1 14 = .ok (.invokevirtual 70, 3) := by decide +kernel
theorem k_Mind_fewestChanges_17 : decode Y_Mind_fewestChanges.2.1 17 = .ok (.aload_n 0, 1) := by decide +kernel
theorem k_Mind_fewestChanges_18 : decode Y_Mind_fewestChanges.2.1 18 = .ok (.getfield 21, 3) := by decide +kernel
theorem k_Mind_fewestChanges_21 : decode Y_Mind_fewestChanges.2.1 21 = .ok (.aload_n 0, 1) := by decide +kernel
theorem k_Mind_fewestChanges_22 : decode Y_Mind_fewestChanges.2.1 22 = .ok (.getfield 12, 3) := by decide +kernel
theorem k_Mind_fewestChanges_25 : decode Y_Mind_fewestChanges.2.1 25 = .ok (.invokevirtual 76, 3) := by decide +kernel
theorem k_Mind_fewestChanges_28 : decode Y_Mind_fewestChanges.2.1 28 = .ok (.ifCond .eq 5, 3) := by decide +kernel
theorem k_Mind_fewestChanges_31 : decode Y_Mind_fewestChanges.2.1 31 = .ok (.iconst 0, 1) := by decide +kernel
theorem k_Mind_fewestChanges_32 : decode Y_Mind_fewestChanges.2.1 32 = .ok (.ireturn, 1) := by decide +kernel
theorem k_Mind_fewestChanges_33 : decode Y_Mind_fewestChanges.2.1 33 = .ok (.aload_n 0, 1) := by decide +kernel
theorem k_Mind_fewestChanges_34 : decode Y_Mind_fewestChanges.2.1 34 = .ok (.invokevirtual 97, 3) := by decide +kernel
theorem k_Mind_fewestChanges_37 : decode Y_Mind_fewestChanges.2.1 37 = .ok (.aload_n 0, 1) := by decide +kernel
theorem k_Mind_fewestChanges_38 : decode Y_Mind_fewestChanges.2.1 38 = .ok (.invokevirtual 100, 3) := by decide +kernel
theorem k_Mind_fewestChanges_41 : decode Y_Mind_fewestChanges.2.1 41 = .ok (.bipush (-9), 2) := by decide +kernel
theorem k_Mind_fewestChanges_43 : decode Y_Mind_fewestChanges.2.1 43 = .ok (.if_icmp .eq 5, 3) := by decide +kernel
theorem k_Mind_fewestChanges_46 : decode Y_Mind_fewestChanges.2.1 46 = .ok (.iconst 1, 1) := by decide +kernel
theorem k_Mind_fewestChanges_47 : decode Y_Mind_fewestChanges.2.1 47 = .ok (.ireturn, 1) := by decide +kernel
theorem k_Mind_fewestChanges_48 : decode Y_Mind_fewestChanges.2.1 48 = .ok (.aload_n 0, 1) := by decide +kernel
theorem k_Mind_fewestChanges_49 : decode Y_Mind_fewestChanges.2.1 49 = .ok (.invokevirtual 103, 3) := by decide +kernel
theorem k_Mind_fewestChanges_52 : decode Y_Mind_fewestChanges.2.1 52 = .ok (.ifCond .eq 7, 3) := by decide +kernel
theorem k_Mind_fewestChanges_55 : decode Y_Mind_fewestChanges.2.1 55 = .ok (.iconst 2, 1) := by decide +kernel
theorem k_Mind_fewestChanges_56 : decode Y_Mind_fewestChanges.2.1 56 = .ok (.goto 5, 3) := by decide +kernel
theorem k_Mind_fewestChanges_59 : decode Y_Mind_fewestChanges.2.1 59 = .ok (.bipush (-9), 2) := by decide +kernel
theorem k_Mind_fewestChanges_61 : decode Y_Mind_fewestChanges.2.1 61 = .ok (.ireturn, 1) := by decide +kernel
theorem k_Mind_firstChange_0 : decode Y_Mind_firstChange.2.1 0 = .ok (.aload_n 0, 1) := by decide +kernel
theorem k_Mind_firstChange_1 : decode Y_Mind_firstChange.2.1 1 = .ok (.aload_n 1, 1) := by decide +kernel
theorem k_Mind_firstChange_2 : decode Y_Mind_firstChange.2.1 2 = .ok (.invokevirtual 38, 3) := by decide +kernel
theorem k_Mind_firstChange_5 : decode Y_Mind_firstChange.2.1 5 = .ok (.pop, 1) := by decide +kernel
theorem k_Mind_firstChange_6 : decode Y_Mind_firstChange.2.1 6 = .ok (.aload_n 0, 1) := by decide +kernel
theorem k_Mind_firstChange_7 : decode Y_Mind_firstChange.2.1 7 = .ok (.getfield 21, 3) := by decide +kernel
theorem k_Mind_firstChange_10 : decode Y_Mind_firstChange.2.1 10 = .ok (.aload_n 0, 1) := by decide +kernel
theorem k_Mind_firstChange_11 : decode Y_Mind_firstChange.2.1 11 = .ok (.getfield 12, 3) := by decide +kernel
theorem k_Mind_firstChange_14 : decode Y_Mind_firstChange.2.1 14 = .ok (.invokevirtual 70, 3) := by decide +kernel
theorem k_Mind_firstChange_17 : decode Y_Mind_firstChange.2.1 17 = .ok (.aload_n 0, 1) := by decide +kernel
theorem k_Mind_firstChange_18 : decode Y_Mind_firstChange.2.1 18 = .ok (.getfield 21, 3) := by decide +kernel
theorem k_Mind_firstChange_21 : decode Y_Mind_firstChange.2.1 21 = .ok (.aload_n 0, 1) := by decide +kernel
theorem k_Mind_firstChange_22 : decode Y_Mind_firstChange.2.1 22 = .ok (.getfield 12, 3) := by decide +kernel
theorem k_Mind_firstChange_25 : decode Y_Mind_firstChange.2.1 25 = .ok (.invokevirtual 76, 3) := by decide +kernel
theorem k_Mind_firstChange_28 : decode Y_Mind_firstChange.2.1 28 = .ok (.ifCond .eq 6, 3) := by decide +kernel
theorem k_Mind_firstChange_31 : decode Y_Mind_firstChange.2.1 31 = .ok (.bipush (-9), 2) := by decide +kernel
theorem k_Mind_firstChange_33 : decode Y_Mind_firstChange.2.1 33 = .ok (.ireturn, 1) := by decide +kernel
theorem k_Mind_firstChange_34 : decode Y_Mind_firstChange.2.1 34 = .ok (.aload_n 0, 1) := by decide +kernel
theorem k_Mind_firstChange_35 : decode Y_Mind_firstChange.2.1 35 = .ok (.invokevirtual 97, 3) := by decide +kernel
theorem k_Mind_firstChange_38 : decode Y_Mind_firstChange.2.1 38 = .ok (.aload_n 0, 1) := by decide +kernel
theorem k_Mind_firstChange_39 : decode Y_Mind_firstChange.2.1 39 = .ok (.invokevirtual 100, 3) := by decide +kernel
theorem k_Mind_firstChange_42 : decode Y_Mind_firstChange.2.1 42 = .ok (.ireturn, 1) := by decide +kernel
theorem k_Mind_findMends_0 : decode Y_Mind_findMends.2.1 0 = .ok (.aload_n 0, 1) := by decide +kernel
theorem k_Mind_findMends_1 : decode Y_Mind_findMends.2.1 1 = .ok (.getfield 30, 3) := by decide +kernel
theorem k_Mind_findMends_4 : decode Y_Mind_findMends.2.1 4 = .ok (.invokevirtual 106, 3) := by decide +kernel
theorem k_Mind_findMends_7 : decode Y_Mind_findMends.2.1 7 = .ok (.iconst 0, 1) := by decide +kernel
theorem k_Mind_findMends_8 : decode Y_Mind_findMends.2.1 8 = .ok (.istore_n 1, 1) := by decide +kernel
theorem k_Mind_findMends_9 : decode Y_Mind_findMends.2.1 9 = .ok (.iload_n 1, 1) := by decide +kernel
theorem k_Mind_findMends_10 : decode Y_Mind_findMends.2.1 10 = .ok (.aload_n 0, 1) := by decide +kernel
theorem k_Mind_findMends_11 : decode Y_Mind_findMends.2.1 11 = .ok (.getfield 12, 3) := by decide +kernel
theorem k_Mind_findMends_14 : decode Y_Mind_findMends.2.1 14 = .ok (.getfield 58, 3) := by decide +kernel
theorem k_Mind_findMends_17 : decode Y_Mind_findMends.2.1 17 = .ok (.invokevirtual 62, 3) := by decide +kernel
theorem k_Mind_findMends_20 : decode Y_Mind_findMends.2.1 20 = .ok (.if_icmp .ge 19, 3) := by decide +kernel
theorem k_Mind_findMends_23 : decode Y_Mind_findMends.2.1 23 = .ok (.aload_n 0, 1) := by decide +kernel
theorem k_Mind_findMends_24 : decode Y_Mind_findMends.2.1 24 = .ok (.getfield 30, 3) := by decide +kernel
theorem k_Mind_findMends_27 : decode Y_Mind_findMends.2.1 27 = .ok (.sipush 4095, 3) := by decide +kernel
theorem k_Mind_findMends_30 : decode Y_Mind_findMends.2.1 30 = .ok (.invokevirtual 109, 3) := by decide +kernel
theorem k_Mind_findMends_33 : decode Y_Mind_findMends.2.1 33 = .ok (.iinc 1 1, 3) := by decide +kernel
theorem k_Mind_findMends_36 : decode Y_Mind_findMends.2.1 36 = .ok (.goto (-27), 3) := by decide +kernel
theorem k_Mind_findMends_39 : decode Y_Mind_findMends.2.1 39 = .ok (.iconst 0, 1) := by decide +kernel
theorem k_Mind_findMends_40 : decode Y_Mind_findMends.2.1 40 = .ok (.istore_n 1, 1) := by decide +kernel
theorem k_Mind_findMends_41 : decode Y_Mind_findMends.2.1 41 = .ok (.iload_n 1, 1) := by decide +kernel
theorem k_Mind_findMends_42 : decode Y_Mind_findMends.2.1 42 = .ok (.aload_n 0, 1) := by decide +kernel
theorem k_Mind_findMends_43 : decode Y_Mind_findMends.2.1 43 = .ok (.getfield 21, 3) := by decide +kernel
theorem k_Mind_findMends_46 : decode Y_Mind_findMends.2.1 46 = .ok (.invokevirtual 111, 3) := by decide +kernel
theorem k_Mind_findMends_49 : decode Y_Mind_findMends.2.1 49 = .ok (.if_icmp .ge 36, 3) := by decide +kernel
theorem k_Mind_findMends_52 : decode Y_Mind_findMends.2.1 52 = .ok (.aload_n 0, 1) := by decide +kernel
theorem k_Mind_findMends_53 : decode Y_Mind_findMends.2.1 53 = .ok (.getfield 21, 3) := by decide +kernel
theorem k_Mind_findMends_56 : decode Y_Mind_findMends.2.1 56 = .ok (.iload_n 1, 1) := by decide +kernel
theorem k_Mind_findMends_57 : decode Y_Mind_findMends.2.1 57 = .ok (.aload_n 0, 1) := by decide +kernel
theorem k_Mind_findMends_58 : decode Y_Mind_findMends.2.1 58 = .ok (.getfield 12, 3) := by decide +kernel
theorem k_Mind_findMends_61 : decode Y_Mind_findMends.2.1 61 = .ok (.invokevirtual 114, 3) := by decide +kernel
theorem k_Mind_findMends_64 : decode Y_Mind_findMends.2.1 64 = .ok (.ifCond .eq 15, 3) := by decide +kernel
theorem k_Mind_findMends_67 : decode Y_Mind_findMends.2.1 67 = .ok (.aload_n 0, 1) := by decide +kernel
theorem k_Mind_findMends_68 : decode Y_Mind_findMends.2.1 68 = .ok (.aload_n 0, 1) := by decide +kernel
theorem k_Mind_findMends_69 : decode Y_Mind_findMends.2.1 69 = .ok (.getfield 21, 3) := by decide +kernel
theorem k_Mind_findMends_72 : decode Y_Mind_findMends.2.1 72 = .ok (.iload_n 1, 1) := by decide +kernel
theorem k_Mind_findMends_73 : decode Y_Mind_findMends.2.1 73 = .ok (.invokevirtual 118, 3) := by decide +kernel
theorem k_Mind_findMends_76 : decode Y_Mind_findMends.2.1 76 = .ok (.invokevirtual 121, 3) := by decide +kernel
theorem k_Mind_findMends_79 : decode Y_Mind_findMends.2.1 79 = .ok (.iinc 1 1, 3) := by decide +kernel
theorem k_Mind_findMends_82 : decode Y_Mind_findMends.2.1 82 = .ok (.goto (-41), 3) := by decide +kernel
theorem k_Mind_findMends_85 : decode Y_Mind_findMends.2.1 85 = .ok (.return_, 1) := by decide +kernel
theorem k_Mind_keepMends_0 : decode Y_Mind_keepMends.2.1 0 = .ok (.iconst 0, 1) := by decide +kernel
theorem k_Mind_keepMends_1 : decode Y_Mind_keepMends.2.1 1 = .ok (.istore_n 2, 1) := by decide +kernel
theorem k_Mind_keepMends_2 : decode Y_Mind_keepMends.2.1 2 = .ok (.iload_n 2, 1) := by decide +kernel
theorem k_Mind_keepMends_3 : decode Y_Mind_keepMends.2.1 3 = .ok (.aload_n 0, 1) := by decide +kernel
theorem k_Mind_keepMends_4 : decode Y_Mind_keepMends.2.1 4 = .ok (.getfield 30, 3) := by decide +kernel
theorem k_Mind_keepMends_7 : decode Y_Mind_keepMends.2.1 7 = .ok (.invokevirtual 124, 3) := by decide +kernel
theorem k_Mind_keepMends_10 : decode Y_Mind_keepMends.2.1 10 = .ok (.if_icmp .ge 35, 3) := by decide +kernel
theorem k_Mind_keepMends_13 : decode Y_Mind_keepMends.2.1 13 = .ok (.iload_n 1, 1) := by decide +kernel
theorem k_Mind_keepMends_14 : decode Y_Mind_keepMends.2.1 14 = .ok (.iload_n 2, 1) := by decide +kernel
theorem k_Mind_keepMends_15 : decode Y_Mind_keepMends.2.1 15 = .ok (.ishr, 1) := by decide +kernel
theorem k_Mind_keepMends_16 : decode Y_Mind_keepMends.2.1 16 = .ok (.iconst 1, 1) := by decide +kernel
theorem k_Mind_keepMends_17 : decode Y_Mind_keepMends.2.1 17 = .ok (.iand, 1) := by decide +kernel
theorem k_Mind_keepMends_18 : decode Y_Mind_keepMends.2.1 18 = .ok (.ifCond .ne 21, 3) := by decide +kernel
theorem k_Mind_keepMends_21 : decode Y_Mind_keepMends.2.1 21 = .ok (.aload_n 0, 1) := by decide +kernel
theorem k_Mind_keepMends_22 : decode Y_Mind_keepMends.2.1 22 = .ok (.getfield 30, 3) := by decide +kernel
theorem k_Mind_keepMends_25 : decode Y_Mind_keepMends.2.1 25 = .ok (.iload_n 2, 1) := by decide +kernel
theorem k_Mind_keepMends_26 : decode Y_Mind_keepMends.2.1 26 = .ok (.aload_n 0, 1) := by decide +kernel
theorem k_Mind_keepMends_27 : decode Y_Mind_keepMends.2.1 27 = .ok (.getfield 30, 3) := by decide +kernel
theorem k_Mind_keepMends_30 : decode Y_Mind_keepMends.2.1 30 = .ok (.iload_n 2, 1) := by decide +kernel
theorem k_Mind_keepMends_31 : decode Y_Mind_keepMends.2.1 31 = .ok (.invokevirtual 125, 3) := by decide +kernel
theorem k_Mind_keepMends_34 : decode Y_Mind_keepMends.2.1 34 = .ok (.iload_n 1, 1) := by decide +kernel
theorem k_Mind_keepMends_35 : decode Y_Mind_keepMends.2.1 35 = .ok (.iand, 1) := by decide +kernel
theorem k_Mind_keepMends_36 : decode Y_Mind_keepMends.2.1 36 = .ok (.invokevirtual 128, 3) := by decide +kernel
theorem k_Mind_keepMends_39 : decode Y_Mind_keepMends.2.1 39 = .ok (.iinc 2 1, 3) := by decide +kernel
theorem k_Mind_keepMends_42 : decode Y_Mind_keepMends.2.1 42 = .ok (.goto (-40), 3) := by decide +kernel
theorem k_Mind_keepMends_45 : decode Y_Mind_keepMends.2.1 45 = .ok (.return_, 1) := by decide +kernel
theorem k_Mind_canMend_0 : decode Y_Mind_canMend.2.1 0 = .ok (.aload_n 0, 1) := by decide +kernel
theorem k_Mind_canMend_1 : decode Y_Mind_canMend.2.1 1 = .ok (.getfield 30, 3) := by decide +kernel
theorem k_Mind_canMend_4 : decode Y_Mind_canMend.2.1 4 = .ok (.iload_n 1, 1) := by decide +kernel
theorem k_Mind_canMend_5 : decode Y_Mind_canMend.2.1 5 = .ok (.invokevirtual 125, 3) := by decide +kernel
theorem k_Mind_canMend_8 : decode Y_Mind_canMend.2.1 8 = .ok (.iload_n 2, 1) := by decide +kernel
theorem k_Mind_canMend_9 : decode Y_Mind_canMend.2.1 9 = .ok (.ishr, 1) := by decide +kernel
theorem k_Mind_canMend_10 : decode Y_Mind_canMend.2.1 10 = .ok (.iconst 1, 1) := by decide +kernel
theorem k_Mind_canMend_11 : decode Y_Mind_canMend.2.1 11 = .ok (.iand, 1) := by decide +kernel
theorem k_Mind_canMend_12 : decode Y_Mind_canMend.2.1 12 = .ok (.iconst 1, 1) := by decide +kernel
theorem k_Mind_canMend_13 : decode Y_Mind_canMend.2.1 13 = .ok (.if_icmp .ne 7, 3) := by decide +kernel
theorem k_Mind_canMend_16 : decode Y_Mind_canMend.2.1 16 = .ok (.iconst 1, 1) := by decide +kernel
theorem k_Mind_canMend_17 : decode Y_Mind_canMend.2.1 17 = .ok (.goto 4, 3) := by decide +kernel
theorem k_Mind_canMend_20 : decode Y_Mind_canMend.2.1 20 = .ok (.iconst 0, 1) := by decide +kernel
theorem k_Mind_canMend_21 : decode Y_Mind_canMend.2.1 21 = .ok (.ireturn, 1) := by decide +kernel
theorem k_Mind_mendingPitch_0 : decode Y_Mind_mendingPitch.2.1 0 = .ok (.aload_n 0, 1) := by decide +kernel
theorem k_Mind_mendingPitch_1 : decode Y_Mind_mendingPitch.2.1 1 = .ok (.getfield 12, 3) := by decide +kernel
theorem k_Mind_mendingPitch_4 : decode Y_Mind_mendingPitch.2.1 4 = .ok (.getfield 58, 3) := by decide +kernel
theorem k_Mind_mendingPitch_7 : decode Y_Mind_mendingPitch.2.1 7 = .ok (.iload_n 1, 1) := by decide +kernel
theorem k_Mind_mendingPitch_8 : decode Y_Mind_mendingPitch.2.1 8 = .ok (.invokevirtual 84, 3) := by decide +kernel
theorem k_Mind_mendingPitch_11 : decode Y_Mind_mendingPitch.2.1 11 = .ok (.istore_n 2, 1) := by decide +kernel
theorem k_Mind_mendingPitch_12 : decode Y_Mind_mendingPitch.2.1 12 = .ok (.bipush (-9), 2) := by decide +kernel
theorem k_Mind_mendingPitch_14 : decode Y_Mind_mendingPitch.2.1 14 = .ok (.istore_n 3, 1) := by decide +kernel
theorem k_Mind_mendingPitch_15 : decode Y_Mind_mendingPitch.2.1 15 = .ok (.iconst 0, 1) := by decide +kernel
theorem k_Mind_mendingPitch_16 : decode Y_Mind_mendingPitch.2.1 16 = .ok (.istore 4, 2) := by decide +kernel
theorem k_Mind_mendingPitch_18 : decode Y_Mind_mendingPitch.2.1 18 = .ok (.iload 4, 2) := by decide +kernel
theorem k_Mind_mendingPitch_20 : decode Y_Mind_mendingPitch.2.1 20 = .ok (.bipush 9, 2) := by decide +kernel
theorem k_Mind_mendingPitch_22 : decode Y_Mind_mendingPitch.2.1 22 = .ok (.if_icmp .gt 45, 3) := by decide +kernel
theorem k_Mind_mendingPitch_25 : decode Y_Mind_mendingPitch.2.1 25 = .ok (.iload_n 3, 1) := by decide +kernel
theorem k_Mind_mendingPitch_26 : decode Y_Mind_mendingPitch.2.1 26 = .ok (.bipush (-9), 2) := by decide +kernel
theorem k_Mind_mendingPitch_28 : decode Y_Mind_mendingPitch.2.1 28 = .ok (.if_icmp .ne 39, 3) := by decide +kernel
theorem k_Mind_mendingPitch_31 : decode Y_Mind_mendingPitch.2.1 31 = .ok (.aload_n 0, 1) := by decide +kernel
theorem k_Mind_mendingPitch_32 : decode Y_Mind_mendingPitch.2.1 32 = .ok (.getfield 12, 3) := by decide +kernel
theorem k_Mind_mendingPitch_35 : decode Y_Mind_mendingPitch.2.1 35 = .ok (.getfield 58, 3) := by decide +kernel
theorem k_Mind_mendingPitch_38 : decode Y_Mind_mendingPitch.2.1 38 = .ok (.iload_n 1, 1) := by decide +kernel
theorem k_Mind_mendingPitch_39 : decode Y_Mind_mendingPitch.2.1 39 = .ok (.iload 4, 2) := by decide +kernel
theorem k_Mind_mendingPitch_41 : decode Y_Mind_mendingPitch.2.1 41 = .ok (.invokevirtual 73, 3) := by decide +kernel
theorem k_Mind_mendingPitch_44 : decode Y_Mind_mendingPitch.2.1 44 = .ok (.aload_n 0, 1) := by decide +kernel
theorem k_Mind_mendingPitch_45 : decode Y_Mind_mendingPitch.2.1 45 = .ok (.getfield 21, 3) := by decide +kernel
theorem k_Mind_mendingPitch_48 : decode Y_Mind_mendingPitch.2.1 48 = .ok (.aload_n 0, 1) := by decide +kernel
theorem k_Mind_mendingPitch_49 : decode Y_Mind_mendingPitch.2.1 49 = .ok (.getfield 12, 3) := by decide +kernel
theorem k_Mind_mendingPitch_52 : decode Y_Mind_mendingPitch.2.1 52 = .ok (.invokevirtual 76, 3) := by decide +kernel
theorem k_Mind_mendingPitch_55 : decode Y_Mind_mendingPitch.2.1 55 = .ok (.ifCond .eq 6, 3) := by decide +kernel
theorem k_Mind_mendingPitch_58 : decode Y_Mind_mendingPitch.2.1 58 = .ok (.iload 4, 2) := by decide +kernel
theorem k_Mind_mendingPitch_60 : decode Y_Mind_mendingPitch.2.1 60 = .ok (.istore_n 3, 1) := by decide +kernel
theorem k_Mind_mendingPitch_61 : decode Y_Mind_mendingPitch.2.1 61 = .ok (.iinc 4 1, 3) := by decide +kernel
theorem k_Mind_mendingPitch_64 : decode Y_Mind_mendingPitch.2.1 64 = .ok (.goto (-46), 3) := by decide +kernel
theorem k_Mind_mendingPitch_67 : decode Y_Mind_mendingPitch.2.1 67 = .ok (.aload_n 0, 1) := by decide +kernel
theorem k_Mind_mendingPitch_68 : decode Y_Mind_mendingPitch.2.1 68 = .ok (.getfield 12, 3) := by decide +kernel
theorem k_Mind_mendingPitch_71 : decode Y_Mind_mendingPitch.2.1 71 = .ok (.getfield 58, 3) := by decide +kernel
theorem k_Mind_mendingPitch_74 : decode Y_Mind_mendingPitch.2.1 74 = .ok (.iload_n 1, 1) := by decide +kernel
theorem k_Mind_mendingPitch_75 : decode Y_Mind_mendingPitch.2.1 75 = .ok (.iload_n 2, 1) := by decide +kernel
theorem k_Mind_mendingPitch_76 : decode Y_Mind_mendingPitch.2.1 76 = .ok (.invokevirtual 73, 3) := by decide +kernel
theorem k_Mind_mendingPitch_79 : decode Y_Mind_mendingPitch.2.1 79 = .ok (.iload_n 3, 1) := by decide +kernel
theorem k_Mind_mendingPitch_80 : decode Y_Mind_mendingPitch.2.1 80 = .ok (.ireturn, 1) := by decide +kernel
theorem k_Mind_firstSingle_0 : decode Y_Mind_firstSingle.2.1 0 = .ok (.iconst 0, 1) := by decide +kernel
theorem k_Mind_firstSingle_1 : decode Y_Mind_firstSingle.2.1 1 = .ok (.istore_n 1, 1) := by decide +kernel
theorem k_Mind_firstSingle_2 : decode Y_Mind_firstSingle.2.1 2 = .ok (.iload_n 1, 1) := by decide +kernel
theorem k_Mind_firstSingle_3 : decode Y_Mind_firstSingle.2.1 3 = .ok (.aload_n 0, 1) := by decide +kernel
theorem k_Mind_firstSingle_4 : decode Y_Mind_firstSingle.2.1 4 = .ok (.getfield 12, 3) := by decide +kernel
theorem k_Mind_firstSingle_7 : decode Y_Mind_firstSingle.2.1 7 = .ok (.getfield 58, 3) := by decide +kernel
theorem k_Mind_firstSingle_10 : decode Y_Mind_firstSingle.2.1 10 = .ok (.invokevirtual 62, 3) := by decide +kernel
theorem k_Mind_firstSingle_13 : decode Y_Mind_firstSingle.2.1 13 = .ok (.if_icmp .ge 42, 3) := by decide +kernel
theorem k_Mind_firstSingle_16 : decode Y_Mind_firstSingle.2.1 16 = .ok (.aload_n 0, 1) := by decide +kernel
theorem k_Mind_firstSingle_17 : decode Y_Mind_firstSingle.2.1 17 = .ok (.iload_n 1, 1) := by decide +kernel
theorem k_Mind_firstSingle_18 : decode Y_Mind_firstSingle.2.1 18 = .ok (.iload_n 1, 1) := by decide +kernel
theorem k_Mind_firstSingle_19 : decode Y_Mind_firstSingle.2.1 19 = .ok (.invokevirtual 131, 3) := by decide +kernel
theorem k_Mind_firstSingle_22 : decode Y_Mind_firstSingle.2.1 22 = .ok (.ifCond .eq 11, 3) := by decide +kernel
theorem k_Mind_firstSingle_25 : decode Y_Mind_firstSingle.2.1 25 = .ok (.aload_n 0, 1) := by decide +kernel
theorem k_Mind_firstSingle_26 : decode Y_Mind_firstSingle.2.1 26 = .ok (.iload_n 1, 1) := by decide +kernel
theorem k_Mind_firstSingle_27 : decode Y_Mind_firstSingle.2.1 27 = .ok (.invokevirtual 135, 3) := by decide +kernel
theorem k_Mind_firstSingle_30 : decode Y_Mind_firstSingle.2.1 30 = .ok (.goto 5, 3) := by decide +kernel
theorem k_Mind_firstSingle_33 : decode Y_Mind_firstSingle.2.1 33 = .ok (.bipush (-9), 2) := by decide +kernel
theorem k_Mind_firstSingle_35 : decode Y_Mind_firstSingle.2.1 35 = .ok (.istore_n 2, 1) := by decide +kernel
theorem k_Mind_firstSingle_36 : decode Y_Mind_firstSingle.2.1 36 = .ok (.iload_n 2, 1) := by decide +kernel
theorem k_Mind_firstSingle_37 : decode Y_Mind_firstSingle.2.1 37 = .ok (.bipush (-9), 2) := by decide +kernel
theorem k_Mind_firstSingle_39 : decode Y_Mind_firstSingle.2.1 39 = .ok (.if_icmp .eq 10, 3) := by decide +kernel
theorem k_Mind_firstSingle_42 : decode Y_Mind_firstSingle.2.1 42 = .ok (.bipush 10, 2) := by decide +kernel
theorem k_Mind_firstSingle_44 : decode Y_Mind_firstSingle.2.1 44 = .ok (.iload_n 1, 1) := by decide +kernel
theorem k_Mind_firstSingle_45 : decode Y_Mind_firstSingle.2.1 45 = .ok (.imul, 1) := by decide +kernel
theorem k_Mind_firstSingle_46 : decode Y_Mind_firstSingle.2.1 46 = .ok (.iload_n 2, 1) := by decide +kernel
theorem k_Mind_firstSingle_47 : decode Y_Mind_firstSingle.2.1 47 = .ok (.iadd, 1) := by decide +kernel
theorem k_Mind_firstSingle_48 : decode Y_Mind_firstSingle.2.1 48 = .ok (.ireturn, 1) := by decide +kernel
theorem k_Mind_firstSingle_49 : decode Y_Mind_firstSingle.2.1 49 = .ok (.iinc 1 1, 3) := by decide +kernel
theorem k_Mind_firstSingle_52 : decode Y_Mind_firstSingle.2.1 52 = .ok (.goto (-50), 3) := by decide +kernel
theorem k_Mind_firstSingle_55 : decode Y_Mind_firstSingle.2.1 55 = .ok (.bipush (-9), 2) := by decide +kernel
theorem k_Mind_firstSingle_57 : decode Y_Mind_firstSingle.2.1 57 = .ok (.ireturn, 1) := by decide +kernel
theorem k_Mind_hasPair_0 : decode Y_Mind_hasPair.2.1 0 = .ok (.iconst 0, 1) := by decide +kernel
theorem k_Mind_hasPair_1 : decode Y_Mind_hasPair.2.1 1 = .ok (.istore_n 1, 1) := by decide +kernel
theorem k_Mind_hasPair_2 : decode Y_Mind_hasPair.2.1 2 = .ok (.iload_n 1, 1) := by decide +kernel
theorem k_Mind_hasPair_3 : decode Y_Mind_hasPair.2.1 3 = .ok (.aload_n 0, 1) := by decide +kernel
theorem k_Mind_hasPair_4 : decode Y_Mind_hasPair.2.1 4 = .ok (.getfield 12, 3) := by decide +kernel
theorem k_Mind_hasPair_7 : decode Y_Mind_hasPair.2.1 7 = .ok (.getfield 58, 3) := by decide +kernel
theorem k_Mind_hasPair_10 : decode Y_Mind_hasPair.2.1 10 = .ok (.invokevirtual 62, 3) := by decide +kernel
theorem k_Mind_hasPair_13 : decode Y_Mind_hasPair.2.1 13 = .ok (.if_icmp .ge 108, 3) := by decide +kernel
theorem k_Mind_hasPair_16 : decode Y_Mind_hasPair.2.1 16 = .ok (.aload_n 0, 1) := by decide +kernel
theorem k_Mind_hasPair_17 : decode Y_Mind_hasPair.2.1 17 = .ok (.getfield 12, 3) := by decide +kernel
theorem k_Mind_hasPair_20 : decode Y_Mind_hasPair.2.1 20 = .ok (.getfield 58, 3) := by decide +kernel
theorem k_Mind_hasPair_23 : decode Y_Mind_hasPair.2.1 23 = .ok (.iload_n 1, 1) := by decide +kernel
theorem k_Mind_hasPair_24 : decode Y_Mind_hasPair.2.1 24 = .ok (.invokevirtual 84, 3) := by decide +kernel
theorem k_Mind_hasPair_27 : decode Y_Mind_hasPair.2.1 27 = .ok (.istore_n 2, 1) := by decide +kernel
theorem k_Mind_hasPair_28 : decode Y_Mind_hasPair.2.1 28 = .ok (.iconst 0, 1) := by decide +kernel
theorem k_Mind_hasPair_29 : decode Y_Mind_hasPair.2.1 29 = .ok (.istore_n 3, 1) := by decide +kernel
theorem k_Mind_hasPair_30 : decode Y_Mind_hasPair.2.1 30 = .ok (.iload_n 3, 1) := by decide +kernel
theorem k_Mind_hasPair_31 : decode Y_Mind_hasPair.2.1 31 = .ok (.bipush 9, 2) := by decide +kernel
theorem k_Mind_hasPair_33 : decode Y_Mind_hasPair.2.1 33 = .ok (.if_icmp .gt 70, 3) := by decide +kernel
theorem k_Mind_hasPair_36 : decode Y_Mind_hasPair.2.1 36 = .ok (.aload_n 0, 1) := by decide +kernel
theorem k_Mind_hasPair_37 : decode Y_Mind_hasPair.2.1 37 = .ok (.getfield 12, 3) := by decide +kernel
theorem k_Mind_hasPair_40 : decode Y_Mind_hasPair.2.1 40 = .ok (.getfield 58, 3) := by decide +kernel
theorem k_Mind_hasPair_43 : decode Y_Mind_hasPair.2.1 43 = .ok (.iload_n 1, 1) := by decide +kernel
theorem k_Mind_hasPair_44 : decode Y_Mind_hasPair.2.1 44 = .ok (.iload_n 3, 1) := by decide +kernel
theorem k_Mind_hasPair_45 : decode Y_Mind_hasPair.2.1 45 = .ok (.invokevirtual 73, 3) := by decide +kernel
theorem k_Mind_hasPair_48 : decode Y_Mind_hasPair.2.1 48 = .ok (.iload_n 1, 1) := by decide +kernel
theorem k_Mind_hasPair_49 : decode Y_Mind_hasPair.2.1 49 = .ok (.iconst 1, 1) := by decide +kernel
theorem k_Mind_hasPair_50 : decode Y_Mind_hasPair.2.1 50 = .ok (.iadd, 1) := by decide +kernel
theorem k_Mind_hasPair_51 : decode Y_Mind_hasPair.2.1 51 = .ok (.istore 4, 2) := by decide +kernel
theorem k_Mind_hasPair_53 : decode Y_Mind_hasPair.2.1 53 = .ok (.iload 4, 2) := by decide +kernel
theorem k_Mind_hasPair_55 : decode Y_Mind_hasPair.2.1 55 = .ok (.aload_n 0, 1) := by decide +kernel
theorem k_Mind_hasPair_56 : decode Y_Mind_hasPair.2.1 56 = .ok (.getfield 12, 3) := by decide +kernel
theorem k_Mind_hasPair_59 : decode Y_Mind_hasPair.2.1 59 = .ok (.getfield 58, 3) := by decide +kernel
theorem k_Mind_hasPair_62 : decode Y_Mind_hasPair.2.1 62 = .ok (.invokevirtual 62, 3) := by decide +kernel
theorem k_Mind_hasPair_65 : decode Y_Mind_hasPair.2.1 65 = .ok (.if_icmp .ge 32, 3) := by decide +kernel
theorem k_Mind_hasPair_68 : decode Y_Mind_hasPair.2.1 68 = .ok (.aload_n 0, 1) := by decide +kernel
theorem k_Mind_hasPair_69 : decode Y_Mind_hasPair.2.1 69 = .ok (.iload_n 1, 1) := by decide +kernel
theorem k_Mind_hasPair_70 : decode Y_Mind_hasPair.2.1 70 = .ok (.iload 4, 2) := by decide +kernel
theorem k_Mind_hasPair_72 : decode Y_Mind_hasPair.2.1 72 = .ok (.invokevirtual 131, 3) := by decide +kernel
theorem k_Mind_hasPair_75 : decode Y_Mind_hasPair.2.1 75 = .ok (.ifCond .eq 16, 3) := by decide +kernel
theorem k_Mind_hasPair_78 : decode Y_Mind_hasPair.2.1 78 = .ok (.aload_n 0, 1) := by decide +kernel
theorem k_Mind_hasPair_79 : decode Y_Mind_hasPair.2.1 79 = .ok (.iload 4, 2) := by decide +kernel
theorem k_Mind_hasPair_81 : decode Y_Mind_hasPair.2.1 81 = .ok (.invokevirtual 135, 3) := by decide +kernel
theorem k_Mind_hasPair_84 : decode Y_Mind_hasPair.2.1 84 = .ok (.bipush (-9), 2) := by decide +kernel
theorem k_Mind_hasPair_86 : decode Y_Mind_hasPair.2.1 86 = .ok (.if_icmp .eq 5, 3) := by decide +kernel
theorem k_Mind_hasPair_89 : decode Y_Mind_hasPair.2.1 89 = .ok (.iconst 1, 1) := by decide +kernel
theorem k_Mind_hasPair_90 : decode Y_Mind_hasPair.2.1 90 = .ok (.ireturn, 1) := by decide +kernel
theorem k_Mind_hasPair_91 : decode Y_Mind_hasPair.2.1 91 = .ok (.iinc 4 1, 3) := by decide +kernel
theorem k_Mind_hasPair_94 : decode Y_Mind_hasPair.2.1 94 = .ok (.goto (-41), 3) := by decide +kernel
theorem k_Mind_hasPair_97 : decode Y_Mind_hasPair.2.1 97 = .ok (.iinc 3 1, 3) := by decide +kernel
theorem k_Mind_hasPair_100 : decode Y_Mind_hasPair.2.1 100 = .ok (.goto (-70), 3) := by decide +kernel
theorem k_Mind_hasPair_103 : decode Y_Mind_hasPair.2.1 103 = .ok (.aload_n 0, 1) := by decide +kernel
theorem k_Mind_hasPair_104 : decode Y_Mind_hasPair.2.1 104 = .ok (.getfield 12, 3) := by decide +kernel
theorem k_Mind_hasPair_107 : decode Y_Mind_hasPair.2.1 107 = .ok (.getfield 58, 3) := by decide +kernel
theorem k_Mind_hasPair_110 : decode Y_Mind_hasPair.2.1 110 = .ok (.iload_n 1, 1) := by decide +kernel
theorem k_Mind_hasPair_111 : decode Y_Mind_hasPair.2.1 111 = .ok (.iload_n 2, 1) := by decide +kernel
theorem k_Mind_hasPair_112 : decode Y_Mind_hasPair.2.1 112 = .ok (.invokevirtual 73, 3) := by decide +kernel
theorem k_Mind_hasPair_115 : decode Y_Mind_hasPair.2.1 115 = .ok (.iinc 1 1, 3) := by decide +kernel
theorem k_Mind_hasPair_118 : decode Y_Mind_hasPair.2.1 118 = .ok (.goto (-116), 3) := by decide +kernel
theorem k_Mind_hasPair_121 : decode Y_Mind_hasPair.2.1 121 = .ok (.iconst 0, 1) := by decide +kernel
theorem k_Mind_hasPair_122 : decode Y_Mind_hasPair.2.1 122 = .ok (.ireturn, 1) := by decide +kernel
theorem k_Row_init_0 : decode Y_Row_init.2.1 0 = .ok (.aload_n 0, 1) := by decide +kernel
theorem k_Row_init_1 : decode Y_Row_init.2.1 1 = .ok (.invokespecial 1, 3) := by decide +kernel
theorem k_Row_init_4 : decode Y_Row_init.2.1 4 = .ok (.aload_n 0, 1) := by decide +kernel
theorem k_Row_init_5 : decode Y_Row_init.2.1 5 = .ok (.iconst 0, 1) := by decide +kernel
theorem k_Row_init_6 : decode Y_Row_init.2.1 6 = .ok (.putfield 7, 3) := by decide +kernel
theorem k_Row_init_9 : decode Y_Row_init.2.1 9 = .ok (.aload_n 0, 1) := by decide +kernel
theorem k_Row_init_10 : decode Y_Row_init.2.1 10 = .ok (.iload_n 1, 1) := by decide +kernel
theorem k_Row_init_11 : decode Y_Row_init.2.1 11 = .ok (.ifCond .ge 7, 3) := by decide +kernel
theorem k_Row_init_14 : decode Y_Row_init.2.1 14 = .ok (.iconst 0, 1) := by decide +kernel
theorem k_Row_init_15 : decode Y_Row_init.2.1 15 = .ok (.goto 4, 3) := by decide +kernel
theorem k_Row_init_18 : decode Y_Row_init.2.1 18 = .ok (.iload_n 1, 1) := by decide +kernel
theorem k_Row_init_19 : decode Y_Row_init.2.1 19 = .ok (.newarray .int, 2) := by decide +kernel
theorem k_Row_init_21 : decode Y_Row_init.2.1 21 = .ok (.putfield 13, 3) := by decide +kernel
theorem k_Row_init_24 : decode Y_Row_init.2.1 24 = .ok (.return_, 1) := by decide +kernel
theorem k_Row_size_0 : decode Y_Row_size.2.1 0 = .ok (.aload_n 0, 1) := by decide +kernel
theorem k_Row_size_1 : decode Y_Row_size.2.1 1 = .ok (.getfield 7, 3) := by decide +kernel
theorem k_Row_size_4 : decode Y_Row_size.2.1 4 = .ok (.ireturn, 1) := by decide +kernel
theorem k_Row_has_0 : decode Y_Row_has.2.1 0 = .ok (.iload_n 1, 1) := by decide +kernel
theorem k_Row_has_1 : decode Y_Row_has.2.1 1 = .ok (.ifCond .lt 24, 3) := by decide +kernel
theorem k_Row_has_4 : decode Y_Row_has.2.1 4 = .ok (.iload_n 1, 1) := by decide +kernel
theorem k_Row_has_5 : decode Y_Row_has.2.1 5 = .ok (.aload_n 0, 1) := by decide +kernel
theorem k_Row_has_6 : decode Y_Row_has.2.1 6 = .ok (.getfield 7, 3) := by decide +kernel
theorem k_Row_has_9 : decode Y_Row_has.2.1 9 = .ok (.if_icmp .ge 16, 3) := by decide +kernel
theorem k_Row_has_12 : decode Y_Row_has.2.1 12 = .ok (.iload_n 1, 1) := by decide +kernel
theorem k_Row_has_13 : decode Y_Row_has.2.1 13 = .ok (.aload_n 0, 1) := by decide +kernel
theorem k_Row_has_14 : decode Y_Row_has.2.1 14 = .ok (.getfield 13, 3) := by decide +kernel
theorem k_Row_has_17 : decode Y_Row_has.2.1 17 = .ok (.arraylength, 1) := by decide +kernel
theorem k_Row_has_18 : decode Y_Row_has.2.1 18 = .ok (.if_icmp .ge 7, 3) := by decide +kernel
theorem k_Row_has_21 : decode Y_Row_has.2.1 21 = .ok (.iconst 1, 1) := by decide +kernel
theorem k_Row_has_22 : decode Y_Row_has.2.1 22 = .ok (.goto 4, 3) := by decide +kernel
theorem k_Row_has_25 : decode Y_Row_has.2.1 25 = .ok (.iconst 0, 1) := by decide +kernel
theorem k_Row_has_26 : decode Y_Row_has.2.1 26 = .ok (.ireturn, 1) := by decide +kernel
theorem k_Row_get_0 : decode Y_Row_get.2.1 0 = .ok (.iload_n 1, 1) := by decide +kernel
theorem k_Row_get_1 : decode Y_Row_get.2.1 1 = .ok (.ifCond .lt 29, 3) := by decide +kernel
theorem k_Row_get_4 : decode Y_Row_get.2.1 4 = .ok (.iload_n 1, 1) := by decide +kernel
theorem k_Row_get_5 : decode Y_Row_get.2.1 5 = .ok (.aload_n 0, 1) := by decide +kernel
theorem k_Row_get_6 : decode Y_Row_get.2.1 6 = .ok (.getfield 7, 3) := by decide +kernel
theorem k_Row_get_9 : decode Y_Row_get.2.1 9 = .ok (.if_icmp .ge 21, 3) := by decide +kernel
theorem k_Row_get_12 : decode Y_Row_get.2.1 12 = .ok (.iload_n 1, 1) := by decide +kernel
theorem k_Row_get_13 : decode Y_Row_get.2.1 13 = .ok (.aload_n 0, 1) := by decide +kernel
theorem k_Row_get_14 : decode Y_Row_get.2.1 14 = .ok (.getfield 13, 3) := by decide +kernel
theorem k_Row_get_17 : decode Y_Row_get.2.1 17 = .ok (.arraylength, 1) := by decide +kernel
theorem k_Row_get_18 : decode Y_Row_get.2.1 18 = .ok (.if_icmp .ge 12, 3) := by decide +kernel
theorem k_Row_get_21 : decode Y_Row_get.2.1 21 = .ok (.aload_n 0, 1) := by decide +kernel
theorem k_Row_get_22 : decode Y_Row_get.2.1 22 = .ok (.getfield 13, 3) := by decide +kernel
theorem k_Row_get_25 : decode Y_Row_get.2.1 25 = .ok (.iload_n 1, 1) := by decide +kernel
theorem k_Row_get_26 : decode Y_Row_get.2.1 26 = .ok (.iaload, 1) := by decide +kernel
theorem k_Row_get_27 : decode Y_Row_get.2.1 27 = .ok (.goto 4, 3) := by decide +kernel
theorem k_Row_get_30 : decode Y_Row_get.2.1 30 = .ok (.iconst 0, 1) := by decide +kernel
theorem k_Row_get_31 : decode Y_Row_get.2.1 31 = .ok (.ireturn, 1) := by decide +kernel
theorem k_Row_set_0 : decode Y_Row_set.2.1 0 = .ok (.iload_n 1, 1) := by decide +kernel
theorem k_Row_set_1 : decode Y_Row_set.2.1 1 = .ok (.ifCond .lt 27, 3) := by decide +kernel
theorem k_Row_set_4 : decode Y_Row_set.2.1 4 = .ok (.iload_n 1, 1) := by decide +kernel
theorem k_Row_set_5 : decode Y_Row_set.2.1 5 = .ok (.aload_n 0, 1) := by decide +kernel
theorem k_Row_set_6 : decode Y_Row_set.2.1 6 = .ok (.getfield 7, 3) := by decide +kernel
theorem k_Row_set_9 : decode Y_Row_set.2.1 9 = .ok (.if_icmp .ge 19, 3) := by decide +kernel
theorem k_Row_set_12 : decode Y_Row_set.2.1 12 = .ok (.iload_n 1, 1) := by decide +kernel
theorem k_Row_set_13 : decode Y_Row_set.2.1 13 = .ok (.aload_n 0, 1) := by decide +kernel
theorem k_Row_set_14 : decode Y_Row_set.2.1 14 = .ok (.getfield 13, 3) := by decide +kernel
theorem k_Row_set_17 : decode Y_Row_set.2.1 17 = .ok (.arraylength, 1) := by decide +kernel
theorem k_Row_set_18 : decode Y_Row_set.2.1 18 = .ok (.if_icmp .ge 10, 3) := by decide +kernel
theorem k_Row_set_21 : decode Y_Row_set.2.1 21 = .ok (.aload_n 0, 1) := by decide +kernel
theorem k_Row_set_22 : decode Y_Row_set.2.1 22 = .ok (.getfield 13, 3) := by decide +kernel
theorem k_Row_set_25 : decode Y_Row_set.2.1 25 = .ok (.iload_n 1, 1) := by decide +kernel
theorem k_Row_set_26 : decode Y_Row_set.2.1 26 = .ok (.iload_n 2, 1) := by decide +kernel
theorem k_Row_set_27 : decode Y_Row_set.2.1 27 = .ok (.iastore, 1) := by decide +kernel
theorem k_Row_set_28 : decode Y_Row_set.2.1 28 = .ok (.return_, 1) := by decide +kernel
theorem k_Row_add_0 : decode Y_Row_add.2.1 0 = .ok (.aload_n 0, 1) := by decide +kernel
theorem k_Row_add_1 : decode Y_Row_add.2.1 1 = .ok (.getfield 7, 3) := by decide +kernel
theorem k_Row_add_4 : decode Y_Row_add.2.1 4 = .ok (.ifCond .lt 35, 3) := by decide +kernel
theorem k_Row_add_7 : decode Y_Row_add.2.1 7 = .ok (.aload_n 0, 1) := by decide +kernel
theorem k_Row_add_8 : decode Y_Row_add.2.1 8 = .ok (.getfield 7, 3) := by decide +kernel
theorem k_Row_add_11 : decode Y_Row_add.2.1 11 = .ok (.aload_n 0, 1) := by decide +kernel
theorem k_Row_add_12 : decode Y_Row_add.2.1 12 = .ok (.getfield 13, 3) := by decide +kernel
theorem k_Row_add_15 : decode Y_Row_add.2.1 15 = .ok (.arraylength, 1) := by decide +kernel
theorem k_Row_add_16 : decode Y_Row_add.2.1 16 = .ok (.if_icmp .ge 23, 3) := by decide +kernel
theorem k_Row_add_19 : decode Y_Row_add.2.1 19 = .ok (.aload_n 0, 1) := by decide +kernel
theorem k_Row_add_20 : decode Y_Row_add.2.1 20 = .ok (.getfield 13, 3) := by decide +kernel
theorem k_Row_add_23 : decode Y_Row_add.2.1 23 = .ok (.aload_n 0, 1) := by decide +kernel
theorem k_Row_add_24 : decode Y_Row_add.2.1 24 = .ok (.getfield 7, 3) := by decide +kernel
theorem k_Row_add_27 : decode Y_Row_add.2.1 27 = .ok (.iload_n 1, 1) := by decide +kernel
theorem k_Row_add_28 : decode Y_Row_add.2.1 28 = .ok (.iastore, 1) := by decide +kernel
theorem k_Row_add_29 : decode Y_Row_add.2.1 29 = .ok (.aload_n 0, 1) := by decide +kernel
theorem k_Row_add_30 : decode Y_Row_add.2.1 30 = .ok (.dup, 1) := by decide +kernel
theorem k_Row_add_31 : decode Y_Row_add.2.1 31 = .ok (.getfield 7, 3) := by decide +kernel
theorem k_Row_add_34 : decode Y_Row_add.2.1 34 = .ok (.iconst 1, 1) := by decide +kernel
theorem k_Row_add_35 : decode Y_Row_add.2.1 35 = .ok (.iadd, 1) := by decide +kernel
theorem k_Row_add_36 : decode Y_Row_add.2.1 36 = .ok (.putfield 7, 3) := by decide +kernel
theorem k_Row_add_39 : decode Y_Row_add.2.1 39 = .ok (.return_, 1) := by decide +kernel
theorem k_Row_clear_0 : decode Y_Row_clear.2.1 0 = .ok (.aload_n 0, 1) := by decide +kernel
theorem k_Row_clear_1 : decode Y_Row_clear.2.1 1 = .ok (.iconst 0, 1) := by decide +kernel
theorem k_Row_clear_2 : decode Y_Row_clear.2.1 2 = .ok (.putfield 7, 3) := by decide +kernel
theorem k_Row_clear_5 : decode Y_Row_clear.2.1 5 = .ok (.return_, 1) := by decide +kernel
theorem k_Row_copyFrom_0 : decode Y_Row_copyFrom.2.1 0 = .ok (.aload_n 0, 1) := by decide +kernel
theorem k_Row_copyFrom_1 : decode Y_Row_copyFrom.2.1 1 = .ok (.invokevirtual 17, 3) := by decide +kernel
theorem k_Row_copyFrom_4 : decode Y_Row_copyFrom.2.1 4 = .ok (.aload_n 1, 1) := by decide +kernel
theorem k_Row_copyFrom_5 : decode Y_Row_copyFrom.2.1 5 = .ok (.ifnull 28, 3) := by decide +kernel
theorem k_Row_copyFrom_8 : decode Y_Row_copyFrom.2.1 8 = .ok (.iconst 0, 1) := by decide +kernel
theorem k_Row_copyFrom_9 : decode Y_Row_copyFrom.2.1 9 = .ok (.istore_n 2, 1) := by decide +kernel
theorem k_Row_copyFrom_10 : decode Y_Row_copyFrom.2.1 10 = .ok (.iload_n 2, 1) := by decide +kernel
theorem k_Row_copyFrom_11 : decode Y_Row_copyFrom.2.1 11 = .ok (.aload_n 1, 1) := by decide +kernel
theorem k_Row_copyFrom_12 : decode Y_Row_copyFrom.2.1 12 = .ok (.invokevirtual 20, 3) := by decide +kernel
theorem k_Row_copyFrom_15 : decode Y_Row_copyFrom.2.1 15 = .ok (.if_icmp .ge 18, 3) := by decide +kernel
theorem k_Row_copyFrom_18 : decode Y_Row_copyFrom.2.1 18 = .ok (.aload_n 0, 1) := by decide +kernel
theorem k_Row_copyFrom_19 : decode Y_Row_copyFrom.2.1 19 = .ok (.aload_n 1, 1) := by decide +kernel
theorem k_Row_copyFrom_20 : decode Y_Row_copyFrom.2.1 20 = .ok (.iload_n 2, 1) := by decide +kernel
theorem k_Row_copyFrom_21 : decode Y_Row_copyFrom.2.1 21 = .ok (.invokevirtual 24, 3) := by decide +kernel
theorem k_Row_copyFrom_24 : decode Y_Row_copyFrom.2.1 24 = .ok (.invokevirtual 28, 3) := by decide +kernel
theorem k_Row_copyFrom_27 : decode Y_Row_copyFrom.2.1 27 = .ok (.iinc 2 1, 3) := by decide +kernel
theorem k_Row_copyFrom_30 : decode Y_Row_copyFrom.2.1 30 = .ok (.goto (-20), 3) := by decide +kernel
theorem k_Row_copyFrom_33 : decode Y_Row_copyFrom.2.1 33 = .ok (.return_, 1) := by decide +kernel
theorem k_Text_init_0 : decode Y_Text_init.2.1 0 = .ok (.aload_n 0, 1) := by decide +kernel
theorem k_Text_init_1 : decode Y_Text_init.2.1 1 = .ok (.invokespecial 3, 3) := by decide +kernel
theorem k_Text_init_4 : decode Y_Text_init.2.1 4 = .ok (.aload_n 0, 1) := by decide +kernel
theorem k_Text_init_5 : decode Y_Text_init.2.1 5 = .ok (.new 9, 3) := by decide +kernel
theorem k_Text_init_8 : decode Y_Text_init.2.1 8 = .ok (.dup, 1) := by decide +kernel
theorem k_Text_init_9 : decode Y_Text_init.2.1 9 = .ok (.bipush 80, 2) := by decide +kernel
theorem k_Text_init_11 : decode Y_Text_init.2.1 11 = .ok (.invokespecial 11, 3) := by decide +kernel
theorem k_Text_init_14 : decode Y_Text_init.2.1 14 = .ok (.putfield 14, 3) := by decide +kernel
theorem k_Text_init_17 : decode Y_Text_init.2.1 17 = .ok (.return_, 1) := by decide +kernel
theorem k_Text_size_0 : decode Y_Text_size.2.1 0 = .ok (.aload_n 0, 1) := by decide +kernel
theorem k_Text_size_1 : decode Y_Text_size.2.1 1 = .ok (.getfield 14, 3) := by decide +kernel
theorem k_Text_size_4 : decode Y_Text_size.2.1 4 = .ok (.invokevirtual 20, 3) := by decide +kernel
theorem k_Text_size_7 : decode Y_Text_size.2.1 7 = .ok (.ireturn, 1) := by decide +kernel
theorem k_Text_add_0 : decode Y_Text_add.2.1 0 = .ok (.aload_n 0, 1) := by decide +kernel
theorem k_Text_add_1 : decode Y_Text_add.2.1 1 = .ok (.getfield 14, 3) := by decide +kernel
theorem k_Text_add_4 : decode Y_Text_add.2.1 4 = .ok (.iload_n 1, 1) := by decide +kernel
theorem k_Text_add_5 : decode Y_Text_add.2.1 5 = .ok (.invokevirtual 24, 3) := by decide +kernel
theorem k_Text_add_8 : decode Y_Text_add.2.1 8 = .ok (.aload_n 0, 1) := by decide +kernel
theorem k_Text_add_9 : decode Y_Text_add.2.1 9 = .ok (.getfield 14, 3) := by decide +kernel
theorem k_Text_add_12 : decode Y_Text_add.2.1 12 = .ok (.invokevirtual 20, 3) := by decide +kernel
theorem k_Text_add_15 : decode Y_Text_add.2.1 15 = .ok (.ireturn, 1) := by decide +kernel
theorem k_Text_clear_0 : decode Y_Text_clear.2.1 0 = .ok (.aload_n 0, 1) := by decide +kernel
theorem k_Text_clear_1 : decode Y_Text_clear.2.1 1 = .ok (.getfield 14, 3) := by decide +kernel
theorem k_Text_clear_4 : decode Y_Text_clear.2.1 4 = .ok (.invokevirtual 27, 3) := by decide +kernel
theorem k_Text_clear_7 : decode Y_Text_clear.2.1 7 = .ok (.return_, 1) := by decide +kernel
theorem k_Text_at_0 : decode Y_Text_at.2.1 0 = .ok (.aload_n 0, 1) := by decide +kernel
theorem k_Text_at_1 : decode Y_Text_at.2.1 1 = .ok (.getfield 14, 3) := by decide +kernel
theorem k_Text_at_4 : decode Y_Text_at.2.1 4 = .ok (.iload_n 1, 1) := by decide +kernel
theorem k_Text_at_5 : decode Y_Text_at.2.1 5 = .ok (.invokevirtual 30, 3) := by decide +kernel
theorem k_Text_at_8 : decode Y_Text_at.2.1 8 = .ok (.ifCond .eq 14, 3) := by decide +kernel
theorem k_Text_at_11 : decode Y_Text_at.2.1 11 = .ok (.aload_n 0, 1) := by decide +kernel
theorem k_Text_at_12 : decode Y_Text_at.2.1 12 = .ok (.getfield 14, 3) := by decide +kernel
theorem k_Text_at_15 : decode Y_Text_at.2.1 15 = .ok (.iload_n 1, 1) := by decide +kernel
theorem k_Text_at_16 : decode Y_Text_at.2.1 16 = .ok (.invokevirtual 34, 3) := by decide +kernel
theorem k_Text_at_19 : decode Y_Text_at.2.1 19 = .ok (.goto 4, 3) := by decide +kernel
theorem k_Text_at_22 : decode Y_Text_at.2.1 22 = .ok (.iconst (-1), 1) := by decide +kernel
theorem k_Text_at_23 : decode Y_Text_at.2.1 23 = .ok (.ireturn, 1) := by decide +kernel
theorem k_Text_isDigit_0 : decode Y_Text_isDigit.2.1 0 = .ok (.aload_n 0, 1) := by decide +kernel
theorem k_Text_isDigit_1 : decode Y_Text_isDigit.2.1 1 = .ok (.iload_n 1, 1) := by decide +kernel
theorem k_Text_isDigit_2 : decode Y_Text_isDigit.2.1 2 = .ok (.invokevirtual 38, 3) := by decide +kernel
theorem k_Text_isDigit_5 : decode Y_Text_isDigit.2.1 5 = .ok (.bipush 48, 2) := by decide +kernel
theorem k_Text_isDigit_7 : decode Y_Text_isDigit.2.1 7 = .ok (.if_icmp .lt 17, 3) := by decide +kernel
theorem k_Text_isDigit_10 : decode Y_Text_isDigit.2.1 10 = .ok (.aload_n 0, 1) := by decide +kernel
theorem k_Text_isDigit_11 : decode Y_Text_isDigit.2.1 11 = .ok (.iload_n 1, 1) := by decide +kernel
theorem k_Text_isDigit_12 : decode Y_Text_isDigit.2.1 12 = .ok (.invokevirtual 38, 3) := by decide +kernel
theorem k_Text_isDigit_15 : decode Y_Text_isDigit.2.1 15 = .ok (.bipush 57, 2) := by decide +kernel
theorem k_Text_isDigit_17 : decode Y_Text_isDigit.2.1 17 = .ok (.if_icmp .gt 7, 3) := by decide +kernel
theorem k_Text_isDigit_20 : decode Y_Text_isDigit.2.1 20 = .ok (.iconst 1, 1) := by decide +kernel
theorem k_Text_isDigit_21 : decode Y_Text_isDigit.2.1 21 = .ok (.goto 4, 3) := by decide +kernel
theorem k_Text_isDigit_24 : decode Y_Text_isDigit.2.1 24 = .ok (.iconst 0, 1) := by decide +kernel
theorem k_Text_isDigit_25 : decode Y_Text_isDigit.2.1 25 = .ok (.ireturn, 1) := by decide +kernel
theorem k_Text_digit_0 : decode Y_Text_digit.2.1 0 = .ok (.aload_n 0, 1) := by decide +kernel
theorem k_Text_digit_1 : decode Y_Text_digit.2.1 1 = .ok (.iload_n 1, 1) := by decide +kernel
theorem k_Text_digit_2 : decode Y_Text_digit.2.1 2 = .ok (.invokevirtual 38, 3) := by decide +kernel
theorem k_Text_digit_5 : decode Y_Text_digit.2.1 5 = .ok (.bipush 48, 2) := by decide +kernel
theorem k_Text_digit_7 : decode Y_Text_digit.2.1 7 = .ok (.isub, 1) := by decide +kernel
theorem k_Text_digit_8 : decode Y_Text_digit.2.1 8 = .ok (.ireturn, 1) := by decide +kernel
theorem k_Text_kind_0 : decode Y_Text_kind.2.1 0 = .ok (.iconst 0, 1) := by decide +kernel
theorem k_Text_kind_1 : decode Y_Text_kind.2.1 1 = .ok (.istore_n 2, 1) := by decide +kernel
theorem k_Text_kind_2 : decode Y_Text_kind.2.1 2 = .ok (.iload_n 2, 1) := by decide +kernel
theorem k_Text_kind_3 : decode Y_Text_kind.2.1 3 = .ok (.ldc 41, 2) := by decide +kernel
theorem k_Text_kind_5 : decode Y_Text_kind.2.1 5 = .ok (.invokevirtual 43, 3) := by decide +kernel
theorem k_Text_kind_8 : decode Y_Text_kind.2.1 8 = .ok (.if_icmp .ge 25, 3) := by decide +kernel
theorem k_Text_kind_11 : decode Y_Text_kind.2.1 11 = .ok (.ldc 41, 2) := by decide +kernel
theorem k_Text_kind_13 : decode Y_Text_kind.2.1 13 = .ok (.iload_n 2, 1) := by decide +kernel
theorem k_Text_kind_14 : decode Y_Text_kind.2.1 14 = .ok (.invokevirtual 48, 3) := by decide +kernel
theorem k_Text_kind_17 : decode Y_Text_kind.2.1 17 = .ok (.aload_n 0, 1) := by decide +kernel
theorem k_Text_kind_18 : decode Y_Text_kind.2.1 18 = .ok (.iload_n 1, 1) := by decide +kernel
theorem k_Text_kind_19 : decode Y_Text_kind.2.1 19 = .ok (.invokevirtual 38, 3) := by decide +kernel
theorem k_Text_kind_22 : decode Y_Text_kind.2.1 22 = .ok (.if_icmp .ne 5, 3) := by decide +kernel
theorem k_Text_kind_25 : decode Y_Text_kind.2.1 25 = .ok (.iload_n 2, 1) := by decide +kernel
theorem k_Text_kind_26 : decode Y_Text_kind.2.1 26 = .ok (.ireturn, 1) := by decide +kernel
theorem k_Text_kind_27 : decode Y_Text_kind.2.1 27 = .ok (.iinc 2 1, 3) := by decide +kernel
theorem k_Text_kind_30 : decode Y_Text_kind.2.1 30 = .ok (.goto (-28), 3) := by decide +kernel
theorem k_Text_kind_33 : decode Y_Text_kind.2.1 33 = .ok (.iconst (-1), 1) := by decide +kernel
theorem k_Text_kind_34 : decode Y_Text_kind.2.1 34 = .ok (.ireturn, 1) := by decide +kernel
theorem k_Text_formAt_0 : decode Y_Text_formAt.2.1 0 = .ok (.aload_n 0, 1) := by decide +kernel
theorem k_Text_formAt_1 : decode Y_Text_formAt.2.1 1 = .ok (.iload_n 1, 1) := by decide +kernel
theorem k_Text_formAt_2 : decode Y_Text_formAt.2.1 2 = .ok (.invokevirtual 38, 3) := by decide +kernel
theorem k_Text_formAt_5 : decode Y_Text_formAt.2.1 5 = .ok (.lookupswitch 59 #[(114, 53), (118, 35), (119, 56)], 35) := by decide +kernel
theorem k_Text_formAt_40 : decode Y_Text_formAt.2.1 40 = .ok (.aload_n 0, 1) := by decide +kernel
theorem k_Text_formAt_41 : decode Y_Text_formAt.2.1 41 = .ok (.iload_n 1, 1) := by decide +kernel
theorem k_Text_formAt_42 : decode Y_Text_formAt.2.1 42 = .ok (.iconst 3, 1) := by decide +kernel
theorem k_Text_formAt_43 : decode Y_Text_formAt.2.1 43 = .ok (.iadd, 1) := by decide +kernel
theorem k_Text_formAt_44 : decode Y_Text_formAt.2.1 44 = .ok (.invokevirtual 52, 3) := by decide +kernel
theorem k_Text_formAt_47 : decode Y_Text_formAt.2.1 47 = .ok (.ifCond .eq 8, 3) := by decide +kernel
theorem k_Text_formAt_50 : decode Y_Text_formAt.2.1 50 = .ok (.ldc 55, 2) := by decide +kernel
theorem k_Text_formAt_52 : decode Y_Text_formAt.2.1 52 = .ok (.goto 5, 3) := by decide +kernel
theorem k_Text_formAt_55 : decode Y_Text_formAt.2.1 55 = .ok (.ldc 57, 2) := by decide +kernel
theorem k_Text_formAt_57 : decode Y_Text_formAt.2.1 57 = .ok (.areturn, 1) := by decide +kernel
theorem k_Text_formAt_58 : decode Y_Text_formAt.2.1 58 = .ok (.ldc 59, 2) := by decide +kernel
theorem k_Text_formAt_60 : decode Y_Text_formAt.2.1 60 = .ok (.areturn, 1) := by decide +kernel
theorem k_Text_formAt_61 : decode Y_Text_formAt.2.1 61 = .ok (.ldc 61, 2) := by decide +kernel
theorem k_Text_formAt_63 : decode Y_Text_formAt.2.1 63 = .ok (.areturn, 1) := by decide +kernel
theorem k_Text_formAt_64 : decode Y_Text_formAt.2.1 64 = .ok (.ldc 63, 2) := by decide +kernel
theorem k_Text_formAt_66 : decode Y_Text_formAt.2.1 66 = .ok (.areturn, 1) := by decide +kernel
theorem k_Text_fits_0 : decode Y_Text_fits.2.1 0 = .ok (.iload_n 1, 1) := by decide +kernel
theorem k_Text_fits_1 : decode Y_Text_fits.2.1 1 = .ok (.lookupswitch 47 #[(35, 27), (64, 33)], 27) := by decide +kernel
theorem k_Text_fits_28 : decode Y_Text_fits.2.1 28 = .ok (.aload_n 0, 1) := by decide +kernel
theorem k_Text_fits_29 : decode Y_Text_fits.2.1 29 = .ok (.iload_n 2, 1) := by decide +kernel
theorem k_Text_fits_30 : decode Y_Text_fits.2.1 30 = .ok (.invokevirtual 52, 3) := by decide +kernel
theorem k_Text_fits_33 : decode Y_Text_fits.2.1 33 = .ok (.ireturn, 1) := by decide +kernel
theorem k_Text_fits_34 : decode Y_Text_fits.2.1 34 = .ok (.aload_n 0, 1) := by decide +kernel
theorem k_Text_fits_35 : decode Y_Text_fits.2.1 35 = .ok (.iload_n 2, 1) := by decide +kernel
theorem k_Text_fits_36 : decode Y_Text_fits.2.1 36 = .ok (.invokevirtual 65, 3) := by decide +kernel
theorem k_Text_fits_39 : decode Y_Text_fits.2.1 39 = .ok (.ifCond .lt 7, 3) := by decide +kernel
theorem k_Text_fits_42 : decode Y_Text_fits.2.1 42 = .ok (.iconst 1, 1) := by decide +kernel
theorem k_Text_fits_43 : decode Y_Text_fits.2.1 43 = .ok (.goto 4, 3) := by decide +kernel
theorem k_Text_fits_46 : decode Y_Text_fits.2.1 46 = .ok (.iconst 0, 1) := by decide +kernel
theorem k_Text_fits_47 : decode Y_Text_fits.2.1 47 = .ok (.ireturn, 1) := by decide +kernel
theorem k_Text_fits_48 : decode Y_Text_fits.2.1 48 = .ok (.aload_n 0, 1) := by decide +kernel
theorem k_Text_fits_49 : decode Y_Text_fits.2.1 49 = .ok (.iload_n 2, 1) := by decide +kernel
theorem k_Text_fits_50 : decode Y_Text_fits.2.1 50 = .ok (.invokevirtual 38, 3) := by decide +kernel
theorem k_Text_fits_53 : decode Y_Text_fits.2.1 53 = .ok (.iload_n 1, 1) := by decide +kernel
theorem k_Text_fits_54 : decode Y_Text_fits.2.1 54 = .ok (.if_icmp .ne 7, 3) := by decide +kernel
theorem k_Text_fits_57 : decode Y_Text_fits.2.1 57 = .ok (.iconst 1, 1) := by decide +kernel
theorem k_Text_fits_58 : decode Y_Text_fits.2.1 58 = .ok (.goto 4, 3) := by decide +kernel
theorem k_Text_fits_61 : decode Y_Text_fits.2.1 61 = .ok (.iconst 0, 1) := by decide +kernel
theorem k_Text_fits_62 : decode Y_Text_fits.2.1 62 = .ok (.ireturn, 1) := by decide +kernel
theorem k_Text_formFault_0 : decode Y_Text_formFault.2.1 0 = .ok (.iconst 0, 1) := by decide +kernel
theorem k_Text_formFault_1 : decode Y_Text_formFault.2.1 1 = .ok (.istore_n 1, 1) := by decide +kernel
theorem k_Text_formFault_2 : decode Y_Text_formFault.2.1 2 = .ok (.iconst 0, 1) := by decide +kernel
theorem k_Text_formFault_3 : decode Y_Text_formFault.2.1 3 = .ok (.istore_n 2, 1) := by decide +kernel
theorem k_Text_formFault_4 : decode Y_Text_formFault.2.1 4 = .ok (.iload_n 2, 1) := by decide +kernel
theorem k_Text_formFault_5 : decode Y_Text_formFault.2.1 5 = .ok (.bipush 80, 2) := by decide +kernel
theorem k_Text_formFault_7 : decode Y_Text_formFault.2.1 7 = .ok (.if_icmp .ge 79, 3) := by decide +kernel
theorem k_Text_formFault_10 : decode Y_Text_formFault.2.1 10 = .ok (.aload_n 0, 1) := by decide +kernel
theorem k_Text_formFault_11 : decode Y_Text_formFault.2.1 11 = .ok (.iload_n 1, 1) := by decide +kernel
theorem k_Text_formFault_12 : decode Y_Text_formFault.2.1 12 = .ok (.invokevirtual 68, 3) := by decide +kernel
theorem k_Text_formFault_15 : decode Y_Text_formFault.2.1 15 = .ok (.astore_n 3, 1) := by decide +kernel
theorem k_Text_formFault_16 : decode Y_Text_formFault.2.1 16 = .ok (.iconst 0, 1) := by decide +kernel
theorem k_Text_formFault_17 : decode Y_Text_formFault.2.1 17 = .ok (.istore 4, 2) := by decide +kernel
theorem k_Text_formFault_19 : decode Y_Text_formFault.2.1 19 = .ok (.iload 4, 2) := by decide +kernel
theorem k_Text_formFault_21 : decode Y_Text_formFault.2.1 21 = .ok (.aload_n 3, 1) := by decide +kernel
theorem k_Text_formFault_22 : decode Y_Text_formFault.2.1 22 = .ok (.invokevirtual 43, 3) := by decide +kernel
theorem k_Text_formFault_25 : decode Y_Text_formFault.2.1 25 = .ok (.if_icmp .ge 35, 3) := by decide +kernel
theorem k_Text_formFault_28 : decode Y_Text_formFault.2.1 28 = .ok (.aload_n 0, 1) := by decide +kernel
theorem k_Text_formFault_29 : decode Y_Text_formFault.2.1 29 = .ok (.aload_n 3, 1) := by decide +kernel
theorem k_Text_formFault_30 : decode Y_Text_formFault.2.1 30 = .ok (.iload 4, 2) := by decide +kernel
theorem k_Text_formFault_32 : decode Y_Text_formFault.2.1 32 = .ok (.invokevirtual 48, 3) := by decide +kernel
theorem k_Text_formFault_35 : decode Y_Text_formFault.2.1 35 = .ok (.iload_n 1, 1) := by decide +kernel
theorem k_Text_formFault_36 : decode Y_Text_formFault.2.1 36 = .ok (.iload 4, 2) := by decide +kernel
theorem k_Text_formFault_38 : decode Y_Text_formFault.2.1 38 = .ok (.iadd, 1) := by decide +kernel
theorem k_Text_formFault_39 : decode Y_Text_formFault.2.1 39 = .ok (.invokevirtual 72, 3) := by decide +kernel
theorem k_Text_formFault_42 : decode Y_Text_formFault.2.1 42 = .ok (.ifCond .ne 12, 3) := by decide +kernel
theorem k_Text_formFault_45 : decode Y_Text_formFault.2.1 45 = .ok (.sipush (-1000), 3) := by decide +kernel
theorem k_Text_formFault_48 : decode Y_Text_formFault.2.1 48 = .ok (.iload_n 1, 1) := by decide +kernel
theorem k_Text_formFault_49 : decode Y_Text_formFault.2.1 49 = .ok (.isub, 1) := by decide +kernel
theorem k_Text_formFault_50 : decode Y_Text_formFault.2.1 50 = .ok (.iload 4, 2) := by decide +kernel
theorem k_Text_formFault_52 : decode Y_Text_formFault.2.1 52 = .ok (.isub, 1) := by decide +kernel
theorem k_Text_formFault_53 : decode Y_Text_formFault.2.1 53 = .ok (.ireturn, 1) := by decide +kernel
theorem k_Text_formFault_54 : decode Y_Text_formFault.2.1 54 = .ok (.iinc 4 1, 3) := by decide +kernel
theorem k_Text_formFault_57 : decode Y_Text_formFault.2.1 57 = .ok (.goto (-38), 3) := by decide +kernel
theorem k_Text_formFault_60 : decode Y_Text_formFault.2.1 60 = .ok (.iload_n 1, 1) := by decide +kernel
theorem k_Text_formFault_61 : decode Y_Text_formFault.2.1 61 = .ok (.aload_n 3, 1) := by decide +kernel
theorem k_Text_formFault_62 : decode Y_Text_formFault.2.1 62 = .ok (.invokevirtual 43, 3) := by decide +kernel
theorem k_Text_formFault_65 : decode Y_Text_formFault.2.1 65 = .ok (.iadd, 1) := by decide +kernel
theorem k_Text_formFault_66 : decode Y_Text_formFault.2.1 66 = .ok (.istore_n 1, 1) := by decide +kernel
theorem k_Text_formFault_67 : decode Y_Text_formFault.2.1 67 = .ok (.iload_n 1, 1) := by decide +kernel
theorem k_Text_formFault_68 : decode Y_Text_formFault.2.1 68 = .ok (.aload_n 0, 1) := by decide +kernel
