/-! what each instruction decodes to (written by wip/whole/tools/gen_dec.py) -/
theorem k_Model_firstBeat_14 : decode Y_Model_firstBeat.2.1 14 = .ok (.bipush 30, 2) := by decide +kernel
theorem k_Model_firstBeat_16 : decode Y_Model_firstBeat.2.1 16 = .ok (.iload_n 3, 1) := by decide +kernel
theorem k_Model_firstBeat_17 : decode Y_Model_firstBeat.2.1 17 = .ok (.iadd, 1) := by decide +kernel
theorem k_Model_firstBeat_18 : decode Y_Model_firstBeat.2.1 18 = .ok (.iaload, 1) := by decide +kernel
theorem k_Model_firstBeat_19 : decode Y_Model_firstBeat.2.1 19 = .ok (.iadd, 1) := by decide +kernel
theorem k_Model_firstBeat_20 : decode Y_Model_firstBeat.2.1 20 = .ok (.istore_n 2, 1) := by decide +kernel
theorem k_Model_firstBeat_21 : decode Y_Model_firstBeat.2.1 21 = .ok (.iinc 3 1, 3) := by decide +kernel
theorem k_Model_firstBeat_24 : decode Y_Model_firstBeat.2.1 24 = .ok (.goto (-20), 3) := by decide +kernel
theorem k_Model_firstBeat_27 : decode Y_Model_firstBeat.2.1 27 = .ok (.iload_n 2, 1) := by decide +kernel
theorem k_Model_firstBeat_28 : decode Y_Model_firstBeat.2.1 28 = .ok (.ireturn, 1) := by decide +kernel
theorem k_Model_beats_0 : decode Y_Model_beats.2.1 0 = .ok (.aload_n 0, 1) := by decide +kernel
theorem k_Model_beats_1 : decode Y_Model_beats.2.1 1 = .ok (.aload_n 0, 1) := by decide +kernel
theorem k_Model_beats_2 : decode Y_Model_beats.2.1 2 = .ok (.getfield 13, 3) := by decide +kernel
theorem k_Model_beats_5 : decode Y_Model_beats.2.1 5 = .ok (.iconst 0, 1) := by decide +kernel
theorem k_Model_beats_6 : decode Y_Model_beats.2.1 6 = .ok (.iaload, 1) := by decide +kernel
theorem k_Model_beats_7 : decode Y_Model_beats.2.1 7 = .ok (.invokevirtual 91, 3) := by decide +kernel
theorem k_Model_beats_10 : decode Y_Model_beats.2.1 10 = .ok (.ireturn, 1) := by decide +kernel
theorem k_Model_plain_0 : decode Y_Model_plain.2.1 0 = .ok (.iconst 0, 1) := by decide +kernel
theorem k_Model_plain_1 : decode Y_Model_plain.2.1 1 = .ok (.istore_n 2, 1) := by decide +kernel
theorem k_Model_plain_2 : decode Y_Model_plain.2.1 2 = .ok (.aload_n 0, 1) := by decide +kernel
theorem k_Model_plain_3 : decode Y_Model_plain.2.1 3 = .ok (.getfield 13, 3) := by decide +kernel
theorem k_Model_plain_6 : decode Y_Model_plain.2.1 6 = .ok (.bipush 30, 2) := by decide +kernel
theorem k_Model_plain_8 : decode Y_Model_plain.2.1 8 = .ok (.iaload, 1) := by decide +kernel
theorem k_Model_plain_9 : decode Y_Model_plain.2.1 9 = .ok (.istore_n 3, 1) := by decide +kernel
theorem k_Model_plain_10 : decode Y_Model_plain.2.1 10 = .ok (.iload_n 1, 1) := by decide +kernel
theorem k_Model_plain_11 : decode Y_Model_plain.2.1 11 = .ok (.iload_n 3, 1) := by decide +kernel
theorem k_Model_plain_12 : decode Y_Model_plain.2.1 12 = .ok (.if_icmp .lt 21, 3) := by decide +kernel
theorem k_Model_plain_15 : decode Y_Model_plain.2.1 15 = .ok (.iinc 2 1, 3) := by decide +kernel
theorem k_Model_plain_18 : decode Y_Model_plain.2.1 18 = .ok (.iload_n 3, 1) := by decide +kernel
theorem k_Model_plain_19 : decode Y_Model_plain.2.1 19 = .ok (.aload_n 0, 1) := by decide +kernel
theorem k_Model_plain_20 : decode Y_Model_plain.2.1 20 = .ok (.getfield 13, 3) := by decide +kernel
theorem k_Model_plain_23 : decode Y_Model_plain.2.1 23 = .ok (.bipush 30, 2) := by decide +kernel
theorem k_Model_plain_25 : decode Y_Model_plain.2.1 25 = .ok (.iload_n 2, 1) := by decide +kernel
theorem k_Model_plain_26 : decode Y_Model_plain.2.1 26 = .ok (.iadd, 1) := by decide +kernel
theorem k_Model_plain_27 : decode Y_Model_plain.2.1 27 = .ok (.iaload, 1) := by decide +kernel
theorem k_Model_plain_28 : decode Y_Model_plain.2.1 28 = .ok (.iadd, 1) := by decide +kernel
theorem k_Model_plain_29 : decode Y_Model_plain.2.1 29 = .ok (.istore_n 3, 1) := by decide +kernel
theorem k_Model_plain_30 : decode Y_Model_plain.2.1 30 = .ok (.goto (-20), 3) := by decide +kernel
theorem k_Model_plain_33 : decode Y_Model_plain.2.1 33 = .ok (.aload_n 0, 1) := by decide +kernel
theorem k_Model_plain_34 : decode Y_Model_plain.2.1 34 = .ok (.getfield 13, 3) := by decide +kernel
theorem k_Model_plain_37 : decode Y_Model_plain.2.1 37 = .ok (.bipush 10, 2) := by decide +kernel
theorem k_Model_plain_39 : decode Y_Model_plain.2.1 39 = .ok (.iload_n 2, 1) := by decide +kernel
theorem k_Model_plain_40 : decode Y_Model_plain.2.1 40 = .ok (.iadd, 1) := by decide +kernel
theorem k_Model_plain_41 : decode Y_Model_plain.2.1 41 = .ok (.iaload, 1) := by decide +kernel
theorem k_Model_plain_42 : decode Y_Model_plain.2.1 42 = .ok (.ireturn, 1) := by decide +kernel
theorem k_Model_roundOf_0 : decode Y_Model_roundOf.2.1 0 = .ok (.iload_n 1, 1) := by decide +kernel
theorem k_Model_roundOf_1 : decode Y_Model_roundOf.2.1 1 = .ok (.iconst 3, 1) := by decide +kernel
theorem k_Model_roundOf_2 : decode Y_Model_roundOf.2.1 2 = .ok (.if_icmp .ne 12, 3) := by decide +kernel
theorem k_Model_roundOf_5 : decode Y_Model_roundOf.2.1 5 = .ok (.iconst 2, 1) := by decide +kernel
theorem k_Model_roundOf_6 : decode Y_Model_roundOf.2.1 6 = .ok (.aload_n 0, 1) := by decide +kernel
theorem k_Model_roundOf_7 : decode Y_Model_roundOf.2.1 7 = .ok (.invokevirtual 94, 3) := by decide +kernel
theorem k_Model_roundOf_10 : decode Y_Model_roundOf.2.1 10 = .ok (.imul, 1) := by decide +kernel
theorem k_Model_roundOf_11 : decode Y_Model_roundOf.2.1 11 = .ok (.goto 7, 3) := by decide +kernel
theorem k_Model_roundOf_14 : decode Y_Model_roundOf.2.1 14 = .ok (.aload_n 0, 1) := by decide +kernel
theorem k_Model_roundOf_15 : decode Y_Model_roundOf.2.1 15 = .ok (.invokevirtual 94, 3) := by decide +kernel
theorem k_Model_roundOf_18 : decode Y_Model_roundOf.2.1 18 = .ok (.ireturn, 1) := by decide +kernel
theorem k_Model_said_0 : decode Y_Model_said.2.1 0 = .ok (.iload_n 1, 1) := by decide +kernel
theorem k_Model_said_1 : decode Y_Model_said.2.1 1 = .ok (.iconst 1, 1) := by decide +kernel
theorem k_Model_said_2 : decode Y_Model_said.2.1 2 = .ok (.if_icmp .eq 8, 3) := by decide +kernel
theorem k_Model_said_5 : decode Y_Model_said.2.1 5 = .ok (.iload_n 1, 1) := by decide +kernel
theorem k_Model_said_6 : decode Y_Model_said.2.1 6 = .ok (.iconst 5, 1) := by decide +kernel
theorem k_Model_said_7 : decode Y_Model_said.2.1 7 = .ok (.if_icmp .ne 14, 3) := by decide +kernel
theorem k_Model_said_10 : decode Y_Model_said.2.1 10 = .ok (.aload_n 0, 1) := by decide +kernel
theorem k_Model_said_11 : decode Y_Model_said.2.1 11 = .ok (.invokevirtual 94, 3) := by decide +kernel
theorem k_Model_said_14 : decode Y_Model_said.2.1 14 = .ok (.iconst 1, 1) := by decide +kernel
theorem k_Model_said_15 : decode Y_Model_said.2.1 15 = .ok (.isub, 1) := by decide +kernel
theorem k_Model_said_16 : decode Y_Model_said.2.1 16 = .ok (.iload_n 2, 1) := by decide +kernel
theorem k_Model_said_17 : decode Y_Model_said.2.1 17 = .ok (.isub, 1) := by decide +kernel
theorem k_Model_said_18 : decode Y_Model_said.2.1 18 = .ok (.goto 15, 3) := by decide +kernel
theorem k_Model_said_21 : decode Y_Model_said.2.1 21 = .ok (.iload_n 1, 1) := by decide +kernel
theorem k_Model_said_22 : decode Y_Model_said.2.1 22 = .ok (.iconst 3, 1) := by decide +kernel
theorem k_Model_said_23 : decode Y_Model_said.2.1 23 = .ok (.if_icmp .ne 9, 3) := by decide +kernel
theorem k_Model_said_26 : decode Y_Model_said.2.1 26 = .ok (.iload_n 2, 1) := by decide +kernel
theorem k_Model_said_27 : decode Y_Model_said.2.1 27 = .ok (.iconst 2, 1) := by decide +kernel
theorem k_Model_said_28 : decode Y_Model_said.2.1 28 = .ok (.idiv, 1) := by decide +kernel
theorem k_Model_said_29 : decode Y_Model_said.2.1 29 = .ok (.goto 4, 3) := by decide +kernel
theorem k_Model_said_32 : decode Y_Model_said.2.1 32 = .ok (.iload_n 2, 1) := by decide +kernel
theorem k_Model_said_33 : decode Y_Model_said.2.1 33 = .ok (.istore_n 3, 1) := by decide +kernel
theorem k_Model_said_34 : decode Y_Model_said.2.1 34 = .ok (.aload_n 0, 1) := by decide +kernel
theorem k_Model_said_35 : decode Y_Model_said.2.1 35 = .ok (.iload_n 3, 1) := by decide +kernel
theorem k_Model_said_36 : decode Y_Model_said.2.1 36 = .ok (.invokevirtual 97, 3) := by decide +kernel
theorem k_Model_said_39 : decode Y_Model_said.2.1 39 = .ok (.istore 4, 2) := by decide +kernel
theorem k_Model_said_41 : decode Y_Model_said.2.1 41 = .ok (.iload_n 1, 1) := by decide +kernel
theorem k_Model_said_42 : decode Y_Model_said.2.1 42 = .ok (.iconst 2, 1) := by decide +kernel
theorem k_Model_said_43 : decode Y_Model_said.2.1 43 = .ok (.if_icmp .eq 8, 3) := by decide +kernel
theorem k_Model_said_46 : decode Y_Model_said.2.1 46 = .ok (.iload_n 1, 1) := by decide +kernel
theorem k_Model_said_47 : decode Y_Model_said.2.1 47 = .ok (.iconst 5, 1) := by decide +kernel
theorem k_Model_said_48 : decode Y_Model_said.2.1 48 = .ok (.if_icmp .ne 18, 3) := by decide +kernel
theorem k_Model_said_51 : decode Y_Model_said.2.1 51 = .ok (.iconst 2, 1) := by decide +kernel
theorem k_Model_said_52 : decode Y_Model_said.2.1 52 = .ok (.aload_n 0, 1) := by decide +kernel
theorem k_Model_said_53 : decode Y_Model_said.2.1 53 = .ok (.getfield 13, 3) := by decide +kernel
theorem k_Model_said_56 : decode Y_Model_said.2.1 56 = .ok (.bipush 10, 2) := by decide +kernel
theorem k_Model_said_58 : decode Y_Model_said.2.1 58 = .ok (.iaload, 1) := by decide +kernel
theorem k_Model_said_59 : decode Y_Model_said.2.1 59 = .ok (.imul, 1) := by decide +kernel
theorem k_Model_said_60 : decode Y_Model_said.2.1 60 = .ok (.iload 4, 2) := by decide +kernel
theorem k_Model_said_62 : decode Y_Model_said.2.1 62 = .ok (.isub, 1) := by decide +kernel
theorem k_Model_said_63 : decode Y_Model_said.2.1 63 = .ok (.goto 17, 3) := by decide +kernel
theorem k_Model_said_66 : decode Y_Model_said.2.1 66 = .ok (.iload_n 1, 1) := by decide +kernel
theorem k_Model_said_67 : decode Y_Model_said.2.1 67 = .ok (.iconst 4, 1) := by decide +kernel
theorem k_Model_said_68 : decode Y_Model_said.2.1 68 = .ok (.if_icmp .ne 10, 3) := by decide +kernel
theorem k_Model_said_71 : decode Y_Model_said.2.1 71 = .ok (.iload 4, 2) := by decide +kernel
theorem k_Model_said_73 : decode Y_Model_said.2.1 73 = .ok (.iconst 4, 1) := by decide +kernel
theorem k_Model_said_74 : decode Y_Model_said.2.1 74 = .ok (.iadd, 1) := by decide +kernel
theorem k_Model_said_75 : decode Y_Model_said.2.1 75 = .ok (.goto 5, 3) := by decide +kernel
theorem k_Model_said_78 : decode Y_Model_said.2.1 78 = .ok (.iload 4, 2) := by decide +kernel
theorem k_Model_said_80 : decode Y_Model_said.2.1 80 = .ok (.ireturn, 1) := by decide +kernel
theorem k_Model_soundOf_0 : decode Y_Model_soundOf.2.1 0 = .ok (.aload_n 0, 1) := by decide +kernel
theorem k_Model_soundOf_1 : decode Y_Model_soundOf.2.1 1 = .ok (.iload_n 1, 1) := by decide +kernel
theorem k_Model_soundOf_2 : decode Y_Model_soundOf.2.1 2 = .ok (.invokevirtual 100, 3) := by decide +kernel
theorem k_Model_soundOf_5 : decode Y_Model_soundOf.2.1 5 = .ok (.istore 5, 2) := by decide +kernel
theorem k_Model_soundOf_7 : decode Y_Model_soundOf.2.1 7 = .ok (.iload 5, 2) := by decide +kernel
theorem k_Model_soundOf_9 : decode Y_Model_soundOf.2.1 9 = .ok (.ifCond .eq 25, 3) := by decide +kernel
theorem k_Model_soundOf_12 : decode Y_Model_soundOf.2.1 12 = .ok (.iload 4, 2) := by decide +kernel
theorem k_Model_soundOf_14 : decode Y_Model_soundOf.2.1 14 = .ok (.iload_n 2, 1) := by decide +kernel
theorem k_Model_soundOf_15 : decode Y_Model_soundOf.2.1 15 = .ok (.if_icmp .lt 19, 3) := by decide +kernel
theorem k_Model_soundOf_18 : decode Y_Model_soundOf.2.1 18 = .ok (.iload 4, 2) := by decide +kernel
theorem k_Model_soundOf_20 : decode Y_Model_soundOf.2.1 20 = .ok (.iload_n 2, 1) := by decide +kernel
theorem k_Model_soundOf_21 : decode Y_Model_soundOf.2.1 21 = .ok (.aload_n 0, 1) := by decide +kernel
theorem k_Model_soundOf_22 : decode Y_Model_soundOf.2.1 22 = .ok (.getfield 13, 3) := by decide +kernel
theorem k_Model_soundOf_25 : decode Y_Model_soundOf.2.1 25 = .ok (.iconst 2, 1) := by decide +kernel
theorem k_Model_soundOf_26 : decode Y_Model_soundOf.2.1 26 = .ok (.iaload, 1) := by decide +kernel
theorem k_Model_soundOf_27 : decode Y_Model_soundOf.2.1 27 = .ok (.iload 5, 2) := by decide +kernel
theorem k_Model_soundOf_29 : decode Y_Model_soundOf.2.1 29 = .ok (.imul, 1) := by decide +kernel
theorem k_Model_soundOf_30 : decode Y_Model_soundOf.2.1 30 = .ok (.iadd, 1) := by decide +kernel
theorem k_Model_soundOf_31 : decode Y_Model_soundOf.2.1 31 = .ok (.if_icmp .lt 7, 3) := by decide +kernel
theorem k_Model_soundOf_34 : decode Y_Model_soundOf.2.1 34 = .ok (.sipush 999, 3) := by decide +kernel
theorem k_Model_soundOf_37 : decode Y_Model_soundOf.2.1 37 = .ok (.ireturn, 1) := by decide +kernel
theorem k_Model_soundOf_38 : decode Y_Model_soundOf.2.1 38 = .ok (.aload_n 0, 1) := by decide +kernel
theorem k_Model_soundOf_39 : decode Y_Model_soundOf.2.1 39 = .ok (.iload_n 1, 1) := by decide +kernel
theorem k_Model_soundOf_40 : decode Y_Model_soundOf.2.1 40 = .ok (.iload 4, 2) := by decide +kernel
theorem k_Model_soundOf_42 : decode Y_Model_soundOf.2.1 42 = .ok (.iload_n 2, 1) := by decide +kernel
theorem k_Model_soundOf_43 : decode Y_Model_soundOf.2.1 43 = .ok (.isub, 1) := by decide +kernel
theorem k_Model_soundOf_44 : decode Y_Model_soundOf.2.1 44 = .ok (.iload 5, 2) := by decide +kernel
theorem k_Model_soundOf_46 : decode Y_Model_soundOf.2.1 46 = .ok (.irem, 1) := by decide +kernel
theorem k_Model_soundOf_47 : decode Y_Model_soundOf.2.1 47 = .ok (.invokevirtual 103, 3) := by decide +kernel
theorem k_Model_soundOf_50 : decode Y_Model_soundOf.2.1 50 = .ok (.iload_n 3, 1) := by decide +kernel
theorem k_Model_soundOf_51 : decode Y_Model_soundOf.2.1 51 = .ok (.iadd, 1) := by decide +kernel
theorem k_Model_soundOf_52 : decode Y_Model_soundOf.2.1 52 = .ok (.aload_n 0, 1) := by decide +kernel
theorem k_Model_soundOf_53 : decode Y_Model_soundOf.2.1 53 = .ok (.getfield 13, 3) := by decide +kernel
theorem k_Model_soundOf_56 : decode Y_Model_soundOf.2.1 56 = .ok (.iconst 3, 1) := by decide +kernel
theorem k_Model_soundOf_57 : decode Y_Model_soundOf.2.1 57 = .ok (.iaload, 1) := by decide +kernel
theorem k_Model_soundOf_58 : decode Y_Model_soundOf.2.1 58 = .ok (.iload 4, 2) := by decide +kernel
theorem k_Model_soundOf_60 : decode Y_Model_soundOf.2.1 60 = .ok (.iload_n 2, 1) := by decide +kernel
theorem k_Model_soundOf_61 : decode Y_Model_soundOf.2.1 61 = .ok (.isub, 1) := by decide +kernel
theorem k_Model_soundOf_62 : decode Y_Model_soundOf.2.1 62 = .ok (.iload 5, 2) := by decide +kernel
theorem k_Model_soundOf_64 : decode Y_Model_soundOf.2.1 64 = .ok (.idiv, 1) := by decide +kernel
theorem k_Model_soundOf_65 : decode Y_Model_soundOf.2.1 65 = .ok (.imul, 1) := by decide +kernel
theorem k_Model_soundOf_66 : decode Y_Model_soundOf.2.1 66 = .ok (.iadd, 1) := by decide +kernel
theorem k_Model_soundOf_67 : decode Y_Model_soundOf.2.1 67 = .ok (.ireturn, 1) := by decide +kernel
theorem k_Model_soundAt_0 : decode Y_Model_soundAt.2.1 0 = .ok (.aload_n 0, 1) := by decide +kernel
theorem k_Model_soundAt_1 : decode Y_Model_soundAt.2.1 1 = .ok (.aload_n 0, 1) := by decide +kernel
theorem k_Model_soundAt_2 : decode Y_Model_soundAt.2.1 2 = .ok (.getfield 13, 3) := by decide +kernel
theorem k_Model_soundAt_5 : decode Y_Model_soundAt.2.1 5 = .ok (.bipush 50, 2) := by decide +kernel
theorem k_Model_soundAt_7 : decode Y_Model_soundAt.2.1 7 = .ok (.iload_n 1, 1) := by decide +kernel
theorem k_Model_soundAt_8 : decode Y_Model_soundAt.2.1 8 = .ok (.iadd, 1) := by decide +kernel
theorem k_Model_soundAt_9 : decode Y_Model_soundAt.2.1 9 = .ok (.iaload, 1) := by decide +kernel
theorem k_Model_soundAt_10 : decode Y_Model_soundAt.2.1 10 = .ok (.aload_n 0, 1) := by decide +kernel
theorem k_Model_soundAt_11 : decode Y_Model_soundAt.2.1 11 = .ok (.getfield 13, 3) := by decide +kernel
theorem k_Model_soundAt_14 : decode Y_Model_soundAt.2.1 14 = .ok (.bipush 60, 2) := by decide +kernel
theorem k_Model_soundAt_16 : decode Y_Model_soundAt.2.1 16 = .ok (.iload_n 1, 1) := by decide +kernel
theorem k_Model_soundAt_17 : decode Y_Model_soundAt.2.1 17 = .ok (.iadd, 1) := by decide +kernel
theorem k_Model_soundAt_18 : decode Y_Model_soundAt.2.1 18 = .ok (.iaload, 1) := by decide +kernel
theorem k_Model_soundAt_19 : decode Y_Model_soundAt.2.1 19 = .ok (.aload_n 0, 1) := by decide +kernel
theorem k_Model_soundAt_20 : decode Y_Model_soundAt.2.1 20 = .ok (.getfield 13, 3) := by decide +kernel
theorem k_Model_soundAt_23 : decode Y_Model_soundAt.2.1 23 = .ok (.bipush 70, 2) := by decide +kernel
theorem k_Model_soundAt_25 : decode Y_Model_soundAt.2.1 25 = .ok (.iload_n 1, 1) := by decide +kernel
theorem k_Model_soundAt_26 : decode Y_Model_soundAt.2.1 26 = .ok (.iadd, 1) := by decide +kernel
theorem k_Model_soundAt_27 : decode Y_Model_soundAt.2.1 27 = .ok (.iaload, 1) := by decide +kernel
theorem k_Model_soundAt_28 : decode Y_Model_soundAt.2.1 28 = .ok (.iload_n 2, 1) := by decide +kernel
theorem k_Model_soundAt_29 : decode Y_Model_soundAt.2.1 29 = .ok (.invokevirtual 107, 3) := by decide +kernel
theorem k_Model_soundAt_32 : decode Y_Model_soundAt.2.1 32 = .ok (.ireturn, 1) := by decide +kernel
theorem k_Model_endOf_0 : decode Y_Model_endOf.2.1 0 = .ok (.aload_n 0, 1) := by decide +kernel
theorem k_Model_endOf_1 : decode Y_Model_endOf.2.1 1 = .ok (.getfield 13, 3) := by decide +kernel
theorem k_Model_endOf_4 : decode Y_Model_endOf.2.1 4 = .ok (.bipush 60, 2) := by decide +kernel
theorem k_Model_endOf_6 : decode Y_Model_endOf.2.1 6 = .ok (.iload_n 1, 1) := by decide +kernel
theorem k_Model_endOf_7 : decode Y_Model_endOf.2.1 7 = .ok (.iadd, 1) := by decide +kernel
theorem k_Model_endOf_8 : decode Y_Model_endOf.2.1 8 = .ok (.iaload, 1) := by decide +kernel
theorem k_Model_endOf_9 : decode Y_Model_endOf.2.1 9 = .ok (.aload_n 0, 1) := by decide +kernel
theorem k_Model_endOf_10 : decode Y_Model_endOf.2.1 10 = .ok (.getfield 13, 3) := by decide +kernel
theorem k_Model_endOf_13 : decode Y_Model_endOf.2.1 13 = .ok (.iconst 2, 1) := by decide +kernel
theorem k_Model_endOf_14 : decode Y_Model_endOf.2.1 14 = .ok (.iaload, 1) := by decide +kernel
theorem k_Model_endOf_15 : decode Y_Model_endOf.2.1 15 = .ok (.aload_n 0, 1) := by decide +kernel
theorem k_Model_endOf_16 : decode Y_Model_endOf.2.1 16 = .ok (.aload_n 0, 1) := by decide +kernel
theorem k_Model_endOf_17 : decode Y_Model_endOf.2.1 17 = .ok (.getfield 13, 3) := by decide +kernel
theorem k_Model_endOf_20 : decode Y_Model_endOf.2.1 20 = .ok (.bipush 50, 2) := by decide +kernel
theorem k_Model_endOf_22 : decode Y_Model_endOf.2.1 22 = .ok (.iload_n 1, 1) := by decide +kernel
theorem k_Model_endOf_23 : decode Y_Model_endOf.2.1 23 = .ok (.iadd, 1) := by decide +kernel
theorem k_Model_endOf_24 : decode Y_Model_endOf.2.1 24 = .ok (.iaload, 1) := by decide +kernel
theorem k_Model_endOf_25 : decode Y_Model_endOf.2.1 25 = .ok (.invokevirtual 100, 3) := by decide +kernel
theorem k_Model_endOf_28 : decode Y_Model_endOf.2.1 28 = .ok (.imul, 1) := by decide +kernel
theorem k_Model_endOf_29 : decode Y_Model_endOf.2.1 29 = .ok (.iadd, 1) := by decide +kernel
theorem k_Model_endOf_30 : decode Y_Model_endOf.2.1 30 = .ok (.ireturn, 1) := by decide +kernel
theorem k_Model_end_0 : decode Y_Model_end.2.1 0 = .ok (.iconst 0, 1) := by decide +kernel
theorem k_Model_end_1 : decode Y_Model_end.2.1 1 = .ok (.istore_n 1, 1) := by decide +kernel
theorem k_Model_end_2 : decode Y_Model_end.2.1 2 = .ok (.iconst 0, 1) := by decide +kernel
theorem k_Model_end_3 : decode Y_Model_end.2.1 3 = .ok (.istore_n 2, 1) := by decide +kernel
theorem k_Model_end_4 : decode Y_Model_end.2.1 4 = .ok (.iload_n 2, 1) := by decide +kernel
theorem k_Model_end_5 : decode Y_Model_end.2.1 5 = .ok (.aload_n 0, 1) := by decide +kernel
theorem k_Model_end_6 : decode Y_Model_end.2.1 6 = .ok (.getfield 13, 3) := by decide +kernel
theorem k_Model_end_9 : decode Y_Model_end.2.1 9 = .ok (.iconst 1, 1) := by decide +kernel
theorem k_Model_end_10 : decode Y_Model_end.2.1 10 = .ok (.iaload, 1) := by decide +kernel
theorem k_Model_end_11 : decode Y_Model_end.2.1 11 = .ok (.if_icmp .ge 28, 3) := by decide +kernel
theorem k_Model_end_14 : decode Y_Model_end.2.1 14 = .ok (.aload_n 0, 1) := by decide +kernel
theorem k_Model_end_15 : decode Y_Model_end.2.1 15 = .ok (.getfield 13, 3) := by decide +kernel
theorem k_Model_end_18 : decode Y_Model_end.2.1 18 = .ok (.iconst 0, 1) := by decide +kernel
theorem k_Model_end_19 : decode Y_Model_end.2.1 19 = .ok (.iaload, 1) := by decide +kernel
theorem k_Model_end_20 : decode Y_Model_end.2.1 20 = .ok (.ifCond .le 19, 3) := by decide +kernel
theorem k_Model_end_23 : decode Y_Model_end.2.1 23 = .ok (.iload_n 1, 1) := by decide +kernel
theorem k_Model_end_24 : decode Y_Model_end.2.1 24 = .ok (.aload_n 0, 1) := by decide +kernel
theorem k_Model_end_25 : decode Y_Model_end.2.1 25 = .ok (.iload_n 2, 1) := by decide +kernel
theorem k_Model_end_26 : decode Y_Model_end.2.1 26 = .ok (.invokevirtual 111, 3) := by decide +kernel
theorem k_Model_end_29 : decode Y_Model_end.2.1 29 = .ok (.invokestatic 114, 3) := by decide +kernel
theorem k_Model_end_32 : decode Y_Model_end.2.1 32 = .ok (.istore_n 1, 1) := by decide +kernel
theorem k_Model_end_33 : decode Y_Model_end.2.1 33 = .ok (.iinc 2 1, 3) := by decide +kernel
theorem k_Model_end_36 : decode Y_Model_end.2.1 36 = .ok (.goto (-32), 3) := by decide +kernel
theorem k_Model_end_39 : decode Y_Model_end.2.1 39 = .ok (.iload_n 1, 1) := by decide +kernel
theorem k_Model_end_40 : decode Y_Model_end.2.1 40 = .ok (.ireturn, 1) := by decide +kernel
theorem k_Model_agree_0 : decode Y_Model_agree.2.1 0 = .ok (.iload_n 1, 1) := by decide +kernel
theorem k_Model_agree_1 : decode Y_Model_agree.2.1 1 = .ok (.sipush 999, 3) := by decide +kernel
theorem k_Model_agree_4 : decode Y_Model_agree.2.1 4 = .ok (.if_icmp .eq 32, 3) := by decide +kernel
theorem k_Model_agree_7 : decode Y_Model_agree.2.1 7 = .ok (.iload_n 2, 1) := by decide +kernel
theorem k_Model_agree_8 : decode Y_Model_agree.2.1 8 = .ok (.sipush 999, 3) := by decide +kernel
theorem k_Model_agree_11 : decode Y_Model_agree.2.1 11 = .ok (.if_icmp .eq 25, 3) := by decide +kernel
theorem k_Model_agree_14 : decode Y_Model_agree.2.1 14 = .ok (.aload_n 0, 1) := by decide +kernel
theorem k_Model_agree_15 : decode Y_Model_agree.2.1 15 = .ok (.getfield 13, 3) := by decide +kernel
theorem k_Model_agree_18 : decode Y_Model_agree.2.1 18 = .ok (.iconst 4, 1) := by decide +kernel
theorem k_Model_agree_19 : decode Y_Model_agree.2.1 19 = .ok (.iaload, 1) := by decide +kernel
theorem k_Model_agree_20 : decode Y_Model_agree.2.1 20 = .ok (.iload_n 1, 1) := by decide +kernel
theorem k_Model_agree_21 : decode Y_Model_agree.2.1 21 = .ok (.iload_n 2, 1) := by decide +kernel
theorem k_Model_agree_22 : decode Y_Model_agree.2.1 22 = .ok (.isub, 1) := by decide +kernel
theorem k_Model_agree_23 : decode Y_Model_agree.2.1 23 = .ok (.invokestatic 119, 3) := by decide +kernel
theorem k_Model_agree_26 : decode Y_Model_agree.2.1 26 = .ok (.bipush 7, 2) := by decide +kernel
theorem k_Model_agree_28 : decode Y_Model_agree.2.1 28 = .ok (.irem, 1) := by decide +kernel
theorem k_Model_agree_29 : decode Y_Model_agree.2.1 29 = .ok (.ishr, 1) := by decide +kernel
theorem k_Model_agree_30 : decode Y_Model_agree.2.1 30 = .ok (.iconst 1, 1) := by decide +kernel
theorem k_Model_agree_31 : decode Y_Model_agree.2.1 31 = .ok (.iand, 1) := by decide +kernel
theorem k_Model_agree_32 : decode Y_Model_agree.2.1 32 = .ok (.iconst 1, 1) := by decide +kernel
theorem k_Model_agree_33 : decode Y_Model_agree.2.1 33 = .ok (.if_icmp .ne 7, 3) := by decide +kernel
theorem k_Model_agree_36 : decode Y_Model_agree.2.1 36 = .ok (.iconst 1, 1) := by decide +kernel
theorem k_Model_agree_37 : decode Y_Model_agree.2.1 37 = .ok (.goto 4, 3) := by decide +kernel
theorem k_Model_agree_40 : decode Y_Model_agree.2.1 40 = .ok (.iconst 0, 1) := by decide +kernel
theorem k_Model_agree_41 : decode Y_Model_agree.2.1 41 = .ok (.ireturn, 1) := by decide +kernel
theorem k_Model_illAt_0 : decode Y_Model_illAt.2.1 0 = .ok (.iconst 0, 1) := by decide +kernel
theorem k_Model_illAt_1 : decode Y_Model_illAt.2.1 1 = .ok (.istore_n 3, 1) := by decide +kernel
theorem k_Model_illAt_2 : decode Y_Model_illAt.2.1 2 = .ok (.aload_n 0, 1) := by decide +kernel
theorem k_Model_illAt_3 : decode Y_Model_illAt.2.1 3 = .ok (.bipush (-9), 2) := by decide +kernel
theorem k_Model_illAt_5 : decode Y_Model_illAt.2.1 5 = .ok (.putfield 122, 3) := by decide +kernel
theorem k_Model_illAt_8 : decode Y_Model_illAt.2.1 8 = .ok (.iconst 0, 1) := by decide +kernel
theorem k_Model_illAt_9 : decode Y_Model_illAt.2.1 9 = .ok (.istore 4, 2) := by decide +kernel
theorem k_Model_illAt_11 : decode Y_Model_illAt.2.1 11 = .ok (.iload 4, 2) := by decide +kernel
theorem k_Model_illAt_13 : decode Y_Model_illAt.2.1 13 = .ok (.aload_n 0, 1) := by decide +kernel
theorem k_Model_illAt_14 : decode Y_Model_illAt.2.1 14 = .ok (.getfield 13, 3) := by decide +kernel
theorem k_Model_illAt_17 : decode Y_Model_illAt.2.1 17 = .ok (.iconst 1, 1) := by decide +kernel
theorem k_Model_illAt_18 : decode Y_Model_illAt.2.1 18 = .ok (.iaload, 1) := by decide +kernel
theorem k_Model_illAt_19 : decode Y_Model_illAt.2.1 19 = .ok (.if_icmp .ge 35, 3) := by decide +kernel
theorem k_Model_illAt_22 : decode Y_Model_illAt.2.1 22 = .ok (.aload_n 0, 1) := by decide +kernel
theorem k_Model_illAt_23 : decode Y_Model_illAt.2.1 23 = .ok (.getfield 35, 3) := by decide +kernel
theorem k_Model_illAt_26 : decode Y_Model_illAt.2.1 26 = .ok (.iload 4, 2) := by decide +kernel
theorem k_Model_illAt_28 : decode Y_Model_illAt.2.1 28 = .ok (.iload 4, 2) := by decide +kernel
theorem k_Model_illAt_30 : decode Y_Model_illAt.2.1 30 = .ok (.iload_n 2, 1) := by decide +kernel
theorem k_Model_illAt_31 : decode Y_Model_illAt.2.1 31 = .ok (.if_icmp .ne 9, 3) := by decide +kernel
theorem k_Model_illAt_34 : decode Y_Model_illAt.2.1 34 = .ok (.sipush 999, 3) := by decide +kernel
theorem k_Model_illAt_37 : decode Y_Model_illAt.2.1 37 = .ok (.goto 10, 3) := by decide +kernel
theorem k_Model_illAt_40 : decode Y_Model_illAt.2.1 40 = .ok (.aload_n 0, 1) := by decide +kernel
theorem k_Model_illAt_41 : decode Y_Model_illAt.2.1 41 = .ok (.iload 4, 2) := by decide +kernel
theorem k_Model_illAt_43 : decode Y_Model_illAt.2.1 43 = .ok (.iload_n 1, 1) := by decide +kernel
theorem k_Model_illAt_44 : decode Y_Model_illAt.2.1 44 = .ok (.invokevirtual 125, 3) := by decide +kernel
theorem k_Model_illAt_47 : decode Y_Model_illAt.2.1 47 = .ok (.iastore, 1) := by decide +kernel
theorem k_Model_illAt_48 : decode Y_Model_illAt.2.1 48 = .ok (.iinc 4 1, 3) := by decide +kernel
theorem k_Model_illAt_51 : decode Y_Model_illAt.2.1 51 = .ok (.goto (-40), 3) := by decide +kernel
theorem k_Model_illAt_54 : decode Y_Model_illAt.2.1 54 = .ok (.iconst 0, 1) := by decide +kernel
theorem k_Model_illAt_55 : decode Y_Model_illAt.2.1 55 = .ok (.istore 4, 2) := by decide +kernel
theorem k_Model_illAt_57 : decode Y_Model_illAt.2.1 57 = .ok (.iload 4, 2) := by decide +kernel
theorem k_Model_illAt_59 : decode Y_Model_illAt.2.1 59 = .ok (.aload_n 0, 1) := by decide +kernel
theorem k_Model_illAt_60 : decode Y_Model_illAt.2.1 60 = .ok (.getfield 13, 3) := by decide +kernel
theorem k_Model_illAt_63 : decode Y_Model_illAt.2.1 63 = .ok (.iconst 1, 1) := by decide +kernel
theorem k_Model_illAt_64 : decode Y_Model_illAt.2.1 64 = .ok (.iaload, 1) := by decide +kernel
theorem k_Model_illAt_65 : decode Y_Model_illAt.2.1 65 = .ok (.if_icmp .ge 79, 3) := by decide +kernel
theorem k_Model_illAt_68 : decode Y_Model_illAt.2.1 68 = .ok (.iload 4, 2) := by decide +kernel
theorem k_Model_illAt_70 : decode Y_Model_illAt.2.1 70 = .ok (.iconst 1, 1) := by decide +kernel
theorem k_Model_illAt_71 : decode Y_Model_illAt.2.1 71 = .ok (.iadd, 1) := by decide +kernel
theorem k_Model_illAt_72 : decode Y_Model_illAt.2.1 72 = .ok (.istore 5, 2) := by decide +kernel
theorem k_Model_illAt_74 : decode Y_Model_illAt.2.1 74 = .ok (.iload 5, 2) := by decide +kernel
theorem k_Model_illAt_76 : decode Y_Model_illAt.2.1 76 = .ok (.aload_n 0, 1) := by decide +kernel
theorem k_Model_illAt_77 : decode Y_Model_illAt.2.1 77 = .ok (.getfield 13, 3) := by decide +kernel
theorem k_Model_illAt_80 : decode Y_Model_illAt.2.1 80 = .ok (.iconst 1, 1) := by decide +kernel
theorem k_Model_illAt_81 : decode Y_Model_illAt.2.1 81 = .ok (.iaload, 1) := by decide +kernel
theorem k_Model_illAt_82 : decode Y_Model_illAt.2.1 82 = .ok (.if_icmp .ge 56, 3) := by decide +kernel
theorem k_Model_illAt_85 : decode Y_Model_illAt.2.1 85 = .ok (.aload_n 0, 1) := by decide +kernel
theorem k_Model_illAt_86 : decode Y_Model_illAt.2.1 86 = .ok (.aload_n 0, 1) := by decide +kernel
theorem k_Model_illAt_87 : decode Y_Model_illAt.2.1 87 = .ok (.getfield 35, 3) := by decide +kernel
theorem k_Model_illAt_90 : decode Y_Model_illAt.2.1 90 = .ok (.iload 4, 2) := by decide +kernel
theorem k_Model_illAt_92 : decode Y_Model_illAt.2.1 92 = .ok (.iaload, 1) := by decide +kernel
theorem k_Model_illAt_93 : decode Y_Model_illAt.2.1 93 = .ok (.aload_n 0, 1) := by decide +kernel
theorem k_Model_illAt_94 : decode Y_Model_illAt.2.1 94 = .ok (.getfield 35, 3) := by decide +kernel
theorem k_Model_illAt_97 : decode Y_Model_illAt.2.1 97 = .ok (.iload 5, 2) := by decide +kernel
theorem k_Model_illAt_99 : decode Y_Model_illAt.2.1 99 = .ok (.iaload, 1) := by decide +kernel
theorem k_Model_illAt_100 : decode Y_Model_illAt.2.1 100 = .ok (.invokevirtual 128, 3) := by decide +kernel
theorem k_Model_illAt_103 : decode Y_Model_illAt.2.1 103 = .ok (.ifCond .ne 29, 3) := by decide +kernel
theorem k_Model_illAt_106 : decode Y_Model_illAt.2.1 106 = .ok (.aload_n 0, 1) := by decide +kernel
theorem k_Model_illAt_107 : decode Y_Model_illAt.2.1 107 = .ok (.iload_n 3, 1) := by decide +kernel
theorem k_Model_illAt_108 : decode Y_Model_illAt.2.1 108 = .ok (.ifCond .ne 14, 3) := by decide +kernel
theorem k_Model_illAt_111 : decode Y_Model_illAt.2.1 111 = .ok (.bipush 10, 2) := by decide +kernel
theorem k_Model_illAt_113 : decode Y_Model_illAt.2.1 113 = .ok (.iload 4, 2) := by decide +kernel
theorem k_Model_illAt_115 : decode Y_Model_illAt.2.1 115 = .ok (.imul, 1) := by decide +kernel
theorem k_Model_illAt_116 : decode Y_Model_illAt.2.1 116 = .ok (.iload 5, 2) := by decide +kernel
theorem k_Model_illAt_118 : decode Y_Model_illAt.2.1 118 = .ok (.iadd, 1) := by decide +kernel
theorem k_Model_illAt_119 : decode Y_Model_illAt.2.1 119 = .ok (.goto 7, 3) := by decide +kernel
theorem k_Model_illAt_122 : decode Y_Model_illAt.2.1 122 = .ok (.aload_n 0, 1) := by decide +kernel
theorem k_Model_illAt_123 : decode Y_Model_illAt.2.1 123 = .ok (.getfield 122, 3) := by decide +kernel
theorem k_Model_illAt_126 : decode Y_Model_illAt.2.1 126 = .ok (.putfield 122, 3) := by decide +kernel
theorem k_Model_illAt_129 : decode Y_Model_illAt.2.1 129 = .ok (.iinc 3 1, 3) := by decide +kernel
theorem k_Model_illAt_132 : decode Y_Model_illAt.2.1 132 = .ok (.iinc 5 1, 3) := by decide +kernel
theorem k_Model_illAt_135 : decode Y_Model_illAt.2.1 135 = .ok (.goto (-61), 3) := by decide +kernel
theorem k_Model_illAt_138 : decode Y_Model_illAt.2.1 138 = .ok (.iinc 4 1, 3) := by decide +kernel
theorem k_Model_illAt_141 : decode Y_Model_illAt.2.1 141 = .ok (.goto (-84), 3) := by decide +kernel
theorem k_Model_illAt_144 : decode Y_Model_illAt.2.1 144 = .ok (.iload_n 3, 1) := by decide +kernel
theorem k_Model_illAt_145 : decode Y_Model_illAt.2.1 145 = .ok (.ireturn, 1) := by decide +kernel
theorem k_Model_illAll_0 : decode Y_Model_illAll.2.1 0 = .ok (.iconst 0, 1) := by decide +kernel
theorem k_Model_illAll_1 : decode Y_Model_illAll.2.1 1 = .ok (.istore_n 2, 1) := by decide +kernel
theorem k_Model_illAll_2 : decode Y_Model_illAll.2.1 2 = .ok (.aload_n 0, 1) := by decide +kernel
theorem k_Model_illAll_3 : decode Y_Model_illAll.2.1 3 = .ok (.invokevirtual 131, 3) := by decide +kernel
theorem k_Model_illAll_6 : decode Y_Model_illAll.2.1 6 = .ok (.istore_n 3, 1) := by decide +kernel
theorem k_Model_illAll_7 : decode Y_Model_illAll.2.1 7 = .ok (.iconst 0, 1) := by decide +kernel
theorem k_Model_illAll_8 : decode Y_Model_illAll.2.1 8 = .ok (.istore 4, 2) := by decide +kernel
theorem k_Model_illAll_10 : decode Y_Model_illAll.2.1 10 = .ok (.iload 4, 2) := by decide +kernel
theorem k_Model_illAll_12 : decode Y_Model_illAll.2.1 12 = .ok (.iload_n 3, 1) := by decide +kernel
theorem k_Model_illAll_13 : decode Y_Model_illAll.2.1 13 = .ok (.if_icmp .ge 19, 3) := by decide +kernel
theorem k_Model_illAll_16 : decode Y_Model_illAll.2.1 16 = .ok (.iload_n 2, 1) := by decide +kernel
theorem k_Model_illAll_17 : decode Y_Model_illAll.2.1 17 = .ok (.aload_n 0, 1) := by decide +kernel
theorem k_Model_illAll_18 : decode Y_Model_illAll.2.1 18 = .ok (.iload 4, 2) := by decide +kernel
theorem k_Model_illAll_20 : decode Y_Model_illAll.2.1 20 = .ok (.iload_n 1, 1) := by decide +kernel
theorem k_Model_illAll_21 : decode Y_Model_illAll.2.1 21 = .ok (.invokevirtual 134, 3) := by decide +kernel
theorem k_Model_illAll_24 : decode Y_Model_illAll.2.1 24 = .ok (.iadd, 1) := by decide +kernel
theorem k_Model_illAll_25 : decode Y_Model_illAll.2.1 25 = .ok (.istore_n 2, 1) := by decide +kernel
theorem k_Model_illAll_26 : decode Y_Model_illAll.2.1 26 = .ok (.iinc 4 1, 3) := by decide +kernel
theorem k_Model_illAll_29 : decode Y_Model_illAll.2.1 29 = .ok (.goto (-19), 3) := by decide +kernel
theorem k_Model_illAll_32 : decode Y_Model_illAll.2.1 32 = .ok (.iload_n 2, 1) := by decide +kernel
theorem k_Model_illAll_33 : decode Y_Model_illAll.2.1 33 = .ok (.ireturn, 1) := by decide +kernel
theorem k_Model_isWell_0 : decode Y_Model_isWell.2.1 0 = .ok (.aload_n 0, 1) := by decide +kernel
theorem k_Model_isWell_1 : decode Y_Model_isWell.2.1 1 = .ok (.invokevirtual 131, 3) := by decide +kernel
theorem k_Model_isWell_4 : decode Y_Model_isWell.2.1 4 = .ok (.istore_n 1, 1) := by decide +kernel
theorem k_Model_isWell_5 : decode Y_Model_isWell.2.1 5 = .ok (.iconst 0, 1) := by decide +kernel
theorem k_Model_isWell_6 : decode Y_Model_isWell.2.1 6 = .ok (.istore_n 2, 1) := by decide +kernel
theorem k_Model_isWell_7 : decode Y_Model_isWell.2.1 7 = .ok (.iload_n 2, 1) := by decide +kernel
theorem k_Model_isWell_8 : decode Y_Model_isWell.2.1 8 = .ok (.iload_n 1, 1) := by decide +kernel
theorem k_Model_isWell_9 : decode Y_Model_isWell.2.1 9 = .ok (.if_icmp .ge 21, 3) := by decide +kernel
theorem k_Model_isWell_12 : decode Y_Model_isWell.2.1 12 = .ok (.aload_n 0, 1) := by decide +kernel
theorem k_Model_isWell_13 : decode Y_Model_isWell.2.1 13 = .ok (.iload_n 2, 1) := by decide +kernel
theorem k_Model_isWell_14 : decode Y_Model_isWell.2.1 14 = .ok (.bipush (-9), 2) := by decide +kernel
theorem k_Model_isWell_16 : decode Y_Model_isWell.2.1 16 = .ok (.invokevirtual 134, 3) := by decide +kernel
theorem k_Model_isWell_19 : decode Y_Model_isWell.2.1 19 = .ok (.ifCond .le 5, 3) := by decide +kernel
theorem k_Model_isWell_22 : decode Y_Model_isWell.2.1 22 = .ok (.iconst 0, 1) := by decide +kernel
theorem k_Model_isWell_23 : decode Y_Model_isWell.2.1 23 = .ok (.ireturn, 1) := by decide +kernel
theorem k_Model_isWell_24 : decode Y_Model_isWell.2.1 24 = .ok (.iinc 2 1, 3) := by decide +kernel
theorem k_Model_isWell_27 : decode Y_Model_isWell.2.1 27 = .ok (.goto (-20), 3) := by decide +kernel
theorem k_Model_isWell_30 : decode Y_Model_isWell.2.1 30 = .ok (.iconst 1, 1) := by decide +kernel
theorem k_Model_isWell_31 : decode Y_Model_isWell.2.1 31 = .ok (.ireturn, 1) := by decide +kernel
theorem k_Model_isNoNote_0 : decode Y_Model_isNoNote.2.1 0 = .ok (.iload_n 1, 1) := by decide +kernel
theorem k_Model_isNoNote_1 : decode Y_Model_isNoNote.2.1 1 = .ok (.ifCond .lt 13, 3) := by decide +kernel
theorem k_Model_isNoNote_4 : decode Y_Model_isNoNote.2.1 4 = .ok (.iload_n 1, 1) := by decide +kernel
theorem k_Model_isNoNote_5 : decode Y_Model_isNoNote.2.1 5 = .ok (.aload_n 0, 1) := by decide +kernel
theorem k_Model_isNoNote_6 : decode Y_Model_isNoNote.2.1 6 = .ok (.getfield 13, 3) := by decide +kernel
theorem k_Model_isNoNote_9 : decode Y_Model_isNoNote.2.1 9 = .ok (.iconst 0, 1) := by decide +kernel
theorem k_Model_isNoNote_10 : decode Y_Model_isNoNote.2.1 10 = .ok (.iaload, 1) := by decide +kernel
theorem k_Model_isNoNote_11 : decode Y_Model_isNoNote.2.1 11 = .ok (.if_icmp .lt 7, 3) := by decide +kernel
theorem k_Model_isNoNote_14 : decode Y_Model_isNoNote.2.1 14 = .ok (.iconst 1, 1) := by decide +kernel
theorem k_Model_isNoNote_15 : decode Y_Model_isNoNote.2.1 15 = .ok (.goto 4, 3) := by decide +kernel
theorem k_Model_isNoNote_18 : decode Y_Model_isNoNote.2.1 18 = .ok (.iconst 0, 1) := by decide +kernel
theorem k_Model_isNoNote_19 : decode Y_Model_isNoNote.2.1 19 = .ok (.ireturn, 1) := by decide +kernel
theorem k_Model_isNoVoice_0 : decode Y_Model_isNoVoice.2.1 0 = .ok (.iload_n 1, 1) := by decide +kernel
theorem k_Model_isNoVoice_1 : decode Y_Model_isNoVoice.2.1 1 = .ok (.ifCond .lt 13, 3) := by decide +kernel
theorem k_Model_isNoVoice_4 : decode Y_Model_isNoVoice.2.1 4 = .ok (.iload_n 1, 1) := by decide +kernel
theorem k_Model_isNoVoice_5 : decode Y_Model_isNoVoice.2.1 5 = .ok (.aload_n 0, 1) := by decide +kernel
theorem k_Model_isNoVoice_6 : decode Y_Model_isNoVoice.2.1 6 = .ok (.getfield 13, 3) := by decide +kernel
theorem k_Model_isNoVoice_9 : decode Y_Model_isNoVoice.2.1 9 = .ok (.iconst 1, 1) := by decide +kernel
theorem k_Model_isNoVoice_10 : decode Y_Model_isNoVoice.2.1 10 = .ok (.iaload, 1) := by decide +kernel
theorem k_Model_isNoVoice_11 : decode Y_Model_isNoVoice.2.1 11 = .ok (.if_icmp .lt 7, 3) := by decide +kernel
theorem k_Model_isNoVoice_14 : decode Y_Model_isNoVoice.2.1 14 = .ok (.iconst 1, 1) := by decide +kernel
theorem k_Model_isNoVoice_15 : decode Y_Model_isNoVoice.2.1 15 = .ok (.goto 4, 3) := by decide +kernel
theorem k_Model_isNoVoice_18 : decode Y_Model_isNoVoice.2.1 18 = .ok (.iconst 0, 1) := by decide +kernel
theorem k_Model_isNoVoice_19 : decode Y_Model_isNoVoice.2.1 19 = .ok (.ireturn, 1) := by decide +kernel
theorem k_Model_note_0 : decode Y_Model_note.2.1 0 = .ok (.aload_n 0, 1) := by decide +kernel
theorem k_Model_note_1 : decode Y_Model_note.2.1 1 = .ok (.iload_n 1, 1) := by decide +kernel
theorem k_Model_note_2 : decode Y_Model_note.2.1 2 = .ok (.invokevirtual 137, 3) := by decide +kernel
theorem k_Model_note_5 : decode Y_Model_note.2.1 5 = .ok (.ifCond .eq 9, 3) := by decide +kernel
theorem k_Model_note_8 : decode Y_Model_note.2.1 8 = .ok (.aload_n 0, 1) := by decide +kernel
theorem k_Model_note_9 : decode Y_Model_note.2.1 9 = .ok (.iconst (-1), 1) := by decide +kernel
theorem k_Model_note_10 : decode Y_Model_note.2.1 10 = .ok (.invokevirtual 49, 3) := by decide +kernel
theorem k_Model_note_13 : decode Y_Model_note.2.1 13 = .ok (.ireturn, 1) := by decide +kernel
theorem k_Model_note_14 : decode Y_Model_note.2.1 14 = .ok (.iload_n 2, 1) := by decide +kernel
theorem k_Model_note_15 : decode Y_Model_note.2.1 15 = .ok (.ifCond .lt 8, 3) := by decide +kernel
theorem k_Model_note_18 : decode Y_Model_note.2.1 18 = .ok (.iload_n 2, 1) := by decide +kernel
theorem k_Model_note_19 : decode Y_Model_note.2.1 19 = .ok (.iconst 2, 1) := by decide +kernel
theorem k_Model_note_20 : decode Y_Model_note.2.1 20 = .ok (.if_icmp .le 10, 3) := by decide +kernel
theorem k_Model_note_23 : decode Y_Model_note.2.1 23 = .ok (.aload_n 0, 1) := by decide +kernel
theorem k_Model_note_24 : decode Y_Model_note.2.1 24 = .ok (.bipush (-2), 2) := by decide +kernel
theorem k_Model_note_26 : decode Y_Model_note.2.1 26 = .ok (.invokevirtual 49, 3) := by decide +kernel
theorem k_Model_note_29 : decode Y_Model_note.2.1 29 = .ok (.ireturn, 1) := by decide +kernel
theorem k_Model_note_30 : decode Y_Model_note.2.1 30 = .ok (.iload_n 2, 1) := by decide +kernel
theorem k_Model_note_31 : decode Y_Model_note.2.1 31 = .ok (.ifCond .ne 15, 3) := by decide +kernel
theorem k_Model_note_34 : decode Y_Model_note.2.1 34 = .ok (.aload_n 0, 1) := by decide +kernel
theorem k_Model_note_35 : decode Y_Model_note.2.1 35 = .ok (.getfield 13, 3) := by decide +kernel
theorem k_Model_note_38 : decode Y_Model_note.2.1 38 = .ok (.bipush 10, 2) := by decide +kernel
theorem k_Model_note_40 : decode Y_Model_note.2.1 40 = .ok (.iload_n 1, 1) := by decide +kernel
theorem k_Model_note_41 : decode Y_Model_note.2.1 41 = .ok (.iadd, 1) := by decide +kernel
theorem k_Model_note_42 : decode Y_Model_note.2.1 42 = .ok (.iaload, 1) := by decide +kernel
theorem k_Model_note_43 : decode Y_Model_note.2.1 43 = .ok (.goto 25, 3) := by decide +kernel
theorem k_Model_note_46 : decode Y_Model_note.2.1 46 = .ok (.iload_n 2, 1) := by decide +kernel
theorem k_Model_note_47 : decode Y_Model_note.2.1 47 = .ok (.iconst 1, 1) := by decide +kernel
theorem k_Model_note_48 : decode Y_Model_note.2.1 48 = .ok (.if_icmp .ne 15, 3) := by decide +kernel
theorem k_Model_note_51 : decode Y_Model_note.2.1 51 = .ok (.aload_n 0, 1) := by decide +kernel
theorem k_Model_note_52 : decode Y_Model_note.2.1 52 = .ok (.getfield 13, 3) := by decide +kernel
theorem k_Model_note_55 : decode Y_Model_note.2.1 55 = .ok (.bipush 30, 2) := by decide +kernel
theorem k_Model_note_57 : decode Y_Model_note.2.1 57 = .ok (.iload_n 1, 1) := by decide +kernel
theorem k_Model_note_58 : decode Y_Model_note.2.1 58 = .ok (.iadd, 1) := by decide +kernel
theorem k_Model_note_59 : decode Y_Model_note.2.1 59 = .ok (.iaload, 1) := by decide +kernel
theorem k_Model_note_60 : decode Y_Model_note.2.1 60 = .ok (.goto 8, 3) := by decide +kernel
theorem k_Model_note_63 : decode Y_Model_note.2.1 63 = .ok (.aload_n 0, 1) := by decide +kernel
theorem k_Model_note_64 : decode Y_Model_note.2.1 64 = .ok (.iload_n 1, 1) := by decide +kernel
theorem k_Model_note_65 : decode Y_Model_note.2.1 65 = .ok (.invokevirtual 91, 3) := by decide +kernel
theorem k_Model_note_68 : decode Y_Model_note.2.1 68 = .ok (.ireturn, 1) := by decide +kernel
theorem k_Model_voice_0 : decode Y_Model_voice.2.1 0 = .ok (.aload_n 0, 1) := by decide +kernel
theorem k_Model_voice_1 : decode Y_Model_voice.2.1 1 = .ok (.iload_n 1, 1) := by decide +kernel
theorem k_Model_voice_2 : decode Y_Model_voice.2.1 2 = .ok (.invokevirtual 141, 3) := by decide +kernel
theorem k_Model_voice_5 : decode Y_Model_voice.2.1 5 = .ok (.ifCond .eq 9, 3) := by decide +kernel
theorem k_Model_voice_8 : decode Y_Model_voice.2.1 8 = .ok (.aload_n 0, 1) := by decide +kernel
theorem k_Model_voice_9 : decode Y_Model_voice.2.1 9 = .ok (.iconst (-1), 1) := by decide +kernel
theorem k_Model_voice_10 : decode Y_Model_voice.2.1 10 = .ok (.invokevirtual 49, 3) := by decide +kernel
theorem k_Model_voice_13 : decode Y_Model_voice.2.1 13 = .ok (.ireturn, 1) := by decide +kernel
theorem k_Model_voice_14 : decode Y_Model_voice.2.1 14 = .ok (.iload_n 2, 1) := by decide +kernel
theorem k_Model_voice_15 : decode Y_Model_voice.2.1 15 = .ok (.tableswitch 83 0 4 #[33, 43, 53, 63, 77], 33) := by decide +kernel
theorem k_Model_voice_48 : decode Y_Model_voice.2.1 48 = .ok (.aload_n 0, 1) := by decide +kernel
theorem k_Model_voice_49 : decode Y_Model_voice.2.1 49 = .ok (.getfield 13, 3) := by decide +kernel
theorem k_Model_voice_52 : decode Y_Model_voice.2.1 52 = .ok (.bipush 50, 2) := by decide +kernel
theorem k_Model_voice_54 : decode Y_Model_voice.2.1 54 = .ok (.iload_n 1, 1) := by decide +kernel
theorem k_Model_voice_55 : decode Y_Model_voice.2.1 55 = .ok (.iadd, 1) := by decide +kernel
theorem k_Model_voice_56 : decode Y_Model_voice.2.1 56 = .ok (.iaload, 1) := by decide +kernel
theorem k_Model_voice_57 : decode Y_Model_voice.2.1 57 = .ok (.ireturn, 1) := by decide +kernel
theorem k_Model_voice_58 : decode Y_Model_voice.2.1 58 = .ok (.aload_n 0, 1) := by decide +kernel
theorem k_Model_voice_59 : decode Y_Model_voice.2.1 59 = .ok (.getfield 13, 3) := by decide +kernel
theorem k_Model_voice_62 : decode Y_Model_voice.2.1 62 = .ok (.bipush 60, 2) := by decide +kernel
theorem k_Model_voice_64 : decode Y_Model_voice.2.1 64 = .ok (.iload_n 1, 1) := by decide +kernel
theorem k_Model_voice_65 : decode Y_Model_voice.2.1 65 = .ok (.iadd, 1) := by decide +kernel
theorem k_Model_voice_66 : decode Y_Model_voice.2.1 66 = .ok (.iaload, 1) := by decide +kernel
theorem k_Model_voice_67 : decode Y_Model_voice.2.1 67 = .ok (.ireturn, 1) := by decide +kernel
theorem k_Model_voice_68 : decode Y_Model_voice.2.1 68 = .ok (.aload_n 0, 1) := by decide +kernel
theorem k_Model_voice_69 : decode Y_Model_voice.2.1 69 = .ok (.getfield 13, 3) := by decide +kernel
theorem k_Model_voice_72 : decode Y_Model_voice.2.1 72 = .ok (.bipush 70, 2) := by decide +kernel
theorem k_Model_voice_74 : decode Y_Model_voice.2.1 74 = .ok (.iload_n 1, 1) := by decide +kernel
theorem k_Model_voice_75 : decode Y_Model_voice.2.1 75 = .ok (.iadd, 1) := by decide +kernel
theorem k_Model_voice_76 : decode Y_Model_voice.2.1 76 = .ok (.iaload, 1) := by decide +kernel
theorem k_Model_voice_77 : decode Y_Model_voice.2.1 77 = .ok (.ireturn, 1) := by decide +kernel
theorem k_Model_voice_78 : decode Y_Model_voice.2.1 78 = .ok (.aload_n 0, 1) := by decide +kernel
theorem k_Model_voice_79 : decode Y_Model_voice.2.1 79 = .ok (.aload_n 0, 1) := by decide +kernel
theorem k_Model_voice_80 : decode Y_Model_voice.2.1 80 = .ok (.getfield 13, 3) := by decide +kernel
theorem k_Model_voice_83 : decode Y_Model_voice.2.1 83 = .ok (.bipush 50, 2) := by decide +kernel
theorem k_Model_voice_85 : decode Y_Model_voice.2.1 85 = .ok (.iload_n 1, 1) := by decide +kernel
theorem k_Model_voice_86 : decode Y_Model_voice.2.1 86 = .ok (.iadd, 1) := by decide +kernel
theorem k_Model_voice_87 : decode Y_Model_voice.2.1 87 = .ok (.iaload, 1) := by decide +kernel
theorem k_Model_voice_88 : decode Y_Model_voice.2.1 88 = .ok (.invokevirtual 100, 3) := by decide +kernel
theorem k_Model_voice_91 : decode Y_Model_voice.2.1 91 = .ok (.ireturn, 1) := by decide +kernel
theorem k_Model_voice_92 : decode Y_Model_voice.2.1 92 = .ok (.aload_n 0, 1) := by decide +kernel
theorem k_Model_voice_93 : decode Y_Model_voice.2.1 93 = .ok (.iload_n 1, 1) := by decide +kernel
theorem k_Model_voice_94 : decode Y_Model_voice.2.1 94 = .ok (.invokevirtual 111, 3) := by decide +kernel
theorem k_Model_voice_97 : decode Y_Model_voice.2.1 97 = .ok (.ireturn, 1) := by decide +kernel
theorem k_Model_voice_98 : decode Y_Model_voice.2.1 98 = .ok (.aload_n 0, 1) := by decide +kernel
theorem k_Model_voice_99 : decode Y_Model_voice.2.1 99 = .ok (.bipush (-2), 2) := by decide +kernel
theorem k_Model_voice_101 : decode Y_Model_voice.2.1 101 = .ok (.invokevirtual 49, 3) := by decide +kernel
theorem k_Model_voice_104 : decode Y_Model_voice.2.1 104 = .ok (.ireturn, 1) := by decide +kernel
theorem k_Model_become_0 : decode Y_Model_become.2.1 0 = .ok (.iload_n 2, 1) := by decide +kernel
theorem k_Model_become_1 : decode Y_Model_become.2.1 1 = .ok (.iload_n 3, 1) := by decide +kernel
theorem k_Model_become_2 : decode Y_Model_become.2.1 2 = .ok (.if_icmp .ge 10, 3) := by decide +kernel
theorem k_Model_become_5 : decode Y_Model_become.2.1 5 = .ok (.aload_n 0, 1) := by decide +kernel
theorem k_Model_become_6 : decode Y_Model_become.2.1 6 = .ok (.bipush (-4), 2) := by decide +kernel
theorem k_Model_become_8 : decode Y_Model_become.2.1 8 = .ok (.invokevirtual 49, 3) := by decide +kernel
theorem k_Model_become_11 : decode Y_Model_become.2.1 11 = .ok (.ireturn, 1) := by decide +kernel
theorem k_Model_become_12 : decode Y_Model_become.2.1 12 = .ok (.iload_n 2, 1) := by decide +kernel
theorem k_Model_become_13 : decode Y_Model_become.2.1 13 = .ok (.iload 4, 2) := by decide +kernel
theorem k_Model_become_15 : decode Y_Model_become.2.1 15 = .ok (.if_icmp .le 10, 3) := by decide +kernel
theorem k_Model_become_18 : decode Y_Model_become.2.1 18 = .ok (.aload_n 0, 1) := by decide +kernel
theorem k_Model_become_19 : decode Y_Model_become.2.1 19 = .ok (.bipush (-6), 2) := by decide +kernel
theorem k_Model_become_21 : decode Y_Model_become.2.1 21 = .ok (.invokevirtual 49, 3) := by decide +kernel
theorem k_Model_become_24 : decode Y_Model_become.2.1 24 = .ok (.ireturn, 1) := by decide +kernel
theorem k_Model_become_25 : decode Y_Model_become.2.1 25 = .ok (.aload_n 0, 1) := by decide +kernel
theorem k_Model_become_26 : decode Y_Model_become.2.1 26 = .ok (.getfield 13, 3) := by decide +kernel
theorem k_Model_become_29 : decode Y_Model_become.2.1 29 = .ok (.iload_n 1, 1) := by decide +kernel
theorem k_Model_become_30 : decode Y_Model_become.2.1 30 = .ok (.iaload, 1) := by decide +kernel
theorem k_Model_become_31 : decode Y_Model_become.2.1 31 = .ok (.istore 5, 2) := by decide +kernel
theorem k_Model_become_33 : decode Y_Model_become.2.1 33 = .ok (.aload_n 0, 1) := by decide +kernel
theorem k_Model_become_34 : decode Y_Model_become.2.1 34 = .ok (.getfield 13, 3) := by decide +kernel
theorem k_Model_become_37 : decode Y_Model_become.2.1 37 = .ok (.iload_n 1, 1) := by decide +kernel
theorem k_Model_become_38 : decode Y_Model_become.2.1 38 = .ok (.iload_n 2, 1) := by decide +kernel
theorem k_Model_become_39 : decode Y_Model_become.2.1 39 = .ok (.iastore, 1) := by decide +kernel
theorem k_Model_become_40 : decode Y_Model_become.2.1 40 = .ok (.iload 5, 2) := by decide +kernel
theorem k_Model_become_42 : decode Y_Model_become.2.1 42 = .ok (.ireturn, 1) := by decide +kernel
theorem k_Model_pitch_0 : decode Y_Model_pitch.2.1 0 = .ok (.aload_n 0, 1) := by decide +kernel
theorem k_Model_pitch_1 : decode Y_Model_pitch.2.1 1 = .ok (.iload_n 1, 1) := by decide +kernel
theorem k_Model_pitch_2 : decode Y_Model_pitch.2.1 2 = .ok (.invokevirtual 137, 3) := by decide +kernel
theorem k_Model_pitch_5 : decode Y_Model_pitch.2.1 5 = .ok (.ifCond .eq 11, 3) := by decide +kernel
theorem k_Model_pitch_8 : decode Y_Model_pitch.2.1 8 = .ok (.aload_n 0, 1) := by decide +kernel
theorem k_Model_pitch_9 : decode Y_Model_pitch.2.1 9 = .ok (.iconst (-1), 1) := by decide +kernel
theorem k_Model_pitch_10 : decode Y_Model_pitch.2.1 10 = .ok (.invokevirtual 49, 3) := by decide +kernel
theorem k_Model_pitch_13 : decode Y_Model_pitch.2.1 13 = .ok (.goto 15, 3) := by decide +kernel
theorem k_Model_pitch_16 : decode Y_Model_pitch.2.1 16 = .ok (.aload_n 0, 1) := by decide +kernel
theorem k_Model_pitch_17 : decode Y_Model_pitch.2.1 17 = .ok (.bipush 10, 2) := by decide +kernel
theorem k_Model_pitch_19 : decode Y_Model_pitch.2.1 19 = .ok (.iload_n 1, 1) := by decide +kernel
theorem k_Model_pitch_20 : decode Y_Model_pitch.2.1 20 = .ok (.iadd, 1) := by decide +kernel
theorem k_Model_pitch_21 : decode Y_Model_pitch.2.1 21 = .ok (.iload_n 2, 1) := by decide +kernel
theorem k_Model_pitch_22 : decode Y_Model_pitch.2.1 22 = .ok (.iconst 0, 1) := by decide +kernel
theorem k_Model_pitch_23 : decode Y_Model_pitch.2.1 23 = .ok (.bipush 9, 2) := by decide +kernel
theorem k_Model_pitch_25 : decode Y_Model_pitch.2.1 25 = .ok (.invokevirtual 144, 3) := by decide +kernel
theorem k_Model_pitch_28 : decode Y_Model_pitch.2.1 28 = .ok (.ireturn, 1) := by decide +kernel
theorem k_Model_enter_0 : decode Y_Model_enter.2.1 0 = .ok (.aload_n 0, 1) := by decide +kernel
theorem k_Model_enter_1 : decode Y_Model_enter.2.1 1 = .ok (.iload_n 1, 1) := by decide +kernel
theorem k_Model_enter_2 : decode Y_Model_enter.2.1 2 = .ok (.invokevirtual 141, 3) := by decide +kernel
theorem k_Model_enter_5 : decode Y_Model_enter.2.1 5 = .ok (.ifCond .eq 11, 3) := by decide +kernel
theorem k_Model_enter_8 : decode Y_Model_enter.2.1 8 = .ok (.aload_n 0, 1) := by decide +kernel
theorem k_Model_enter_9 : decode Y_Model_enter.2.1 9 = .ok (.iconst (-1), 1) := by decide +kernel
theorem k_Model_enter_10 : decode Y_Model_enter.2.1 10 = .ok (.invokevirtual 49, 3) := by decide +kernel
theorem k_Model_enter_13 : decode Y_Model_enter.2.1 13 = .ok (.goto 15, 3) := by decide +kernel
theorem k_Model_enter_16 : decode Y_Model_enter.2.1 16 = .ok (.aload_n 0, 1) := by decide +kernel
theorem k_Model_enter_17 : decode Y_Model_enter.2.1 17 = .ok (.bipush 60, 2) := by decide +kernel
theorem k_Model_enter_19 : decode Y_Model_enter.2.1 19 = .ok (.iload_n 1, 1) := by decide +kernel
theorem k_Model_enter_20 : decode Y_Model_enter.2.1 20 = .ok (.iadd, 1) := by decide +kernel
theorem k_Model_enter_21 : decode Y_Model_enter.2.1 21 = .ok (.iload_n 2, 1) := by decide +kernel
theorem k_Model_enter_22 : decode Y_Model_enter.2.1 22 = .ok (.iconst 0, 1) := by decide +kernel
theorem k_Model_enter_23 : decode Y_Model_enter.2.1 23 = .ok (.bipush 60, 2) := by decide +kernel
theorem k_Model_enter_25 : decode Y_Model_enter.2.1 25 = .ok (.invokevirtual 144, 3) := by decide +kernel
theorem k_Model_enter_28 : decode Y_Model_enter.2.1 28 = .ok (.ireturn, 1) := by decide +kernel
theorem k_Model_rounds_0 : decode Y_Model_rounds.2.1 0 = .ok (.aload_n 0, 1) := by decide +kernel
theorem k_Model_rounds_1 : decode Y_Model_rounds.2.1 1 = .ok (.iconst 2, 1) := by decide +kernel
theorem k_Model_rounds_2 : decode Y_Model_rounds.2.1 2 = .ok (.iload_n 1, 1) := by decide +kernel
theorem k_Model_rounds_3 : decode Y_Model_rounds.2.1 3 = .ok (.iconst 1, 1) := by decide +kernel
theorem k_Model_rounds_4 : decode Y_Model_rounds.2.1 4 = .ok (.iconst 4, 1) := by decide +kernel
theorem k_Model_rounds_5 : decode Y_Model_rounds.2.1 5 = .ok (.invokevirtual 144, 3) := by decide +kernel
theorem k_Model_rounds_8 : decode Y_Model_rounds.2.1 8 = .ok (.ireturn, 1) := by decide +kernel
theorem k_Model_step_0 : decode Y_Model_step.2.1 0 = .ok (.aload_n 0, 1) := by decide +kernel
theorem k_Model_step_1 : decode Y_Model_step.2.1 1 = .ok (.iconst 3, 1) := by decide +kernel
theorem k_Model_step_2 : decode Y_Model_step.2.1 2 = .ok (.iload_n 1, 1) := by decide +kernel
theorem k_Model_step_3 : decode Y_Model_step.2.1 3 = .ok (.iconst 0, 1) := by decide +kernel
theorem k_Model_step_4 : decode Y_Model_step.2.1 4 = .ok (.iconst 2, 1) := by decide +kernel
theorem k_Model_step_5 : decode Y_Model_step.2.1 5 = .ok (.invokevirtual 144, 3) := by decide +kernel
theorem k_Model_step_8 : decode Y_Model_step.2.1 8 = .ok (.ireturn, 1) := by decide +kernel
theorem k_Model_law_0 : decode Y_Model_law.2.1 0 = .ok (.aload_n 0, 1) := by decide +kernel
theorem k_Model_law_1 : decode Y_Model_law.2.1 1 = .ok (.iconst 4, 1) := by decide +kernel
theorem k_Model_law_2 : decode Y_Model_law.2.1 2 = .ok (.iload_n 1, 1) := by decide +kernel
theorem k_Model_law_3 : decode Y_Model_law.2.1 3 = .ok (.iconst 0, 1) := by decide +kernel
theorem k_Model_law_4 : decode Y_Model_law.2.1 4 = .ok (.bipush 127, 2) := by decide +kernel
theorem k_Model_law_6 : decode Y_Model_law.2.1 6 = .ok (.invokevirtual 144, 3) := by decide +kernel
theorem k_Model_law_9 : decode Y_Model_law.2.1 9 = .ok (.ireturn, 1) := by decide +kernel
theorem k_Model_isWrong_0 : decode Y_Model_isWrong.2.1 0 = .ok (.iload_n 0, 1) := by decide +kernel
theorem k_Model_isWrong_1 : decode Y_Model_isWrong.2.1 1 = .ok (.iload_n 1, 1) := by decide +kernel
theorem k_Model_isWrong_2 : decode Y_Model_isWrong.2.1 2 = .ok (.if_icmp .ge 8, 3) := by decide +kernel
theorem k_Model_isWrong_5 : decode Y_Model_isWrong.2.1 5 = .ok (.bipush (-4), 2) := by decide +kernel
theorem k_Model_isWrong_7 : decode Y_Model_isWrong.2.1 7 = .ok (.goto 14, 3) := by decide +kernel
theorem k_Model_isWrong_10 : decode Y_Model_isWrong.2.1 10 = .ok (.iload_n 0, 1) := by decide +kernel
theorem k_Model_isWrong_11 : decode Y_Model_isWrong.2.1 11 = .ok (.iload_n 2, 1) := by decide +kernel
theorem k_Model_isWrong_12 : decode Y_Model_isWrong.2.1 12 = .ok (.if_icmp .le 8, 3) := by decide +kernel
theorem k_Model_isWrong_15 : decode Y_Model_isWrong.2.1 15 = .ok (.bipush (-6), 2) := by decide +kernel
theorem k_Model_isWrong_17 : decode Y_Model_isWrong.2.1 17 = .ok (.goto 4, 3) := by decide +kernel
theorem k_Model_isWrong_20 : decode Y_Model_isWrong.2.1 20 = .ok (.iconst 0, 1) := by decide +kernel
theorem k_Model_isWrong_21 : decode Y_Model_isWrong.2.1 21 = .ok (.ireturn, 1) := by decide +kernel
theorem k_Model_sound_0 : decode Y_Model_sound.2.1 0 = .ok (.aload_n 0, 1) := by decide +kernel
theorem k_Model_sound_1 : decode Y_Model_sound.2.1 1 = .ok (.iload_n 1, 1) := by decide +kernel
theorem k_Model_sound_2 : decode Y_Model_sound.2.1 2 = .ok (.invokevirtual 141, 3) := by decide +kernel
theorem k_Model_sound_5 : decode Y_Model_sound.2.1 5 = .ok (.ifCond .eq 12, 3) := by decide +kernel
theorem k_Model_sound_8 : decode Y_Model_sound.2.1 8 = .ok (.ldc 147, 2) := by decide +kernel
theorem k_Model_sound_10 : decode Y_Model_sound.2.1 10 = .ok (.aload_n 0, 1) := by decide +kernel
theorem k_Model_sound_11 : decode Y_Model_sound.2.1 11 = .ok (.iconst (-1), 1) := by decide +kernel
theorem k_Model_sound_12 : decode Y_Model_sound.2.1 12 = .ok (.invokevirtual 49, 3) := by decide +kernel
theorem k_Model_sound_15 : decode Y_Model_sound.2.1 15 = .ok (.isub, 1) := by decide +kernel
theorem k_Model_sound_16 : decode Y_Model_sound.2.1 16 = .ok (.ireturn, 1) := by decide +kernel
theorem k_Model_sound_17 : decode Y_Model_sound.2.1 17 = .ok (.iload_n 2, 1) := by decide +kernel
theorem k_Model_sound_18 : decode Y_Model_sound.2.1 18 = .ok (.iconst 0, 1) := by decide +kernel
theorem k_Model_sound_19 : decode Y_Model_sound.2.1 19 = .ok (.sipush 400, 3) := by decide +kernel
theorem k_Model_sound_22 : decode Y_Model_sound.2.1 22 = .ok (.invokestatic 148, 3) := by decide +kernel
theorem k_Model_sound_25 : decode Y_Model_sound.2.1 25 = .ok (.ifCond .eq 19, 3) := by decide +kernel
theorem k_Model_sound_28 : decode Y_Model_sound.2.1 28 = .ok (.ldc 147, 2) := by decide +kernel
theorem k_Model_sound_30 : decode Y_Model_sound.2.1 30 = .ok (.aload_n 0, 1) := by decide +kernel
theorem k_Model_sound_31 : decode Y_Model_sound.2.1 31 = .ok (.iload_n 2, 1) := by decide +kernel
theorem k_Model_sound_32 : decode Y_Model_sound.2.1 32 = .ok (.iconst 0, 1) := by decide +kernel
theorem k_Model_sound_33 : decode Y_Model_sound.2.1 33 = .ok (.sipush 400, 3) := by decide +kernel
theorem k_Model_sound_36 : decode Y_Model_sound.2.1 36 = .ok (.invokestatic 148, 3) := by decide +kernel
theorem k_Model_sound_39 : decode Y_Model_sound.2.1 39 = .ok (.invokevirtual 49, 3) := by decide +kernel
theorem k_Model_sound_42 : decode Y_Model_sound.2.1 42 = .ok (.isub, 1) := by decide +kernel
theorem k_Model_sound_43 : decode Y_Model_sound.2.1 43 = .ok (.ireturn, 1) := by decide +kernel
theorem k_Model_sound_44 : decode Y_Model_sound.2.1 44 = .ok (.aload_n 0, 1) := by decide +kernel
theorem k_Model_sound_45 : decode Y_Model_sound.2.1 45 = .ok (.iload_n 1, 1) := by decide +kernel
theorem k_Model_sound_46 : decode Y_Model_sound.2.1 46 = .ok (.iload_n 2, 1) := by decide +kernel
theorem k_Model_sound_47 : decode Y_Model_sound.2.1 47 = .ok (.invokevirtual 125, 3) := by decide +kernel
theorem k_Model_sound_50 : decode Y_Model_sound.2.1 50 = .ok (.ireturn, 1) := by decide +kernel
theorem k_Model_ill_0 : decode Y_Model_ill.2.1 0 = .ok (.iload_n 1, 1) := by decide +kernel
theorem k_Model_ill_1 : decode Y_Model_ill.2.1 1 = .ok (.iconst 0, 1) := by decide +kernel
theorem k_Model_ill_2 : decode Y_Model_ill.2.1 2 = .ok (.sipush 400, 3) := by decide +kernel
theorem k_Model_ill_5 : decode Y_Model_ill.2.1 5 = .ok (.invokestatic 148, 3) := by decide +kernel
theorem k_Model_ill_8 : decode Y_Model_ill.2.1 8 = .ok (.ifCond .eq 18, 3) := by decide +kernel
theorem k_Model_ill_11 : decode Y_Model_ill.2.1 11 = .ok (.aload_n 0, 1) := by decide +kernel
theorem k_Model_ill_12 : decode Y_Model_ill.2.1 12 = .ok (.iload_n 1, 1) := by decide +kernel
theorem k_Model_ill_13 : decode Y_Model_ill.2.1 13 = .ok (.iconst 0, 1) := by decide +kernel
theorem k_Model_ill_14 : decode Y_Model_ill.2.1 14 = .ok (.sipush 400, 3) := by decide +kernel
theorem k_Model_ill_17 : decode Y_Model_ill.2.1 17 = .ok (.invokestatic 148, 3) := by decide +kernel
theorem k_Model_ill_20 : decode Y_Model_ill.2.1 20 = .ok (.invokevirtual 49, 3) := by decide +kernel
theorem k_Model_ill_23 : decode Y_Model_ill.2.1 23 = .ok (.goto 10, 3) := by decide +kernel
theorem k_Model_ill_26 : decode Y_Model_ill.2.1 26 = .ok (.aload_n 0, 1) := by decide +kernel
theorem k_Model_ill_27 : decode Y_Model_ill.2.1 27 = .ok (.iload_n 1, 1) := by decide +kernel
theorem k_Model_ill_28 : decode Y_Model_ill.2.1 28 = .ok (.bipush (-9), 2) := by decide +kernel
theorem k_Model_ill_30 : decode Y_Model_ill.2.1 30 = .ok (.invokevirtual 134, 3) := by decide +kernel
theorem k_Model_ill_33 : decode Y_Model_ill.2.1 33 = .ok (.ireturn, 1) := by decide +kernel
theorem k_Model_first_0 : decode Y_Model_first.2.1 0 = .ok (.iload_n 1, 1) := by decide +kernel
theorem k_Model_first_1 : decode Y_Model_first.2.1 1 = .ok (.ifCond .lt 8, 3) := by decide +kernel
theorem k_Model_first_4 : decode Y_Model_first.2.1 4 = .ok (.iload_n 1, 1) := by decide +kernel
theorem k_Model_first_5 : decode Y_Model_first.2.1 5 = .ok (.iconst 1, 1) := by decide +kernel
theorem k_Model_first_6 : decode Y_Model_first.2.1 6 = .ok (.if_icmp .le 10, 3) := by decide +kernel
theorem k_Model_first_9 : decode Y_Model_first.2.1 9 = .ok (.aload_n 0, 1) := by decide +kernel
theorem k_Model_first_10 : decode Y_Model_first.2.1 10 = .ok (.bipush (-2), 2) := by decide +kernel
theorem k_Model_first_12 : decode Y_Model_first.2.1 12 = .ok (.invokevirtual 49, 3) := by decide +kernel
theorem k_Model_first_15 : decode Y_Model_first.2.1 15 = .ok (.ireturn, 1) := by decide +kernel
theorem k_Model_first_16 : decode Y_Model_first.2.1 16 = .ok (.aload_n 0, 1) := by decide +kernel
theorem k_Model_first_17 : decode Y_Model_first.2.1 17 = .ok (.invokevirtual 131, 3) := by decide +kernel
theorem k_Model_first_20 : decode Y_Model_first.2.1 20 = .ok (.istore_n 2, 1) := by decide +kernel
theorem k_Model_first_21 : decode Y_Model_first.2.1 21 = .ok (.iconst 0, 1) := by decide +kernel
theorem k_Model_first_22 : decode Y_Model_first.2.1 22 = .ok (.istore_n 3, 1) := by decide +kernel
theorem k_Model_first_23 : decode Y_Model_first.2.1 23 = .ok (.iload_n 3, 1) := by decide +kernel
theorem k_Model_first_24 : decode Y_Model_first.2.1 24 = .ok (.iload_n 2, 1) := by decide +kernel
theorem k_Model_first_25 : decode Y_Model_first.2.1 25 = .ok (.if_icmp .ge 32, 3) := by decide +kernel
theorem k_Model_first_28 : decode Y_Model_first.2.1 28 = .ok (.aload_n 0, 1) := by decide +kernel
theorem k_Model_first_29 : decode Y_Model_first.2.1 29 = .ok (.iload_n 3, 1) := by decide +kernel
theorem k_Model_first_30 : decode Y_Model_first.2.1 30 = .ok (.bipush (-9), 2) := by decide +kernel
theorem k_Model_first_32 : decode Y_Model_first.2.1 32 = .ok (.invokevirtual 134, 3) := by decide +kernel
theorem k_Model_first_35 : decode Y_Model_first.2.1 35 = .ok (.ifCond .le 16, 3) := by decide +kernel
theorem k_Model_first_38 : decode Y_Model_first.2.1 38 = .ok (.iload_n 1, 1) := by decide +kernel
theorem k_Model_first_39 : decode Y_Model_first.2.1 39 = .ok (.ifCond .ne 7, 3) := by decide +kernel
theorem k_Model_first_42 : decode Y_Model_first.2.1 42 = .ok (.iload_n 3, 1) := by decide +kernel
theorem k_Model_first_43 : decode Y_Model_first.2.1 43 = .ok (.goto 7, 3) := by decide +kernel
theorem k_Model_first_46 : decode Y_Model_first.2.1 46 = .ok (.aload_n 0, 1) := by decide +kernel
theorem k_Model_first_47 : decode Y_Model_first.2.1 47 = .ok (.getfield 122, 3) := by decide +kernel
theorem k_Model_first_50 : decode Y_Model_first.2.1 50 = .ok (.ireturn, 1) := by decide +kernel
theorem k_Model_first_51 : decode Y_Model_first.2.1 51 = .ok (.iinc 3 1, 3) := by decide +kernel
theorem k_Model_first_54 : decode Y_Model_first.2.1 54 = .ok (.goto (-31), 3) := by decide +kernel
theorem k_Model_first_57 : decode Y_Model_first.2.1 57 = .ok (.bipush (-9), 2) := by decide +kernel
theorem k_Model_first_59 : decode Y_Model_first.2.1 59 = .ok (.ireturn, 1) := by decide +kernel
theorem k_Model_allIll_0 : decode Y_Model_allIll.2.1 0 = .ok (.aload_n 0, 1) := by decide +kernel
theorem k_Model_allIll_1 : decode Y_Model_allIll.2.1 1 = .ok (.bipush (-9), 2) := by decide +kernel
theorem k_Model_allIll_3 : decode Y_Model_allIll.2.1 3 = .ok (.invokevirtual 152, 3) := by decide +kernel
theorem k_Model_allIll_6 : decode Y_Model_allIll.2.1 6 = .ok (.ireturn, 1) := by decide +kernel
theorem k_Model_fitsAll_0 : decode Y_Model_fitsAll.2.1 0 = .ok (.iload_n 3, 1) := by decide +kernel
theorem k_Model_fitsAll_1 : decode Y_Model_fitsAll.2.1 1 = .ok (.aload_n 0, 1) := by decide +kernel
theorem k_Model_fitsAll_2 : decode Y_Model_fitsAll.2.1 2 = .ok (.getfield 13, 3) := by decide +kernel
theorem k_Model_fitsAll_5 : decode Y_Model_fitsAll.2.1 5 = .ok (.iconst 2, 1) := by decide +kernel
theorem k_Model_fitsAll_6 : decode Y_Model_fitsAll.2.1 6 = .ok (.iaload, 1) := by decide +kernel
theorem k_Model_fitsAll_7 : decode Y_Model_fitsAll.2.1 7 = .ok (.aload_n 0, 1) := by decide +kernel
theorem k_Model_fitsAll_8 : decode Y_Model_fitsAll.2.1 8 = .ok (.iload_n 1, 1) := by decide +kernel
theorem k_Model_fitsAll_9 : decode Y_Model_fitsAll.2.1 9 = .ok (.invokevirtual 100, 3) := by decide +kernel
theorem k_Model_fitsAll_12 : decode Y_Model_fitsAll.2.1 12 = .ok (.imul, 1) := by decide +kernel
theorem k_Model_fitsAll_13 : decode Y_Model_fitsAll.2.1 13 = .ok (.iadd, 1) := by decide +kernel
theorem k_Model_fitsAll_14 : decode Y_Model_fitsAll.2.1 14 = .ok (.istore 4, 2) := by decide +kernel
theorem k_Model_fitsAll_16 : decode Y_Model_fitsAll.2.1 16 = .ok (.iload_n 3, 1) := by decide +kernel
theorem k_Model_fitsAll_17 : decode Y_Model_fitsAll.2.1 17 = .ok (.istore 5, 2) := by decide +kernel
theorem k_Model_fitsAll_19 : decode Y_Model_fitsAll.2.1 19 = .ok (.iload 5, 2) := by decide +kernel
theorem k_Model_fitsAll_21 : decode Y_Model_fitsAll.2.1 21 = .ok (.iload 4, 2) := by decide +kernel
theorem k_Model_fitsAll_23 : decode Y_Model_fitsAll.2.1 23 = .ok (.if_icmp .ge 59, 3) := by decide +kernel
theorem k_Model_fitsAll_26 : decode Y_Model_fitsAll.2.1 26 = .ok (.aload_n 0, 1) := by decide +kernel
theorem k_Model_fitsAll_27 : decode Y_Model_fitsAll.2.1 27 = .ok (.iload_n 1, 1) := by decide +kernel
theorem k_Model_fitsAll_28 : decode Y_Model_fitsAll.2.1 28 = .ok (.iload_n 3, 1) := by decide +kernel
theorem k_Model_fitsAll_29 : decode Y_Model_fitsAll.2.1 29 = .ok (.iload_n 2, 1) := by decide +kernel
theorem k_Model_fitsAll_30 : decode Y_Model_fitsAll.2.1 30 = .ok (.iload 5, 2) := by decide +kernel
theorem k_Model_fitsAll_32 : decode Y_Model_fitsAll.2.1 32 = .ok (.invokevirtual 107, 3) := by decide +kernel
theorem k_Model_fitsAll_35 : decode Y_Model_fitsAll.2.1 35 = .ok (.istore 6, 2) := by decide +kernel
theorem k_Model_fitsAll_37 : decode Y_Model_fitsAll.2.1 37 = .ok (.iconst 0, 1) := by decide +kernel
theorem k_Model_fitsAll_38 : decode Y_Model_fitsAll.2.1 38 = .ok (.istore 7, 2) := by decide +kernel
theorem k_Model_fitsAll_40 : decode Y_Model_fitsAll.2.1 40 = .ok (.iload 7, 2) := by decide +kernel
theorem k_Model_fitsAll_42 : decode Y_Model_fitsAll.2.1 42 = .ok (.aload_n 0, 1) := by decide +kernel
theorem k_Model_fitsAll_43 : decode Y_Model_fitsAll.2.1 43 = .ok (.getfield 13, 3) := by decide +kernel
theorem k_Model_fitsAll_46 : decode Y_Model_fitsAll.2.1 46 = .ok (.iconst 1, 1) := by decide +kernel
theorem k_Model_fitsAll_47 : decode Y_Model_fitsAll.2.1 47 = .ok (.iaload, 1) := by decide +kernel
theorem k_Model_fitsAll_48 : decode Y_Model_fitsAll.2.1 48 = .ok (.if_icmp .ge 28, 3) := by decide +kernel
theorem k_Model_fitsAll_51 : decode Y_Model_fitsAll.2.1 51 = .ok (.aload_n 0, 1) := by decide +kernel
theorem k_Model_fitsAll_52 : decode Y_Model_fitsAll.2.1 52 = .ok (.iload 6, 2) := by decide +kernel
theorem k_Model_fitsAll_54 : decode Y_Model_fitsAll.2.1 54 = .ok (.aload_n 0, 1) := by decide +kernel
theorem k_Model_fitsAll_55 : decode Y_Model_fitsAll.2.1 55 = .ok (.iload 7, 2) := by decide +kernel
theorem k_Model_fitsAll_57 : decode Y_Model_fitsAll.2.1 57 = .ok (.iload 5, 2) := by decide +kernel
theorem k_Model_fitsAll_59 : decode Y_Model_fitsAll.2.1 59 = .ok (.invokevirtual 125, 3) := by decide +kernel
theorem k_Model_fitsAll_62 : decode Y_Model_fitsAll.2.1 62 = .ok (.invokevirtual 128, 3) := by decide +kernel
theorem k_Model_fitsAll_65 : decode Y_Model_fitsAll.2.1 65 = .ok (.ifCond .ne 5, 3) := by decide +kernel
theorem k_Model_fitsAll_68 : decode Y_Model_fitsAll.2.1 68 = .ok (.iconst 0, 1) := by decide +kernel
theorem k_Model_fitsAll_69 : decode Y_Model_fitsAll.2.1 69 = .ok (.ireturn, 1) := by decide +kernel
theorem k_Model_fitsAll_70 : decode Y_Model_fitsAll.2.1 70 = .ok (.iinc 7 1, 3) := by decide +kernel
theorem k_Model_fitsAll_73 : decode Y_Model_fitsAll.2.1 73 = .ok (.goto (-33), 3) := by decide +kernel
theorem k_Model_fitsAll_76 : decode Y_Model_fitsAll.2.1 76 = .ok (.iinc 5 1, 3) := by decide +kernel
theorem k_Model_fitsAll_79 : decode Y_Model_fitsAll.2.1 79 = .ok (.goto (-60), 3) := by decide +kernel
theorem k_Model_fitsAll_82 : decode Y_Model_fitsAll.2.1 82 = .ok (.iconst 1, 1) := by decide +kernel
theorem k_Model_fitsAll_83 : decode Y_Model_fitsAll.2.1 83 = .ok (.ireturn, 1) := by decide +kernel
theorem k_Model_entries_0 : decode Y_Model_entries.2.1 0 = .ok (.iload_n 1, 1) := by decide +kernel
theorem k_Model_entries_1 : decode Y_Model_entries.2.1 1 = .ok (.ifCond .lt 8, 3) := by decide +kernel
theorem k_Model_entries_4 : decode Y_Model_entries.2.1 4 = .ok (.iload_n 1, 1) := by decide +kernel
theorem k_Model_entries_5 : decode Y_Model_entries.2.1 5 = .ok (.iconst 5, 1) := by decide +kernel
theorem k_Model_entries_6 : decode Y_Model_entries.2.1 6 = .ok (.if_icmp .le 10, 3) := by decide +kernel
theorem k_Model_entries_9 : decode Y_Model_entries.2.1 9 = .ok (.aload_n 0, 1) := by decide +kernel
theorem k_Model_entries_10 : decode Y_Model_entries.2.1 10 = .ok (.bipush (-2), 2) := by decide +kernel
theorem k_Model_entries_12 : decode Y_Model_entries.2.1 12 = .ok (.invokevirtual 49, 3) := by decide +kernel
theorem k_Model_entries_15 : decode Y_Model_entries.2.1 15 = .ok (.ireturn, 1) := by decide +kernel
theorem k_Model_entries_16 : decode Y_Model_entries.2.1 16 = .ok (.iload_n 2, 1) := by decide +kernel
theorem k_Model_entries_17 : decode Y_Model_entries.2.1 17 = .ok (.iconst 0, 1) := by decide +kernel
theorem k_Model_entries_18 : decode Y_Model_entries.2.1 18 = .ok (.bipush 9, 2) := by decide +kernel
theorem k_Model_entries_20 : decode Y_Model_entries.2.1 20 = .ok (.invokestatic 148, 3) := by decide +kernel
theorem k_Model_entries_23 : decode Y_Model_entries.2.1 23 = .ok (.ifCond .eq 15, 3) := by decide +kernel
theorem k_Model_entries_26 : decode Y_Model_entries.2.1 26 = .ok (.aload_n 0, 1) := by decide +kernel
theorem k_Model_entries_27 : decode Y_Model_entries.2.1 27 = .ok (.iload_n 2, 1) := by decide +kernel
theorem k_Model_entries_28 : decode Y_Model_entries.2.1 28 = .ok (.iconst 0, 1) := by decide +kernel
theorem k_Model_entries_29 : decode Y_Model_entries.2.1 29 = .ok (.bipush 9, 2) := by decide +kernel
theorem k_Model_entries_31 : decode Y_Model_entries.2.1 31 = .ok (.invokestatic 148, 3) := by decide +kernel
theorem k_Model_entries_34 : decode Y_Model_entries.2.1 34 = .ok (.invokevirtual 49, 3) := by decide +kernel
theorem k_Model_entries_37 : decode Y_Model_entries.2.1 37 = .ok (.ireturn, 1) := by decide +kernel
theorem k_Model_entries_38 : decode Y_Model_entries.2.1 38 = .ok (.iconst 0, 1) := by decide +kernel
theorem k_Model_entries_39 : decode Y_Model_entries.2.1 39 = .ok (.istore_n 3, 1) := by decide +kernel
theorem k_Model_entries_40 : decode Y_Model_entries.2.1 40 = .ok (.iconst 0, 1) := by decide +kernel
theorem k_Model_entries_41 : decode Y_Model_entries.2.1 41 = .ok (.istore 4, 2) := by decide +kernel
theorem k_Model_entries_43 : decode Y_Model_entries.2.1 43 = .ok (.iload 4, 2) := by decide +kernel
theorem k_Model_entries_45 : decode Y_Model_entries.2.1 45 = .ok (.bipush 30, 2) := by decide +kernel
theorem k_Model_entries_47 : decode Y_Model_entries.2.1 47 = .ok (.if_icmp .gt 31, 3) := by decide +kernel
theorem k_Model_entries_50 : decode Y_Model_entries.2.1 50 = .ok (.iload_n 3, 1) := by decide +kernel
theorem k_Model_entries_51 : decode Y_Model_entries.2.1 51 = .ok (.aload_n 0, 1) := by decide +kernel
theorem k_Model_entries_52 : decode Y_Model_entries.2.1 52 = .ok (.iload_n 1, 1) := by decide +kernel
theorem k_Model_entries_53 : decode Y_Model_entries.2.1 53 = .ok (.iload_n 2, 1) := by decide +kernel
theorem k_Model_entries_54 : decode Y_Model_entries.2.1 54 = .ok (.iload 4, 2) := by decide +kernel
theorem k_Model_entries_56 : decode Y_Model_entries.2.1 56 = .ok (.invokevirtual 155, 3) := by decide +kernel
theorem k_Model_entries_59 : decode Y_Model_entries.2.1 59 = .ok (.ifCond .eq 10, 3) := by decide +kernel
theorem k_Model_entries_62 : decode Y_Model_entries.2.1 62 = .ok (.iconst 1, 1) := by decide +kernel
theorem k_Model_entries_63 : decode Y_Model_entries.2.1 63 = .ok (.iload 4, 2) := by decide +kernel
theorem k_Model_entries_65 : decode Y_Model_entries.2.1 65 = .ok (.ishl, 1) := by decide +kernel
theorem k_Model_entries_66 : decode Y_Model_entries.2.1 66 = .ok (.goto 4, 3) := by decide +kernel
theorem k_Model_entries_69 : decode Y_Model_entries.2.1 69 = .ok (.iconst 0, 1) := by decide +kernel
theorem k_Model_entries_70 : decode Y_Model_entries.2.1 70 = .ok (.ior, 1) := by decide +kernel
theorem k_Model_entries_71 : decode Y_Model_entries.2.1 71 = .ok (.istore_n 3, 1) := by decide +kernel
theorem k_Model_entries_72 : decode Y_Model_entries.2.1 72 = .ok (.iinc 4 1, 3) := by decide +kernel
theorem k_Model_entries_75 : decode Y_Model_entries.2.1 75 = .ok (.goto (-32), 3) := by decide +kernel
theorem k_Model_entries_78 : decode Y_Model_entries.2.1 78 = .ok (.iload_n 3, 1) := by decide +kernel
theorem k_Model_entries_79 : decode Y_Model_entries.2.1 79 = .ok (.ireturn, 1) := by decide +kernel
theorem k_Model_added_0 : decode Y_Model_added.2.1 0 = .ok (.aload_n 0, 1) := by decide +kernel
theorem k_Model_added_1 : decode Y_Model_added.2.1 1 = .ok (.getfield 13, 3) := by decide +kernel
theorem k_Model_added_4 : decode Y_Model_added.2.1 4 = .ok (.iconst 0, 1) := by decide +kernel
theorem k_Model_added_5 : decode Y_Model_added.2.1 5 = .ok (.iaload, 1) := by decide +kernel
theorem k_Model_added_6 : decode Y_Model_added.2.1 6 = .ok (.istore_n 1, 1) := by decide +kernel
theorem k_Model_added_7 : decode Y_Model_added.2.1 7 = .ok (.iconst 0, 1) := by decide +kernel
theorem k_Model_added_8 : decode Y_Model_added.2.1 8 = .ok (.istore_n 2, 1) := by decide +kernel
theorem k_Model_added_9 : decode Y_Model_added.2.1 9 = .ok (.aload_n 0, 1) := by decide +kernel
theorem k_Model_added_10 : decode Y_Model_added.2.1 10 = .ok (.getfield 13, 3) := by decide +kernel
theorem k_Model_added_13 : decode Y_Model_added.2.1 13 = .ok (.iconst 0, 1) := by decide +kernel
theorem k_Model_added_14 : decode Y_Model_added.2.1 14 = .ok (.iload_n 1, 1) := by decide +kernel
theorem k_Model_added_15 : decode Y_Model_added.2.1 15 = .ok (.iconst 1, 1) := by decide +kernel
theorem k_Model_added_16 : decode Y_Model_added.2.1 16 = .ok (.iadd, 1) := by decide +kernel
theorem k_Model_added_17 : decode Y_Model_added.2.1 17 = .ok (.iastore, 1) := by decide +kernel
theorem k_Model_added_18 : decode Y_Model_added.2.1 18 = .ok (.aload_n 0, 1) := by decide +kernel
theorem k_Model_added_19 : decode Y_Model_added.2.1 19 = .ok (.getfield 13, 3) := by decide +kernel
theorem k_Model_added_22 : decode Y_Model_added.2.1 22 = .ok (.bipush 10, 2) := by decide +kernel
theorem k_Model_added_24 : decode Y_Model_added.2.1 24 = .ok (.iload_n 1, 1) := by decide +kernel
theorem k_Model_added_25 : decode Y_Model_added.2.1 25 = .ok (.iadd, 1) := by decide +kernel
theorem k_Model_added_26 : decode Y_Model_added.2.1 26 = .ok (.iaload, 1) := by decide +kernel
theorem k_Model_added_27 : decode Y_Model_added.2.1 27 = .ok (.istore_n 3, 1) := by decide +kernel
theorem k_Model_added_28 : decode Y_Model_added.2.1 28 = .ok (.aload_n 0, 1) := by decide +kernel
theorem k_Model_added_29 : decode Y_Model_added.2.1 29 = .ok (.getfield 13, 3) := by decide +kernel
theorem k_Model_added_32 : decode Y_Model_added.2.1 32 = .ok (.bipush 30, 2) := by decide +kernel
theorem k_Model_added_34 : decode Y_Model_added.2.1 34 = .ok (.iload_n 1, 1) := by decide +kernel
theorem k_Model_added_35 : decode Y_Model_added.2.1 35 = .ok (.iadd, 1) := by decide +kernel
theorem k_Model_added_36 : decode Y_Model_added.2.1 36 = .ok (.iaload, 1) := by decide +kernel
theorem k_Model_added_37 : decode Y_Model_added.2.1 37 = .ok (.istore 4, 2) := by decide +kernel
theorem k_Model_added_39 : decode Y_Model_added.2.1 39 = .ok (.aload_n 0, 1) := by decide +kernel
theorem k_Model_added_40 : decode Y_Model_added.2.1 40 = .ok (.getfield 13, 3) := by decide +kernel
theorem k_Model_added_43 : decode Y_Model_added.2.1 43 = .ok (.bipush 30, 2) := by decide +kernel
theorem k_Model_added_45 : decode Y_Model_added.2.1 45 = .ok (.iload_n 1, 1) := by decide +kernel
theorem k_Model_added_46 : decode Y_Model_added.2.1 46 = .ok (.iadd, 1) := by decide +kernel
theorem k_Model_added_47 : decode Y_Model_added.2.1 47 = .ok (.iconst 1, 1) := by decide +kernel
theorem k_Model_added_48 : decode Y_Model_added.2.1 48 = .ok (.iastore, 1) := by decide +kernel
theorem k_Model_added_49 : decode Y_Model_added.2.1 49 = .ok (.iconst 0, 1) := by decide +kernel
theorem k_Model_added_50 : decode Y_Model_added.2.1 50 = .ok (.istore 5, 2) := by decide +kernel
theorem k_Model_added_52 : decode Y_Model_added.2.1 52 = .ok (.iload 5, 2) := by decide +kernel
theorem k_Model_added_54 : decode Y_Model_added.2.1 54 = .ok (.bipush 10, 2) := by decide +kernel
theorem k_Model_added_56 : decode Y_Model_added.2.1 56 = .ok (.if_icmp .ge 38, 3) := by decide +kernel
theorem k_Model_added_59 : decode Y_Model_added.2.1 59 = .ok (.aload_n 0, 1) := by decide +kernel
theorem k_Model_added_60 : decode Y_Model_added.2.1 60 = .ok (.getfield 13, 3) := by decide +kernel
theorem k_Model_added_63 : decode Y_Model_added.2.1 63 = .ok (.bipush 10, 2) := by decide +kernel
theorem k_Model_added_65 : decode Y_Model_added.2.1 65 = .ok (.iload_n 1, 1) := by decide +kernel
theorem k_Model_added_66 : decode Y_Model_added.2.1 66 = .ok (.iadd, 1) := by decide +kernel
theorem k_Model_added_67 : decode Y_Model_added.2.1 67 = .ok (.iload 5, 2) := by decide +kernel
theorem k_Model_added_69 : decode Y_Model_added.2.1 69 = .ok (.iastore, 1) := by decide +kernel
theorem k_Model_added_70 : decode Y_Model_added.2.1 70 = .ok (.iload_n 2, 1) := by decide +kernel
theorem k_Model_added_71 : decode Y_Model_added.2.1 71 = .ok (.aload_n 0, 1) := by decide +kernel
theorem k_Model_added_72 : decode Y_Model_added.2.1 72 = .ok (.invokevirtual 159, 3) := by decide +kernel
theorem k_Model_added_75 : decode Y_Model_added.2.1 75 = .ok (.ifCond .eq 10, 3) := by decide +kernel
theorem k_Model_added_78 : decode Y_Model_added.2.1 78 = .ok (.iconst 1, 1) := by decide +kernel
theorem k_Model_added_79 : decode Y_Model_added.2.1 79 = .ok (.iload 5, 2) := by decide +kernel
theorem k_Model_added_81 : decode Y_Model_added.2.1 81 = .ok (.ishl, 1) := by decide +kernel
theorem k_Model_added_82 : decode Y_Model_added.2.1 82 = .ok (.goto 4, 3) := by decide +kernel
theorem k_Model_added_85 : decode Y_Model_added.2.1 85 = .ok (.iconst 0, 1) := by decide +kernel
theorem k_Model_added_86 : decode Y_Model_added.2.1 86 = .ok (.ior, 1) := by decide +kernel
theorem k_Model_added_87 : decode Y_Model_added.2.1 87 = .ok (.istore_n 2, 1) := by decide +kernel
theorem k_Model_added_88 : decode Y_Model_added.2.1 88 = .ok (.iinc 5 1, 3) := by decide +kernel
theorem k_Model_added_91 : decode Y_Model_added.2.1 91 = .ok (.goto (-39), 3) := by decide +kernel
theorem k_Model_added_94 : decode Y_Model_added.2.1 94 = .ok (.aload_n 0, 1) := by decide +kernel
theorem k_Model_added_95 : decode Y_Model_added.2.1 95 = .ok (.getfield 13, 3) := by decide +kernel
theorem k_Model_added_98 : decode Y_Model_added.2.1 98 = .ok (.iconst 0, 1) := by decide +kernel
theorem k_Model_added_99 : decode Y_Model_added.2.1 99 = .ok (.iload_n 1, 1) := by decide +kernel
theorem k_Model_added_100 : decode Y_Model_added.2.1 100 = .ok (.iastore, 1) := by decide +kernel
theorem k_Model_added_101 : decode Y_Model_added.2.1 101 = .ok (.aload_n 0, 1) := by decide +kernel
theorem k_Model_added_102 : decode Y_Model_added.2.1 102 = .ok (.getfield 13, 3) := by decide +kernel
theorem k_Model_added_105 : decode Y_Model_added.2.1 105 = .ok (.bipush 10, 2) := by decide +kernel
theorem k_Model_added_107 : decode Y_Model_added.2.1 107 = .ok (.iload_n 1, 1) := by decide +kernel
theorem k_Model_added_108 : decode Y_Model_added.2.1 108 = .ok (.iadd, 1) := by decide +kernel
theorem k_Model_added_109 : decode Y_Model_added.2.1 109 = .ok (.iload_n 3, 1) := by decide +kernel
theorem k_Model_added_110 : decode Y_Model_added.2.1 110 = .ok (.iastore, 1) := by decide +kernel
theorem k_Model_added_111 : decode Y_Model_added.2.1 111 = .ok (.aload_n 0, 1) := by decide +kernel
theorem k_Model_added_112 : decode Y_Model_added.2.1 112 = .ok (.getfield 13, 3) := by decide +kernel
theorem k_Model_added_115 : decode Y_Model_added.2.1 115 = .ok (.bipush 30, 2) := by decide +kernel
theorem k_Model_added_117 : decode Y_Model_added.2.1 117 = .ok (.iload_n 1, 1) := by decide +kernel
theorem k_Model_added_118 : decode Y_Model_added.2.1 118 = .ok (.iadd, 1) := by decide +kernel
theorem k_Model_added_119 : decode Y_Model_added.2.1 119 = .ok (.iload 4, 2) := by decide +kernel
theorem k_Model_added_121 : decode Y_Model_added.2.1 121 = .ok (.iastore, 1) := by decide +kernel
theorem k_Model_added_122 : decode Y_Model_added.2.1 122 = .ok (.iload_n 2, 1) := by decide +kernel
theorem k_Model_added_123 : decode Y_Model_added.2.1 123 = .ok (.ireturn, 1) := by decide +kernel
theorem k_Model_silent_0 : decode Y_Model_silent.2.1 0 = .ok (.iconst 0, 1) := by decide +kernel
theorem k_Model_silent_1 : decode Y_Model_silent.2.1 1 = .ok (.istore_n 1, 1) := by decide +kernel
theorem k_Model_silent_2 : decode Y_Model_silent.2.1 2 = .ok (.iconst 0, 1) := by decide +kernel
theorem k_Model_silent_3 : decode Y_Model_silent.2.1 3 = .ok (.istore_n 2, 1) := by decide +kernel
theorem k_Model_silent_4 : decode Y_Model_silent.2.1 4 = .ok (.iload_n 2, 1) := by decide +kernel
theorem k_Model_silent_5 : decode Y_Model_silent.2.1 5 = .ok (.aload_n 0, 1) := by decide +kernel
theorem k_Model_silent_6 : decode Y_Model_silent.2.1 6 = .ok (.getfield 13, 3) := by decide +kernel
theorem k_Model_silent_9 : decode Y_Model_silent.2.1 9 = .ok (.iconst 1, 1) := by decide +kernel
theorem k_Model_silent_10 : decode Y_Model_silent.2.1 10 = .ok (.iaload, 1) := by decide +kernel
theorem k_Model_silent_11 : decode Y_Model_silent.2.1 11 = .ok (.if_icmp .ge 27, 3) := by decide +kernel
theorem k_Model_silent_14 : decode Y_Model_silent.2.1 14 = .ok (.iload_n 1, 1) := by decide +kernel
theorem k_Model_silent_15 : decode Y_Model_silent.2.1 15 = .ok (.aload_n 0, 1) := by decide +kernel
theorem k_Model_silent_16 : decode Y_Model_silent.2.1 16 = .ok (.iload_n 2, 1) := by decide +kernel
theorem k_Model_silent_17 : decode Y_Model_silent.2.1 17 = .ok (.invokevirtual 152, 3) := by decide +kernel
theorem k_Model_silent_20 : decode Y_Model_silent.2.1 20 = .ok (.ifCond .ne 9, 3) := by decide +kernel
theorem k_Model_silent_23 : decode Y_Model_silent.2.1 23 = .ok (.iconst 1, 1) := by decide +kernel
theorem k_Model_silent_24 : decode Y_Model_silent.2.1 24 = .ok (.iload_n 2, 1) := by decide +kernel
theorem k_Model_silent_25 : decode Y_Model_silent.2.1 25 = .ok (.ishl, 1) := by decide +kernel
theorem k_Model_silent_26 : decode Y_Model_silent.2.1 26 = .ok (.goto 4, 3) := by decide +kernel
theorem k_Model_silent_29 : decode Y_Model_silent.2.1 29 = .ok (.iconst 0, 1) := by decide +kernel
theorem k_Model_silent_30 : decode Y_Model_silent.2.1 30 = .ok (.ior, 1) := by decide +kernel
theorem k_Model_silent_31 : decode Y_Model_silent.2.1 31 = .ok (.istore_n 1, 1) := by decide +kernel
theorem k_Model_silent_32 : decode Y_Model_silent.2.1 32 = .ok (.iinc 2 1, 3) := by decide +kernel
theorem k_Model_silent_35 : decode Y_Model_silent.2.1 35 = .ok (.goto (-31), 3) := by decide +kernel
theorem k_Model_silent_38 : decode Y_Model_silent.2.1 38 = .ok (.iload_n 1, 1) := by decide +kernel
theorem k_Model_silent_39 : decode Y_Model_silent.2.1 39 = .ok (.ireturn, 1) := by decide +kernel
theorem k_Model_oneChange_0 : decode Y_Model_oneChange.2.1 0 = .ok (.iconst 0, 1) := by decide +kernel
theorem k_Model_oneChange_1 : decode Y_Model_oneChange.2.1 1 = .ok (.istore_n 1, 1) := by decide +kernel
theorem k_Model_oneChange_2 : decode Y_Model_oneChange.2.1 2 = .ok (.iload_n 1, 1) := by decide +kernel
theorem k_Model_oneChange_3 : decode Y_Model_oneChange.2.1 3 = .ok (.aload_n 0, 1) := by decide +kernel
theorem k_Model_oneChange_4 : decode Y_Model_oneChange.2.1 4 = .ok (.getfield 13, 3) := by decide +kernel
theorem k_Model_oneChange_7 : decode Y_Model_oneChange.2.1 7 = .ok (.iconst 0, 1) := by decide +kernel
theorem k_Model_oneChange_8 : decode Y_Model_oneChange.2.1 8 = .ok (.iaload, 1) := by decide +kernel
theorem k_Model_oneChange_9 : decode Y_Model_oneChange.2.1 9 = .ok (.if_icmp .ge 82, 3) := by decide +kernel
theorem k_Model_oneChange_12 : decode Y_Model_oneChange.2.1 12 = .ok (.aload_n 0, 1) := by decide +kernel
theorem k_Model_oneChange_13 : decode Y_Model_oneChange.2.1 13 = .ok (.getfield 13, 3) := by decide +kernel
theorem k_Model_oneChange_16 : decode Y_Model_oneChange.2.1 16 = .ok (.bipush 10, 2) := by decide +kernel
theorem k_Model_oneChange_18 : decode Y_Model_oneChange.2.1 18 = .ok (.iload_n 1, 1) := by decide +kernel
theorem k_Model_oneChange_19 : decode Y_Model_oneChange.2.1 19 = .ok (.iadd, 1) := by decide +kernel
theorem k_Model_oneChange_20 : decode Y_Model_oneChange.2.1 20 = .ok (.iaload, 1) := by decide +kernel
theorem k_Model_oneChange_21 : decode Y_Model_oneChange.2.1 21 = .ok (.istore_n 2, 1) := by decide +kernel
theorem k_Model_oneChange_22 : decode Y_Model_oneChange.2.1 22 = .ok (.iconst 0, 1) := by decide +kernel
theorem k_Model_oneChange_23 : decode Y_Model_oneChange.2.1 23 = .ok (.istore_n 3, 1) := by decide +kernel
theorem k_Model_oneChange_24 : decode Y_Model_oneChange.2.1 24 = .ok (.iload_n 3, 1) := by decide +kernel
theorem k_Model_oneChange_25 : decode Y_Model_oneChange.2.1 25 = .ok (.bipush 10, 2) := by decide +kernel
theorem k_Model_oneChange_27 : decode Y_Model_oneChange.2.1 27 = .ok (.if_icmp .ge 48, 3) := by decide +kernel
theorem k_Model_oneChange_30 : decode Y_Model_oneChange.2.1 30 = .ok (.aload_n 0, 1) := by decide +kernel
theorem k_Model_oneChange_31 : decode Y_Model_oneChange.2.1 31 = .ok (.getfield 13, 3) := by decide +kernel
theorem k_Model_oneChange_34 : decode Y_Model_oneChange.2.1 34 = .ok (.bipush 10, 2) := by decide +kernel
theorem k_Model_oneChange_36 : decode Y_Model_oneChange.2.1 36 = .ok (.iload_n 1, 1) := by decide +kernel
theorem k_Model_oneChange_37 : decode Y_Model_oneChange.2.1 37 = .ok (.iadd, 1) := by decide +kernel
theorem k_Model_oneChange_38 : decode Y_Model_oneChange.2.1 38 = .ok (.iload_n 3, 1) := by decide +kernel
theorem k_Model_oneChange_39 : decode Y_Model_oneChange.2.1 39 = .ok (.iastore, 1) := by decide +kernel
theorem k_Model_oneChange_40 : decode Y_Model_oneChange.2.1 40 = .ok (.iload_n 3, 1) := by decide +kernel
theorem k_Model_oneChange_41 : decode Y_Model_oneChange.2.1 41 = .ok (.iload_n 2, 1) := by decide +kernel
theorem k_Model_oneChange_42 : decode Y_Model_oneChange.2.1 42 = .ok (.if_icmp .eq 27, 3) := by decide +kernel
theorem k_Model_oneChange_45 : decode Y_Model_oneChange.2.1 45 = .ok (.aload_n 0, 1) := by decide +kernel
theorem k_Model_oneChange_46 : decode Y_Model_oneChange.2.1 46 = .ok (.invokevirtual 159, 3) := by decide +kernel
theorem k_Model_oneChange_49 : decode Y_Model_oneChange.2.1 49 = .ok (.ifCond .eq 20, 3) := by decide +kernel
theorem k_Model_oneChange_52 : decode Y_Model_oneChange.2.1 52 = .ok (.aload_n 0, 1) := by decide +kernel
theorem k_Model_oneChange_53 : decode Y_Model_oneChange.2.1 53 = .ok (.getfield 13, 3) := by decide +kernel
theorem k_Model_oneChange_56 : decode Y_Model_oneChange.2.1 56 = .ok (.bipush 10, 2) := by decide +kernel
theorem k_Model_oneChange_58 : decode Y_Model_oneChange.2.1 58 = .ok (.iload_n 1, 1) := by decide +kernel
theorem k_Model_oneChange_59 : decode Y_Model_oneChange.2.1 59 = .ok (.iadd, 1) := by decide +kernel
theorem k_Model_oneChange_60 : decode Y_Model_oneChange.2.1 60 = .ok (.iload_n 2, 1) := by decide +kernel
theorem k_Model_oneChange_61 : decode Y_Model_oneChange.2.1 61 = .ok (.iastore, 1) := by decide +kernel
theorem k_Model_oneChange_62 : decode Y_Model_oneChange.2.1 62 = .ok (.bipush 10, 2) := by decide +kernel
theorem k_Model_oneChange_64 : decode Y_Model_oneChange.2.1 64 = .ok (.iload_n 1, 1) := by decide +kernel
theorem k_Model_oneChange_65 : decode Y_Model_oneChange.2.1 65 = .ok (.imul, 1) := by decide +kernel
theorem k_Model_oneChange_66 : decode Y_Model_oneChange.2.1 66 = .ok (.iload_n 3, 1) := by decide +kernel
theorem k_Model_oneChange_67 : decode Y_Model_oneChange.2.1 67 = .ok (.iadd, 1) := by decide +kernel
theorem k_Model_oneChange_68 : decode Y_Model_oneChange.2.1 68 = .ok (.ireturn, 1) := by decide +kernel
theorem k_Model_oneChange_69 : decode Y_Model_oneChange.2.1 69 = .ok (.iinc 3 1, 3) := by decide +kernel
theorem k_Model_oneChange_72 : decode Y_Model_oneChange.2.1 72 = .ok (.goto (-48), 3) := by decide +kernel
theorem k_Model_oneChange_75 : decode Y_Model_oneChange.2.1 75 = .ok (.aload_n 0, 1) := by decide +kernel
theorem k_Model_oneChange_76 : decode Y_Model_oneChange.2.1 76 = .ok (.getfield 13, 3) := by decide +kernel
theorem k_Model_oneChange_79 : decode Y_Model_oneChange.2.1 79 = .ok (.bipush 10, 2) := by decide +kernel
theorem k_Model_oneChange_81 : decode Y_Model_oneChange.2.1 81 = .ok (.iload_n 1, 1) := by decide +kernel
theorem k_Model_oneChange_82 : decode Y_Model_oneChange.2.1 82 = .ok (.iadd, 1) := by decide +kernel
theorem k_Model_oneChange_83 : decode Y_Model_oneChange.2.1 83 = .ok (.iload_n 2, 1) := by decide +kernel
theorem k_Model_oneChange_84 : decode Y_Model_oneChange.2.1 84 = .ok (.iastore, 1) := by decide +kernel
theorem k_Model_oneChange_85 : decode Y_Model_oneChange.2.1 85 = .ok (.iinc 1 1, 3) := by decide +kernel
theorem k_Model_oneChange_88 : decode Y_Model_oneChange.2.1 88 = .ok (.goto (-86), 3) := by decide +kernel
theorem k_Model_oneChange_91 : decode Y_Model_oneChange.2.1 91 = .ok (.bipush (-9), 2) := by decide +kernel
theorem k_Model_oneChange_93 : decode Y_Model_oneChange.2.1 93 = .ok (.ireturn, 1) := by decide +kernel
theorem k_Model_isTwoChanges_0 : decode Y_Model_isTwoChanges.2.1 0 = .ok (.iconst 0, 1) := by decide +kernel
theorem k_Model_isTwoChanges_1 : decode Y_Model_isTwoChanges.2.1 1 = .ok (.istore_n 1, 1) := by decide +kernel
theorem k_Model_isTwoChanges_2 : decode Y_Model_isTwoChanges.2.1 2 = .ok (.iload_n 1, 1) := by decide +kernel
theorem k_Model_isTwoChanges_3 : decode Y_Model_isTwoChanges.2.1 3 = .ok (.aload_n 0, 1) := by decide +kernel
theorem k_Model_isTwoChanges_4 : decode Y_Model_isTwoChanges.2.1 4 = .ok (.getfield 13, 3) := by decide +kernel
theorem k_Model_isTwoChanges_7 : decode Y_Model_isTwoChanges.2.1 7 = .ok (.iconst 0, 1) := by decide +kernel
theorem k_Model_isTwoChanges_8 : decode Y_Model_isTwoChanges.2.1 8 = .ok (.iaload, 1) := by decide +kernel
theorem k_Model_isTwoChanges_9 : decode Y_Model_isTwoChanges.2.1 9 = .ok (.if_icmp .ge 79, 3) := by decide +kernel
theorem k_Model_isTwoChanges_12 : decode Y_Model_isTwoChanges.2.1 12 = .ok (.aload_n 0, 1) := by decide +kernel
theorem k_Model_isTwoChanges_13 : decode Y_Model_isTwoChanges.2.1 13 = .ok (.getfield 13, 3) := by decide +kernel
theorem k_Model_isTwoChanges_16 : decode Y_Model_isTwoChanges.2.1 16 = .ok (.bipush 10, 2) := by decide +kernel
theorem k_Model_isTwoChanges_18 : decode Y_Model_isTwoChanges.2.1 18 = .ok (.iload_n 1, 1) := by decide +kernel
theorem k_Model_isTwoChanges_19 : decode Y_Model_isTwoChanges.2.1 19 = .ok (.iadd, 1) := by decide +kernel
theorem k_Model_isTwoChanges_20 : decode Y_Model_isTwoChanges.2.1 20 = .ok (.iaload, 1) := by decide +kernel
theorem k_Model_isTwoChanges_21 : decode Y_Model_isTwoChanges.2.1 21 = .ok (.istore_n 2, 1) := by decide +kernel
theorem k_Model_isTwoChanges_22 : decode Y_Model_isTwoChanges.2.1 22 = .ok (.iconst 0, 1) := by decide +kernel
theorem k_Model_isTwoChanges_23 : decode Y_Model_isTwoChanges.2.1 23 = .ok (.istore_n 3, 1) := by decide +kernel
theorem k_Model_isTwoChanges_24 : decode Y_Model_isTwoChanges.2.1 24 = .ok (.iload_n 3, 1) := by decide +kernel
theorem k_Model_isTwoChanges_25 : decode Y_Model_isTwoChanges.2.1 25 = .ok (.bipush 10, 2) := by decide +kernel
theorem k_Model_isTwoChanges_27 : decode Y_Model_isTwoChanges.2.1 27 = .ok (.if_icmp .ge 45, 3) := by decide +kernel
theorem k_Model_isTwoChanges_30 : decode Y_Model_isTwoChanges.2.1 30 = .ok (.aload_n 0, 1) := by decide +kernel
theorem k_Model_isTwoChanges_31 : decode Y_Model_isTwoChanges.2.1 31 = .ok (.getfield 13, 3) := by decide +kernel
theorem k_Model_isTwoChanges_34 : decode Y_Model_isTwoChanges.2.1 34 = .ok (.bipush 10, 2) := by decide +kernel
theorem k_Model_isTwoChanges_36 : decode Y_Model_isTwoChanges.2.1 36 = .ok (.iload_n 1, 1) := by decide +kernel
theorem k_Model_isTwoChanges_37 : decode Y_Model_isTwoChanges.2.1 37 = .ok (.iadd, 1) := by decide +kernel
theorem k_Model_isTwoChanges_38 : decode Y_Model_isTwoChanges.2.1 38 = .ok (.iload_n 3, 1) := by decide +kernel
theorem k_Model_isTwoChanges_39 : decode Y_Model_isTwoChanges.2.1 39 = .ok (.iastore, 1) := by decide +kernel
theorem k_Model_isTwoChanges_40 : decode Y_Model_isTwoChanges.2.1 40 = .ok (.iload_n 3, 1) := by decide +kernel
theorem k_Model_isTwoChanges_41 : decode Y_Model_isTwoChanges.2.1 41 = .ok (.iload_n 2, 1) := by decide +kernel
theorem k_Model_isTwoChanges_42 : decode Y_Model_isTwoChanges.2.1 42 = .ok (.if_icmp .eq 24, 3) := by decide +kernel
theorem k_Model_isTwoChanges_45 : decode Y_Model_isTwoChanges.2.1 45 = .ok (.aload_n 0, 1) := by decide +kernel
theorem k_Model_isTwoChanges_46 : decode Y_Model_isTwoChanges.2.1 46 = .ok (.invokevirtual 163, 3) := by decide +kernel
theorem k_Model_isTwoChanges_49 : decode Y_Model_isTwoChanges.2.1 49 = .ok (.bipush (-9), 2) := by decide +kernel
theorem k_Model_isTwoChanges_51 : decode Y_Model_isTwoChanges.2.1 51 = .ok (.if_icmp .eq 15, 3) := by decide +kernel
theorem k_Model_isTwoChanges_54 : decode Y_Model_isTwoChanges.2.1 54 = .ok (.aload_n 0, 1) := by decide +kernel
theorem k_Model_isTwoChanges_55 : decode Y_Model_isTwoChanges.2.1 55 = .ok (.getfield 13, 3) := by decide +kernel
theorem k_Model_isTwoChanges_58 : decode Y_Model_isTwoChanges.2.1 58 = .ok (.bipush 10, 2) := by decide +kernel
theorem k_Model_isTwoChanges_60 : decode Y_Model_isTwoChanges.2.1 60 = .ok (.iload_n 1, 1) := by decide +kernel
theorem k_Model_isTwoChanges_61 : decode Y_Model_isTwoChanges.2.1 61 = .ok (.iadd, 1) := by decide +kernel
theorem k_Model_isTwoChanges_62 : decode Y_Model_isTwoChanges.2.1 62 = .ok (.iload_n 2, 1) := by decide +kernel
theorem k_Model_isTwoChanges_63 : decode Y_Model_isTwoChanges.2.1 63 = .ok (.iastore, 1) := by decide +kernel
theorem k_Model_isTwoChanges_64 : decode Y_Model_isTwoChanges.2.1 64 = .ok (.iconst 1, 1) := by decide +kernel
theorem k_Model_isTwoChanges_65 : decode Y_Model_isTwoChanges.2.1 65 = .ok (.ireturn, 1) := by decide +kernel
theorem k_Model_isTwoChanges_66 : decode Y_Model_isTwoChanges.2.1 66 = .ok (.iinc 3 1, 3) := by decide +kernel
theorem k_Model_isTwoChanges_69 : decode Y_Model_isTwoChanges.2.1 69 = .ok (.goto (-45), 3) := by decide +kernel
theorem k_Model_isTwoChanges_72 : decode Y_Model_isTwoChanges.2.1 72 = .ok (.aload_n 0, 1) := by decide +kernel
theorem k_Model_isTwoChanges_73 : decode Y_Model_isTwoChanges.2.1 73 = .ok (.getfield 13, 3) := by decide +kernel
theorem k_Model_isTwoChanges_76 : decode Y_Model_isTwoChanges.2.1 76 = .ok (.bipush 10, 2) := by decide +kernel
theorem k_Model_isTwoChanges_78 : decode Y_Model_isTwoChanges.2.1 78 = .ok (.iload_n 1, 1) := by decide +kernel
theorem k_Model_isTwoChanges_79 : decode Y_Model_isTwoChanges.2.1 79 = .ok (.iadd, 1) := by decide +kernel
theorem k_Model_isTwoChanges_80 : decode Y_Model_isTwoChanges.2.1 80 = .ok (.iload_n 2, 1) := by decide +kernel
theorem k_Model_isTwoChanges_81 : decode Y_Model_isTwoChanges.2.1 81 = .ok (.iastore, 1) := by decide +kernel
theorem k_Model_isTwoChanges_82 : decode Y_Model_isTwoChanges.2.1 82 = .ok (.iinc 1 1, 3) := by decide +kernel
theorem k_Model_isTwoChanges_85 : decode Y_Model_isTwoChanges.2.1 85 = .ok (.goto (-83), 3) := by decide +kernel
theorem k_Model_isTwoChanges_88 : decode Y_Model_isTwoChanges.2.1 88 = .ok (.iconst 0, 1) := by decide +kernel
theorem k_Model_isTwoChanges_89 : decode Y_Model_isTwoChanges.2.1 89 = .ok (.ireturn, 1) := by decide +kernel
theorem k_Model_changed_0 : decode Y_Model_changed.2.1 0 = .ok (.iload_n 1, 1) := by decide +kernel
theorem k_Model_changed_1 : decode Y_Model_changed.2.1 1 = .ok (.ifCond .lt 8, 3) := by decide +kernel
theorem k_Model_changed_4 : decode Y_Model_changed.2.1 4 = .ok (.iload_n 1, 1) := by decide +kernel
theorem k_Model_changed_5 : decode Y_Model_changed.2.1 5 = .ok (.iconst 1, 1) := by decide +kernel
theorem k_Model_changed_6 : decode Y_Model_changed.2.1 6 = .ok (.if_icmp .le 10, 3) := by decide +kernel
theorem k_Model_changed_9 : decode Y_Model_changed.2.1 9 = .ok (.aload_n 0, 1) := by decide +kernel
theorem k_Model_changed_10 : decode Y_Model_changed.2.1 10 = .ok (.bipush (-2), 2) := by decide +kernel
theorem k_Model_changed_12 : decode Y_Model_changed.2.1 12 = .ok (.invokevirtual 49, 3) := by decide +kernel
theorem k_Model_changed_15 : decode Y_Model_changed.2.1 15 = .ok (.ireturn, 1) := by decide +kernel
theorem k_Model_changed_16 : decode Y_Model_changed.2.1 16 = .ok (.aload_n 0, 1) := by decide +kernel
theorem k_Model_changed_17 : decode Y_Model_changed.2.1 17 = .ok (.invokevirtual 159, 3) := by decide +kernel
theorem k_Model_changed_20 : decode Y_Model_changed.2.1 20 = .ok (.ifCond .eq 14, 3) := by decide +kernel
theorem k_Model_changed_23 : decode Y_Model_changed.2.1 23 = .ok (.iload_n 1, 1) := by decide +kernel
theorem k_Model_changed_24 : decode Y_Model_changed.2.1 24 = .ok (.ifCond .ne 7, 3) := by decide +kernel
theorem k_Model_changed_27 : decode Y_Model_changed.2.1 27 = .ok (.iconst 0, 1) := by decide +kernel
theorem k_Model_changed_28 : decode Y_Model_changed.2.1 28 = .ok (.goto 5, 3) := by decide +kernel
theorem k_Model_changed_31 : decode Y_Model_changed.2.1 31 = .ok (.bipush (-9), 2) := by decide +kernel
theorem k_Model_changed_33 : decode Y_Model_changed.2.1 33 = .ok (.ireturn, 1) := by decide +kernel
theorem k_Model_changed_34 : decode Y_Model_changed.2.1 34 = .ok (.aload_n 0, 1) := by decide +kernel
theorem k_Model_changed_35 : decode Y_Model_changed.2.1 35 = .ok (.invokevirtual 163, 3) := by decide +kernel
theorem k_Model_changed_38 : decode Y_Model_changed.2.1 38 = .ok (.istore_n 2, 1) := by decide +kernel
theorem k_Model_changed_39 : decode Y_Model_changed.2.1 39 = .ok (.iload_n 1, 1) := by decide +kernel
theorem k_Model_changed_40 : decode Y_Model_changed.2.1 40 = .ok (.iconst 1, 1) := by decide +kernel
theorem k_Model_changed_41 : decode Y_Model_changed.2.1 41 = .ok (.if_icmp .ne 5, 3) := by decide +kernel
theorem k_Model_changed_44 : decode Y_Model_changed.2.1 44 = .ok (.iload_n 2, 1) := by decide +kernel
theorem k_Model_changed_45 : decode Y_Model_changed.2.1 45 = .ok (.ireturn, 1) := by decide +kernel
theorem k_Model_changed_46 : decode Y_Model_changed.2.1 46 = .ok (.iload_n 2, 1) := by decide +kernel
theorem k_Model_changed_47 : decode Y_Model_changed.2.1 47 = .ok (.bipush (-9), 2) := by decide +kernel
theorem k_Model_changed_49 : decode Y_Model_changed.2.1 49 = .ok (.if_icmp .eq 7, 3) := by decide +kernel
theorem k_Model_changed_52 : decode Y_Model_changed.2.1 52 = .ok (.iconst 1, 1) := by decide +kernel
theorem k_Model_changed_53 : decode Y_Model_changed.2.1 53 = .ok (.goto 16, 3) := by decide +kernel
theorem k_Model_changed_56 : decode Y_Model_changed.2.1 56 = .ok (.aload_n 0, 1) := by decide +kernel
theorem k_Model_changed_57 : decode Y_Model_changed.2.1 57 = .ok (.invokevirtual 166, 3) := by decide +kernel
theorem k_Model_changed_60 : decode Y_Model_changed.2.1 60 = .ok (.ifCond .eq 7, 3) := by decide +kernel
theorem k_Model_changed_63 : decode Y_Model_changed.2.1 63 = .ok (.iconst 2, 1) := by decide +kernel
theorem k_Model_changed_64 : decode Y_Model_changed.2.1 64 = .ok (.goto 5, 3) := by decide +kernel
theorem k_Model_changed_67 : decode Y_Model_changed.2.1 67 = .ok (.bipush (-9), 2) := by decide +kernel
theorem k_Model_changed_69 : decode Y_Model_changed.2.1 69 = .ok (.ireturn, 1) := by decide +kernel
theorem k_Model_better_0 : decode Y_Model_better.2.1 0 = .ok (.aload_n 0, 1) := by decide +kernel
theorem k_Model_better_1 : decode Y_Model_better.2.1 1 = .ok (.bipush (-9), 2) := by decide +kernel
theorem k_Model_better_3 : decode Y_Model_better.2.1 3 = .ok (.invokevirtual 152, 3) := by decide +kernel
theorem k_Model_better_6 : decode Y_Model_better.2.1 6 = .ok (.istore_n 1, 1) := by decide +kernel
theorem k_Model_better_7 : decode Y_Model_better.2.1 7 = .ok (.iconst 0, 1) := by decide +kernel
theorem k_Model_better_8 : decode Y_Model_better.2.1 8 = .ok (.istore_n 2, 1) := by decide +kernel
theorem k_Model_better_9 : decode Y_Model_better.2.1 9 = .ok (.iload_n 2, 1) := by decide +kernel
theorem k_Model_better_10 : decode Y_Model_better.2.1 10 = .ok (.aload_n 0, 1) := by decide +kernel
theorem k_Model_better_11 : decode Y_Model_better.2.1 11 = .ok (.getfield 13, 3) := by decide +kernel
theorem k_Model_better_14 : decode Y_Model_better.2.1 14 = .ok (.iconst 0, 1) := by decide +kernel
theorem k_Model_better_15 : decode Y_Model_better.2.1 15 = .ok (.iaload, 1) := by decide +kernel
theorem k_Model_better_16 : decode Y_Model_better.2.1 16 = .ok (.if_icmp .ge 67, 3) := by decide +kernel
theorem k_Model_better_19 : decode Y_Model_better.2.1 19 = .ok (.aload_n 0, 1) := by decide +kernel
theorem k_Model_better_20 : decode Y_Model_better.2.1 20 = .ok (.getfield 13, 3) := by decide +kernel
theorem k_Model_better_23 : decode Y_Model_better.2.1 23 = .ok (.bipush 10, 2) := by decide +kernel
theorem k_Model_better_25 : decode Y_Model_better.2.1 25 = .ok (.iload_n 2, 1) := by decide +kernel
theorem k_Model_better_26 : decode Y_Model_better.2.1 26 = .ok (.iadd, 1) := by decide +kernel
theorem k_Model_better_27 : decode Y_Model_better.2.1 27 = .ok (.iaload, 1) := by decide +kernel
theorem k_Model_better_28 : decode Y_Model_better.2.1 28 = .ok (.istore_n 3, 1) := by decide +kernel
theorem k_Model_better_29 : decode Y_Model_better.2.1 29 = .ok (.iconst 0, 1) := by decide +kernel
theorem k_Model_better_30 : decode Y_Model_better.2.1 30 = .ok (.istore 4, 2) := by decide +kernel
theorem k_Model_better_32 : decode Y_Model_better.2.1 32 = .ok (.iload 4, 2) := by decide +kernel
theorem k_Model_better_34 : decode Y_Model_better.2.1 34 = .ok (.bipush 10, 2) := by decide +kernel
theorem k_Model_better_36 : decode Y_Model_better.2.1 36 = .ok (.if_icmp .ge 31, 3) := by decide +kernel
theorem k_Model_better_39 : decode Y_Model_better.2.1 39 = .ok (.aload_n 0, 1) := by decide +kernel
theorem k_Model_better_40 : decode Y_Model_better.2.1 40 = .ok (.getfield 13, 3) := by decide +kernel
theorem k_Model_better_43 : decode Y_Model_better.2.1 43 = .ok (.bipush 10, 2) := by decide +kernel
theorem k_Model_better_45 : decode Y_Model_better.2.1 45 = .ok (.iload_n 2, 1) := by decide +kernel
theorem k_Model_better_46 : decode Y_Model_better.2.1 46 = .ok (.iadd, 1) := by decide +kernel
theorem k_Model_better_47 : decode Y_Model_better.2.1 47 = .ok (.iload 4, 2) := by decide +kernel
theorem k_Model_better_49 : decode Y_Model_better.2.1 49 = .ok (.iastore, 1) := by decide +kernel
theorem k_Model_better_50 : decode Y_Model_better.2.1 50 = .ok (.iload_n 1, 1) := by decide +kernel
theorem k_Model_better_51 : decode Y_Model_better.2.1 51 = .ok (.aload_n 0, 1) := by decide +kernel
theorem k_Model_better_52 : decode Y_Model_better.2.1 52 = .ok (.bipush (-9), 2) := by decide +kernel
theorem k_Model_better_54 : decode Y_Model_better.2.1 54 = .ok (.invokevirtual 152, 3) := by decide +kernel
theorem k_Model_better_57 : decode Y_Model_better.2.1 57 = .ok (.invokestatic 169, 3) := by decide +kernel
theorem k_Model_better_60 : decode Y_Model_better.2.1 60 = .ok (.istore_n 1, 1) := by decide +kernel
theorem k_Model_better_61 : decode Y_Model_better.2.1 61 = .ok (.iinc 4 1, 3) := by decide +kernel
theorem k_Model_better_64 : decode Y_Model_better.2.1 64 = .ok (.goto (-32), 3) := by decide +kernel
theorem k_Model_better_67 : decode Y_Model_better.2.1 67 = .ok (.aload_n 0, 1) := by decide +kernel
theorem k_Model_better_68 : decode Y_Model_better.2.1 68 = .ok (.getfield 13, 3) := by decide +kernel
theorem k_Model_better_71 : decode Y_Model_better.2.1 71 = .ok (.bipush 10, 2) := by decide +kernel
theorem k_Model_better_73 : decode Y_Model_better.2.1 73 = .ok (.iload_n 2, 1) := by decide +kernel
theorem k_Model_better_74 : decode Y_Model_better.2.1 74 = .ok (.iadd, 1) := by decide +kernel
theorem k_Model_better_75 : decode Y_Model_better.2.1 75 = .ok (.iload_n 3, 1) := by decide +kernel
theorem k_Model_better_76 : decode Y_Model_better.2.1 76 = .ok (.iastore, 1) := by decide +kernel
theorem k_Model_better_77 : decode Y_Model_better.2.1 77 = .ok (.iinc 2 1, 3) := by decide +kernel
theorem k_Model_better_80 : decode Y_Model_better.2.1 80 = .ok (.goto (-71), 3) := by decide +kernel
theorem k_Model_better_83 : decode Y_Model_better.2.1 83 = .ok (.iload_n 1, 1) := by decide +kernel
theorem k_Model_better_84 : decode Y_Model_better.2.1 84 = .ok (.ireturn, 1) := by decide +kernel
theorem k_Model_mirror_0 : decode Y_Model_mirror.2.1 0 = .ok (.aload_n 0, 1) := by decide +kernel
theorem k_Model_mirror_1 : decode Y_Model_mirror.2.1 1 = .ok (.invokevirtual 94, 3) := by decide +kernel
theorem k_Model_mirror_4 : decode Y_Model_mirror.2.1 4 = .ok (.istore_n 1, 1) := by decide +kernel
theorem k_Model_mirror_5 : decode Y_Model_mirror.2.1 5 = .ok (.iconst 0, 1) := by decide +kernel
theorem k_Model_mirror_6 : decode Y_Model_mirror.2.1 6 = .ok (.istore_n 2, 1) := by decide +kernel
theorem k_Model_mirror_7 : decode Y_Model_mirror.2.1 7 = .ok (.iload_n 2, 1) := by decide +kernel
theorem k_Model_mirror_8 : decode Y_Model_mirror.2.1 8 = .ok (.iload_n 1, 1) := by decide +kernel
theorem k_Model_mirror_9 : decode Y_Model_mirror.2.1 9 = .ok (.if_icmp .ge 28, 3) := by decide +kernel
theorem k_Model_mirror_12 : decode Y_Model_mirror.2.1 12 = .ok (.aload_n 0, 1) := by decide +kernel
theorem k_Model_mirror_13 : decode Y_Model_mirror.2.1 13 = .ok (.iload_n 2, 1) := by decide +kernel
theorem k_Model_mirror_14 : decode Y_Model_mirror.2.1 14 = .ok (.invokevirtual 97, 3) := by decide +kernel
theorem k_Model_mirror_17 : decode Y_Model_mirror.2.1 17 = .ok (.aload_n 0, 1) := by decide +kernel
theorem k_Model_mirror_18 : decode Y_Model_mirror.2.1 18 = .ok (.iload_n 1, 1) := by decide +kernel
theorem k_Model_mirror_19 : decode Y_Model_mirror.2.1 19 = .ok (.iconst 1, 1) := by decide +kernel
theorem k_Model_mirror_20 : decode Y_Model_mirror.2.1 20 = .ok (.isub, 1) := by decide +kernel
theorem k_Model_mirror_21 : decode Y_Model_mirror.2.1 21 = .ok (.iload_n 2, 1) := by decide +kernel
theorem k_Model_mirror_22 : decode Y_Model_mirror.2.1 22 = .ok (.isub, 1) := by decide +kernel
theorem k_Model_mirror_23 : decode Y_Model_mirror.2.1 23 = .ok (.invokevirtual 97, 3) := by decide +kernel
theorem k_Model_mirror_26 : decode Y_Model_mirror.2.1 26 = .ok (.if_icmp .eq 5, 3) := by decide +kernel
theorem k_Model_mirror_29 : decode Y_Model_mirror.2.1 29 = .ok (.iconst 0, 1) := by decide +kernel
theorem k_Model_mirror_30 : decode Y_Model_mirror.2.1 30 = .ok (.ireturn, 1) := by decide +kernel
theorem k_Model_mirror_31 : decode Y_Model_mirror.2.1 31 = .ok (.iinc 2 1, 3) := by decide +kernel
theorem k_Model_mirror_34 : decode Y_Model_mirror.2.1 34 = .ok (.goto (-27), 3) := by decide +kernel
theorem k_Model_mirror_37 : decode Y_Model_mirror.2.1 37 = .ok (.iconst 1, 1) := by decide +kernel
theorem k_Model_mirror_38 : decode Y_Model_mirror.2.1 38 = .ok (.ireturn, 1) := by decide +kernel
theorem k_Model_chains_0 : decode Y_Model_chains.2.1 0 = .ok (.bipush 7, 2) := by decide +kernel
theorem k_Model_chains_2 : decode Y_Model_chains.2.1 2 = .ok (.newarray .long, 2) := by decide +kernel
theorem k_Model_chains_4 : decode Y_Model_chains.2.1 4 = .ok (.dup, 1) := by decide +kernel
theorem k_Model_chains_5 : decode Y_Model_chains.2.1 5 = .ok (.iconst 0, 1) := by decide +kernel
theorem k_Model_chains_6 : decode Y_Model_chains.2.1 6 = .ok (.lconst 1, 1) := by decide +kernel
theorem k_Model_chains_7 : decode Y_Model_chains.2.1 7 = .ok (.lastore, 1) := by decide +kernel
theorem k_Model_chains_8 : decode Y_Model_chains.2.1 8 = .ok (.dup, 1) := by decide +kernel
theorem k_Model_chains_9 : decode Y_Model_chains.2.1 9 = .ok (.iconst 1, 1) := by decide +kernel
theorem k_Model_chains_10 : decode Y_Model_chains.2.1 10 = .ok (.lconst 1, 1) := by decide +kernel
theorem k_Model_chains_11 : decode Y_Model_chains.2.1 11 = .ok (.lastore, 1) := by decide +kernel
theorem k_Model_chains_12 : decode Y_Model_chains.2.1 12 = .ok (.dup, 1) := by decide +kernel
theorem k_Model_chains_13 : decode Y_Model_chains.2.1 13 = .ok (.iconst 2, 1) := by decide +kernel
theorem k_Model_chains_14 : decode Y_Model_chains.2.1 14 = .ok (.lconst 1, 1) := by decide +kernel
theorem k_Model_chains_15 : decode Y_Model_chains.2.1 15 = .ok (.lastore, 1) := by decide +kernel
theorem k_Model_chains_16 : decode Y_Model_chains.2.1 16 = .ok (.dup, 1) := by decide +kernel
theorem k_Model_chains_17 : decode Y_Model_chains.2.1 17 = .ok (.iconst 3, 1) := by decide +kernel
theorem k_Model_chains_18 : decode Y_Model_chains.2.1 18 = .ok (.lconst 1, 1) := by decide +kernel
theorem k_Model_chains_19 : decode Y_Model_chains.2.1 19 = .ok (.lastore, 1) := by decide +kernel
theorem k_Model_chains_20 : decode Y_Model_chains.2.1 20 = .ok (.dup, 1) := by decide +kernel
theorem k_Model_chains_21 : decode Y_Model_chains.2.1 21 = .ok (.iconst 4, 1) := by decide +kernel
theorem k_Model_chains_22 : decode Y_Model_chains.2.1 22 = .ok (.lconst 1, 1) := by decide +kernel
theorem k_Model_chains_23 : decode Y_Model_chains.2.1 23 = .ok (.lastore, 1) := by decide +kernel
theorem k_Model_chains_24 : decode Y_Model_chains.2.1 24 = .ok (.dup, 1) := by decide +kernel
theorem k_Model_chains_25 : decode Y_Model_chains.2.1 25 = .ok (.iconst 5, 1) := by decide +kernel
theorem k_Model_chains_26 : decode Y_Model_chains.2.1 26 = .ok (.lconst 1, 1) := by decide +kernel
theorem k_Model_chains_27 : decode Y_Model_chains.2.1 27 = .ok (.lastore, 1) := by decide +kernel
theorem k_Model_chains_28 : decode Y_Model_chains.2.1 28 = .ok (.dup, 1) := by decide +kernel
theorem k_Model_chains_29 : decode Y_Model_chains.2.1 29 = .ok (.bipush 6, 2) := by decide +kernel
theorem k_Model_chains_31 : decode Y_Model_chains.2.1 31 = .ok (.lconst 1, 1) := by decide +kernel
theorem k_Model_chains_32 : decode Y_Model_chains.2.1 32 = .ok (.lastore, 1) := by decide +kernel
theorem k_Model_chains_33 : decode Y_Model_chains.2.1 33 = .ok (.astore_n 2, 1) := by decide +kernel
theorem k_Model_chains_34 : decode Y_Model_chains.2.1 34 = .ok (.iconst 1, 1) := by decide +kernel
theorem k_Model_chains_35 : decode Y_Model_chains.2.1 35 = .ok (.istore_n 3, 1) := by decide +kernel
theorem k_Model_chains_36 : decode Y_Model_chains.2.1 36 = .ok (.iload_n 3, 1) := by decide +kernel
theorem k_Model_chains_37 : decode Y_Model_chains.2.1 37 = .ok (.iload_n 1, 1) := by decide +kernel
theorem k_Model_chains_38 : decode Y_Model_chains.2.1 38 = .ok (.if_icmp .ge 77, 3) := by decide +kernel
theorem k_Model_chains_41 : decode Y_Model_chains.2.1 41 = .ok (.bipush 7, 2) := by decide +kernel
theorem k_Model_chains_43 : decode Y_Model_chains.2.1 43 = .ok (.newarray .long, 2) := by decide +kernel
theorem k_Model_chains_45 : decode Y_Model_chains.2.1 45 = .ok (.astore 4, 2) := by decide +kernel
theorem k_Model_chains_47 : decode Y_Model_chains.2.1 47 = .ok (.iconst 0, 1) := by decide +kernel
theorem k_Model_chains_48 : decode Y_Model_chains.2.1 48 = .ok (.istore 5, 2) := by decide +kernel
theorem k_Model_chains_50 : decode Y_Model_chains.2.1 50 = .ok (.iload 5, 2) := by decide +kernel
theorem k_Model_chains_52 : decode Y_Model_chains.2.1 52 = .ok (.bipush 7, 2) := by decide +kernel
theorem k_Model_chains_54 : decode Y_Model_chains.2.1 54 = .ok (.if_icmp .ge 52, 3) := by decide +kernel
theorem k_Model_chains_57 : decode Y_Model_chains.2.1 57 = .ok (.iconst 0, 1) := by decide +kernel
theorem k_Model_chains_58 : decode Y_Model_chains.2.1 58 = .ok (.istore 6, 2) := by decide +kernel
theorem k_Model_chains_60 : decode Y_Model_chains.2.1 60 = .ok (.iload 6, 2) := by decide +kernel
theorem k_Model_chains_62 : decode Y_Model_chains.2.1 62 = .ok (.bipush 7, 2) := by decide +kernel
theorem k_Model_chains_64 : decode Y_Model_chains.2.1 64 = .ok (.if_icmp .ge 36, 3) := by decide +kernel
theorem k_Model_chains_67 : decode Y_Model_chains.2.1 67 = .ok (.aload 4, 2) := by decide +kernel
theorem k_Model_chains_69 : decode Y_Model_chains.2.1 69 = .ok (.iload 6, 2) := by decide +kernel
theorem k_Model_chains_71 : decode Y_Model_chains.2.1 71 = .ok (.dup2, 1) := by decide +kernel
theorem k_Model_chains_72 : decode Y_Model_chains.2.1 72 = .ok (.laload, 1) := by decide +kernel
theorem k_Model_chains_73 : decode Y_Model_chains.2.1 73 = .ok (.aload_n 0, 1) := by decide +kernel
theorem k_Model_chains_74 : decode Y_Model_chains.2.1 74 = .ok (.iload 5, 2) := by decide +kernel
theorem k_Model_chains_76 : decode Y_Model_chains.2.1 76 = .ok (.iload 6, 2) := by decide +kernel
theorem k_Model_chains_78 : decode Y_Model_chains.2.1 78 = .ok (.invokevirtual 128, 3) := by decide +kernel
theorem k_Model_chains_81 : decode Y_Model_chains.2.1 81 = .ok (.ifCond .eq 10, 3) := by decide +kernel
theorem k_Model_chains_84 : decode Y_Model_chains.2.1 84 = .ok (.aload_n 2, 1) := by decide +kernel
theorem k_Model_chains_85 : decode Y_Model_chains.2.1 85 = .ok (.iload 5, 2) := by decide +kernel
theorem k_Model_chains_87 : decode Y_Model_chains.2.1 87 = .ok (.laload, 1) := by decide +kernel
theorem k_Model_chains_88 : decode Y_Model_chains.2.1 88 = .ok (.goto 4, 3) := by decide +kernel
theorem k_Model_chains_91 : decode Y_Model_chains.2.1 91 = .ok (.lconst 0, 1) := by decide +kernel
theorem k_Model_chains_92 : decode Y_Model_chains.2.1 92 = .ok (.ladd, 1) := by decide +kernel
theorem k_Model_chains_93 : decode Y_Model_chains.2.1 93 = .ok (.lastore, 1) := by decide +kernel
theorem k_Model_chains_94 : decode Y_Model_chains.2.1 94 = .ok (.iinc 6 1, 3) := by decide +kernel
theorem k_Model_chains_97 : decode Y_Model_chains.2.1 97 = .ok (.goto (-37), 3) := by decide +kernel
theorem k_Model_chains_100 : decode Y_Model_chains.2.1 100 = .ok (.iinc 5 1, 3) := by decide +kernel
theorem k_Model_chains_103 : decode Y_Model_chains.2.1 103 = .ok (.goto (-53), 3) := by decide +kernel
theorem k_Model_chains_106 : decode Y_Model_chains.2.1 106 = .ok (.aload 4, 2) := by decide +kernel
theorem k_Model_chains_108 : decode Y_Model_chains.2.1 108 = .ok (.astore_n 2, 1) := by decide +kernel
theorem k_Model_chains_109 : decode Y_Model_chains.2.1 109 = .ok (.iinc 3 1, 3) := by decide +kernel
theorem k_Model_chains_112 : decode Y_Model_chains.2.1 112 = .ok (.goto (-76), 3) := by decide +kernel
theorem k_Model_chains_115 : decode Y_Model_chains.2.1 115 = .ok (.lconst 0, 1) := by decide +kernel
theorem k_Model_chains_116 : decode Y_Model_chains.2.1 116 = .ok (.lstore_n 3, 1) := by decide +kernel
theorem k_Model_chains_117 : decode Y_Model_chains.2.1 117 = .ok (.iconst 0, 1) := by decide +kernel
theorem k_Model_chains_118 : decode Y_Model_chains.2.1 118 = .ok (.istore 5, 2) := by decide +kernel
theorem k_Model_chains_120 : decode Y_Model_chains.2.1 120 = .ok (.iload 5, 2) := by decide +kernel
theorem k_Model_chains_122 : decode Y_Model_chains.2.1 122 = .ok (.bipush 7, 2) := by decide +kernel
theorem k_Model_chains_124 : decode Y_Model_chains.2.1 124 = .ok (.if_icmp .ge 16, 3) := by decide +kernel
theorem k_Model_chains_127 : decode Y_Model_chains.2.1 127 = .ok (.lload_n 3, 1) := by decide +kernel
theorem k_Model_chains_128 : decode Y_Model_chains.2.1 128 = .ok (.aload_n 2, 1) := by decide +kernel
theorem k_Model_chains_129 : decode Y_Model_chains.2.1 129 = .ok (.iload 5, 2) := by decide +kernel
theorem k_Model_chains_131 : decode Y_Model_chains.2.1 131 = .ok (.laload, 1) := by decide +kernel
theorem k_Model_chains_132 : decode Y_Model_chains.2.1 132 = .ok (.ladd, 1) := by decide +kernel
theorem k_Model_chains_133 : decode Y_Model_chains.2.1 133 = .ok (.lstore_n 3, 1) := by decide +kernel
theorem k_Model_chains_134 : decode Y_Model_chains.2.1 134 = .ok (.iinc 5 1, 3) := by decide +kernel
theorem k_Model_chains_137 : decode Y_Model_chains.2.1 137 = .ok (.goto (-17), 3) := by decide +kernel
theorem k_Model_chains_140 : decode Y_Model_chains.2.1 140 = .ok (.lload_n 3, 1) := by decide +kernel
theorem k_Model_chains_141 : decode Y_Model_chains.2.1 141 = .ok (.lreturn, 1) := by decide +kernel
theorem k_Model_agreeing_0 : decode Y_Model_agreeing.2.1 0 = .ok (.iload_n 1, 1) := by decide +kernel
theorem k_Model_agreeing_1 : decode Y_Model_agreeing.2.1 1 = .ok (.iconst 1, 1) := by decide +kernel
theorem k_Model_agreeing_2 : decode Y_Model_agreeing.2.1 2 = .ok (.if_icmp .lt 8, 3) := by decide +kernel
theorem k_Model_agreeing_5 : decode Y_Model_agreeing.2.1 5 = .ok (.iload_n 2, 1) := by decide +kernel
theorem k_Model_agreeing_6 : decode Y_Model_agreeing.2.1 6 = .ok (.iconst 1, 1) := by decide +kernel
theorem k_Model_agreeing_7 : decode Y_Model_agreeing.2.1 7 = .ok (.if_icmp .ge 15, 3) := by decide +kernel
theorem k_Model_agreeing_10 : decode Y_Model_agreeing.2.1 10 = .ok (.ldc2_w 172, 3) := by decide +kernel
theorem k_Model_agreeing_13 : decode Y_Model_agreeing.2.1 13 = .ok (.aload_n 0, 1) := by decide +kernel
theorem k_Model_agreeing_14 : decode Y_Model_agreeing.2.1 14 = .ok (.bipush (-4), 2) := by decide +kernel
theorem k_Model_agreeing_16 : decode Y_Model_agreeing.2.1 16 = .ok (.invokevirtual 49, 3) := by decide +kernel
theorem k_Model_agreeing_19 : decode Y_Model_agreeing.2.1 19 = .ok (.i2l, 1) := by decide +kernel
theorem k_Model_agreeing_20 : decode Y_Model_agreeing.2.1 20 = .ok (.lsub, 1) := by decide +kernel
theorem k_Model_agreeing_21 : decode Y_Model_agreeing.2.1 21 = .ok (.lreturn, 1) := by decide +kernel
theorem k_Model_agreeing_22 : decode Y_Model_agreeing.2.1 22 = .ok (.iload_n 1, 1) := by decide +kernel
theorem k_Model_agreeing_23 : decode Y_Model_agreeing.2.1 23 = .ok (.bipush 12, 2) := by decide +kernel
theorem k_Model_agreeing_25 : decode Y_Model_agreeing.2.1 25 = .ok (.if_icmp .gt 9, 3) := by decide +kernel
theorem k_Model_agreeing_28 : decode Y_Model_agreeing.2.1 28 = .ok (.iload_n 2, 1) := by decide +kernel
theorem k_Model_agreeing_29 : decode Y_Model_agreeing.2.1 29 = .ok (.bipush 12, 2) := by decide +kernel
theorem k_Model_agreeing_31 : decode Y_Model_agreeing.2.1 31 = .ok (.if_icmp .le 15, 3) := by decide +kernel
theorem k_Model_agreeing_34 : decode Y_Model_agreeing.2.1 34 = .ok (.ldc2_w 172, 3) := by decide +kernel
theorem k_Model_agreeing_37 : decode Y_Model_agreeing.2.1 37 = .ok (.aload_n 0, 1) := by decide +kernel
theorem k_Model_agreeing_38 : decode Y_Model_agreeing.2.1 38 = .ok (.bipush (-6), 2) := by decide +kernel
theorem k_Model_agreeing_40 : decode Y_Model_agreeing.2.1 40 = .ok (.invokevirtual 49, 3) := by decide +kernel
theorem k_Model_agreeing_43 : decode Y_Model_agreeing.2.1 43 = .ok (.i2l, 1) := by decide +kernel
theorem k_Model_agreeing_44 : decode Y_Model_agreeing.2.1 44 = .ok (.lsub, 1) := by decide +kernel
theorem k_Model_agreeing_45 : decode Y_Model_agreeing.2.1 45 = .ok (.lreturn, 1) := by decide +kernel
theorem k_Model_agreeing_46 : decode Y_Model_agreeing.2.1 46 = .ok (.lconst 1, 1) := by decide +kernel
theorem k_Model_agreeing_47 : decode Y_Model_agreeing.2.1 47 = .ok (.lstore_n 3, 1) := by decide +kernel
theorem k_Model_agreeing_48 : decode Y_Model_agreeing.2.1 48 = .ok (.iconst 0, 1) := by decide +kernel
theorem k_Model_agreeing_49 : decode Y_Model_agreeing.2.1 49 = .ok (.istore 5, 2) := by decide +kernel
theorem k_Model_agreeing_51 : decode Y_Model_agreeing.2.1 51 = .ok (.iload 5, 2) := by decide +kernel
theorem k_Model_agreeing_53 : decode Y_Model_agreeing.2.1 53 = .ok (.iload_n 2, 1) := by decide +kernel
theorem k_Model_agreeing_54 : decode Y_Model_agreeing.2.1 54 = .ok (.if_icmp .ge 32, 3) := by decide +kernel
theorem k_Model_agreeing_57 : decode Y_Model_agreeing.2.1 57 = .ok (.iload 5, 2) := by decide +kernel
theorem k_Model_agreeing_59 : decode Y_Model_agreeing.2.1 59 = .ok (.iload_n 1, 1) := by decide +kernel
theorem k_Model_agreeing_60 : decode Y_Model_agreeing.2.1 60 = .ok (.if_icmp .ge 26, 3) := by decide +kernel
theorem k_Model_agreeing_63 : decode Y_Model_agreeing.2.1 63 = .ok (.lload_n 3, 1) := by decide +kernel
theorem k_Model_agreeing_64 : decode Y_Model_agreeing.2.1 64 = .ok (.aload_n 0, 1) := by decide +kernel
theorem k_Model_agreeing_65 : decode Y_Model_agreeing.2.1 65 = .ok (.iload_n 1, 1) := by decide +kernel
theorem k_Model_agreeing_66 : decode Y_Model_agreeing.2.1 66 = .ok (.iload 5, 2) := by decide +kernel
theorem k_Model_agreeing_68 : decode Y_Model_agreeing.2.1 68 = .ok (.isub, 1) := by decide +kernel
theorem k_Model_agreeing_69 : decode Y_Model_agreeing.2.1 69 = .ok (.iload_n 2, 1) := by decide +kernel
theorem k_Model_agreeing_70 : decode Y_Model_agreeing.2.1 70 = .ok (.iadd, 1) := by decide +kernel
theorem k_Model_agreeing_71 : decode Y_Model_agreeing.2.1 71 = .ok (.iconst 1, 1) := by decide +kernel
theorem k_Model_agreeing_72 : decode Y_Model_agreeing.2.1 72 = .ok (.isub, 1) := by decide +kernel
theorem k_Model_agreeing_73 : decode Y_Model_agreeing.2.1 73 = .ok (.iload_n 2, 1) := by decide +kernel
theorem k_Model_agreeing_74 : decode Y_Model_agreeing.2.1 74 = .ok (.idiv, 1) := by decide +kernel
theorem k_Model_agreeing_75 : decode Y_Model_agreeing.2.1 75 = .ok (.invokevirtual 174, 3) := by decide +kernel
theorem k_Model_agreeing_78 : decode Y_Model_agreeing.2.1 78 = .ok (.lmul, 1) := by decide +kernel
theorem k_Model_agreeing_79 : decode Y_Model_agreeing.2.1 79 = .ok (.lstore_n 3, 1) := by decide +kernel
theorem k_Model_agreeing_80 : decode Y_Model_agreeing.2.1 80 = .ok (.iinc 5 1, 3) := by decide +kernel
theorem k_Model_agreeing_83 : decode Y_Model_agreeing.2.1 83 = .ok (.goto (-32), 3) := by decide +kernel
theorem k_Model_agreeing_86 : decode Y_Model_agreeing.2.1 86 = .ok (.lload_n 3, 1) := by decide +kernel
theorem k_Model_agreeing_87 : decode Y_Model_agreeing.2.1 87 = .ok (.lreturn, 1) := by decide +kernel
theorem k_Model_range_0 : decode Y_Model_range.2.1 0 = .ok (.aload_n 0, 1) := by decide +kernel
theorem k_Model_range_1 : decode Y_Model_range.2.1 1 = .ok (.iload_n 1, 1) := by decide +kernel
theorem k_Model_range_2 : decode Y_Model_range.2.1 2 = .ok (.invokevirtual 141, 3) := by decide +kernel
theorem k_Model_range_5 : decode Y_Model_range.2.1 5 = .ok (.ifCond .eq 12, 3) := by decide +kernel
theorem k_Model_range_8 : decode Y_Model_range.2.1 8 = .ok (.ldc 147, 2) := by decide +kernel
theorem k_Model_range_10 : decode Y_Model_range.2.1 10 = .ok (.aload_n 0, 1) := by decide +kernel
theorem k_Model_range_11 : decode Y_Model_range.2.1 11 = .ok (.iconst (-1), 1) := by decide +kernel
theorem k_Model_range_12 : decode Y_Model_range.2.1 12 = .ok (.invokevirtual 49, 3) := by decide +kernel
theorem k_Model_range_15 : decode Y_Model_range.2.1 15 = .ok (.isub, 1) := by decide +kernel
theorem k_Model_range_16 : decode Y_Model_range.2.1 16 = .ok (.ireturn, 1) := by decide +kernel
theorem k_Model_range_17 : decode Y_Model_range.2.1 17 = .ok (.iload_n 2, 1) := by decide +kernel
theorem k_Model_range_18 : decode Y_Model_range.2.1 18 = .ok (.ifCond .lt 8, 3) := by decide +kernel
theorem k_Model_range_21 : decode Y_Model_range.2.1 21 = .ok (.iload_n 2, 1) := by decide +kernel
theorem k_Model_range_22 : decode Y_Model_range.2.1 22 = .ok (.iconst 1, 1) := by decide +kernel
theorem k_Model_range_23 : decode Y_Model_range.2.1 23 = .ok (.if_icmp .le 13, 3) := by decide +kernel
theorem k_Model_range_26 : decode Y_Model_range.2.1 26 = .ok (.ldc 147, 2) := by decide +kernel
theorem k_Model_range_28 : decode Y_Model_range.2.1 28 = .ok (.aload_n 0, 1) := by decide +kernel
theorem k_Model_range_29 : decode Y_Model_range.2.1 29 = .ok (.bipush (-2), 2) := by decide +kernel
theorem k_Model_range_31 : decode Y_Model_range.2.1 31 = .ok (.invokevirtual 49, 3) := by decide +kernel
theorem k_Model_range_34 : decode Y_Model_range.2.1 34 = .ok (.isub, 1) := by decide +kernel
theorem k_Model_range_35 : decode Y_Model_range.2.1 35 = .ok (.ireturn, 1) := by decide +kernel
theorem k_Model_range_36 : decode Y_Model_range.2.1 36 = .ok (.aload_n 0, 1) := by decide +kernel
theorem k_Model_range_37 : decode Y_Model_range.2.1 37 = .ok (.getfield 13, 3) := by decide +kernel
theorem k_Model_range_40 : decode Y_Model_range.2.1 40 = .ok (.iconst 0, 1) := by decide +kernel
theorem k_Model_range_41 : decode Y_Model_range.2.1 41 = .ok (.iaload, 1) := by decide +kernel
theorem k_Model_range_42 : decode Y_Model_range.2.1 42 = .ok (.ifCond .ne 7, 3) := by decide +kernel
theorem k_Model_range_45 : decode Y_Model_range.2.1 45 = .ok (.sipush 999, 3) := by decide +kernel
theorem k_Model_range_48 : decode Y_Model_range.2.1 48 = .ok (.ireturn, 1) := by decide +kernel
theorem k_Model_range_49 : decode Y_Model_range.2.1 49 = .ok (.sipush 999, 3) := by decide +kernel
theorem k_Model_range_52 : decode Y_Model_range.2.1 52 = .ok (.istore_n 3, 1) := by decide +kernel
theorem k_Model_range_53 : decode Y_Model_range.2.1 53 = .ok (.sipush (-999), 3) := by decide +kernel
theorem k_Model_range_56 : decode Y_Model_range.2.1 56 = .ok (.istore 4, 2) := by decide +kernel
theorem k_Model_range_58 : decode Y_Model_range.2.1 58 = .ok (.aload_n 0, 1) := by decide +kernel
theorem k_Model_range_59 : decode Y_Model_range.2.1 59 = .ok (.getfield 13, 3) := by decide +kernel
theorem k_Model_range_62 : decode Y_Model_range.2.1 62 = .ok (.bipush 60, 2) := by decide +kernel
theorem k_Model_range_64 : decode Y_Model_range.2.1 64 = .ok (.iload_n 1, 1) := by decide +kernel
theorem k_Model_range_65 : decode Y_Model_range.2.1 65 = .ok (.iadd, 1) := by decide +kernel
theorem k_Model_range_66 : decode Y_Model_range.2.1 66 = .ok (.iaload, 1) := by decide +kernel
theorem k_Model_range_67 : decode Y_Model_range.2.1 67 = .ok (.istore 5, 2) := by decide +kernel
theorem k_Model_range_69 : decode Y_Model_range.2.1 69 = .ok (.iload 5, 2) := by decide +kernel
theorem k_Model_range_71 : decode Y_Model_range.2.1 71 = .ok (.aload_n 0, 1) := by decide +kernel
theorem k_Model_range_72 : decode Y_Model_range.2.1 72 = .ok (.iload_n 1, 1) := by decide +kernel
theorem k_Model_range_73 : decode Y_Model_range.2.1 73 = .ok (.invokevirtual 111, 3) := by decide +kernel
theorem k_Model_range_76 : decode Y_Model_range.2.1 76 = .ok (.if_icmp .ge 34, 3) := by decide +kernel
theorem k_Model_range_79 : decode Y_Model_range.2.1 79 = .ok (.aload_n 0, 1) := by decide +kernel
theorem k_Model_range_80 : decode Y_Model_range.2.1 80 = .ok (.iload_n 1, 1) := by decide +kernel
theorem k_Model_range_81 : decode Y_Model_range.2.1 81 = .ok (.iload 5, 2) := by decide +kernel
theorem k_Model_range_83 : decode Y_Model_range.2.1 83 = .ok (.invokevirtual 125, 3) := by decide +kernel
theorem k_Model_range_86 : decode Y_Model_range.2.1 86 = .ok (.istore 6, 2) := by decide +kernel
theorem k_Model_range_88 : decode Y_Model_range.2.1 88 = .ok (.iload_n 3, 1) := by decide +kernel
theorem k_Model_range_89 : decode Y_Model_range.2.1 89 = .ok (.iload 6, 2) := by decide +kernel
theorem k_Model_range_91 : decode Y_Model_range.2.1 91 = .ok (.invokestatic 169, 3) := by decide +kernel
theorem k_Model_range_94 : decode Y_Model_range.2.1 94 = .ok (.istore_n 3, 1) := by decide +kernel
theorem k_Model_range_95 : decode Y_Model_range.2.1 95 = .ok (.iload 4, 2) := by decide +kernel
theorem k_Model_range_97 : decode Y_Model_range.2.1 97 = .ok (.iload 6, 2) := by decide +kernel
theorem k_Model_range_99 : decode Y_Model_range.2.1 99 = .ok (.invokestatic 114, 3) := by decide +kernel
theorem k_Model_range_102 : decode Y_Model_range.2.1 102 = .ok (.istore 4, 2) := by decide +kernel
theorem k_Model_range_104 : decode Y_Model_range.2.1 104 = .ok (.iinc 5 1, 3) := by decide +kernel
theorem k_Model_range_107 : decode Y_Model_range.2.1 107 = .ok (.goto (-38), 3) := by decide +kernel
theorem k_Model_range_110 : decode Y_Model_range.2.1 110 = .ok (.iload_n 2, 1) := by decide +kernel
theorem k_Model_range_111 : decode Y_Model_range.2.1 111 = .ok (.ifCond .ne 7, 3) := by decide +kernel
theorem k_Model_range_114 : decode Y_Model_range.2.1 114 = .ok (.iload_n 3, 1) := by decide +kernel
theorem k_Model_range_115 : decode Y_Model_range.2.1 115 = .ok (.goto 5, 3) := by decide +kernel
theorem k_Model_range_118 : decode Y_Model_range.2.1 118 = .ok (.iload 4, 2) := by decide +kernel
theorem k_Model_range_120 : decode Y_Model_range.2.1 120 = .ok (.ireturn, 1) := by decide +kernel
theorem k_Model_stop_0 : decode Y_Model_stop.2.1 0 = .ok (.iload_n 1, 1) := by decide +kernel
theorem k_Model_stop_1 : decode Y_Model_stop.2.1 1 = .ok (.iconst 0, 1) := by decide +kernel
theorem k_Model_stop_2 : decode Y_Model_stop.2.1 2 = .ok (.sipush 400, 3) := by decide +kernel
theorem k_Model_stop_5 : decode Y_Model_stop.2.1 5 = .ok (.invokestatic 148, 3) := by decide +kernel
theorem k_Model_stop_8 : decode Y_Model_stop.2.1 8 = .ok (.ifCond .eq 16, 3) := by decide +kernel
theorem k_Model_stop_11 : decode Y_Model_stop.2.1 11 = .ok (.aload_n 0, 1) := by decide +kernel
theorem k_Model_stop_12 : decode Y_Model_stop.2.1 12 = .ok (.iload_n 1, 1) := by decide +kernel
theorem k_Model_stop_13 : decode Y_Model_stop.2.1 13 = .ok (.iconst 0, 1) := by decide +kernel
theorem k_Model_stop_14 : decode Y_Model_stop.2.1 14 = .ok (.sipush 400, 3) := by decide +kernel
theorem k_Model_stop_17 : decode Y_Model_stop.2.1 17 = .ok (.invokestatic 148, 3) := by decide +kernel
theorem k_Model_stop_20 : decode Y_Model_stop.2.1 20 = .ok (.invokevirtual 49, 3) := by decide +kernel
theorem k_Model_stop_23 : decode Y_Model_stop.2.1 23 = .ok (.ireturn, 1) := by decide +kernel
theorem k_Model_stop_24 : decode Y_Model_stop.2.1 24 = .ok (.iconst 0, 1) := by decide +kernel
theorem k_Model_stop_25 : decode Y_Model_stop.2.1 25 = .ok (.istore_n 2, 1) := by decide +kernel
theorem k_Model_stop_26 : decode Y_Model_stop.2.1 26 = .ok (.iconst 0, 1) := by decide +kernel
theorem k_Model_stop_27 : decode Y_Model_stop.2.1 27 = .ok (.istore_n 3, 1) := by decide +kernel
theorem k_Model_stop_28 : decode Y_Model_stop.2.1 28 = .ok (.iload_n 3, 1) := by decide +kernel
theorem k_Model_stop_29 : decode Y_Model_stop.2.1 29 = .ok (.aload_n 0, 1) := by decide +kernel
theorem k_Model_stop_30 : decode Y_Model_stop.2.1 30 = .ok (.getfield 13, 3) := by decide +kernel
theorem k_Model_stop_33 : decode Y_Model_stop.2.1 33 = .ok (.iconst 1, 1) := by decide +kernel
theorem k_Model_stop_34 : decode Y_Model_stop.2.1 34 = .ok (.iaload, 1) := by decide +kernel
theorem k_Model_stop_35 : decode Y_Model_stop.2.1 35 = .ok (.if_icmp .ge 78, 3) := by decide +kernel
theorem k_Model_stop_38 : decode Y_Model_stop.2.1 38 = .ok (.aload_n 0, 1) := by decide +kernel
theorem k_Model_stop_39 : decode Y_Model_stop.2.1 39 = .ok (.getfield 13, 3) := by decide +kernel
theorem k_Model_stop_42 : decode Y_Model_stop.2.1 42 = .ok (.iconst 0, 1) := by decide +kernel
theorem k_Model_stop_43 : decode Y_Model_stop.2.1 43 = .ok (.iaload, 1) := by decide +kernel
theorem k_Model_stop_44 : decode Y_Model_stop.2.1 44 = .ok (.ifCond .le 69, 3) := by decide +kernel
theorem k_Model_stop_47 : decode Y_Model_stop.2.1 47 = .ok (.aload_n 0, 1) := by decide +kernel
theorem k_Model_stop_48 : decode Y_Model_stop.2.1 48 = .ok (.getfield 13, 3) := by decide +kernel
theorem k_Model_stop_51 : decode Y_Model_stop.2.1 51 = .ok (.bipush 60, 2) := by decide +kernel
theorem k_Model_stop_53 : decode Y_Model_stop.2.1 53 = .ok (.iload_n 3, 1) := by decide +kernel
theorem k_Model_stop_54 : decode Y_Model_stop.2.1 54 = .ok (.iadd, 1) := by decide +kernel
theorem k_Model_stop_55 : decode Y_Model_stop.2.1 55 = .ok (.iaload, 1) := by decide +kernel
theorem k_Model_stop_56 : decode Y_Model_stop.2.1 56 = .ok (.istore 4, 2) := by decide +kernel
theorem k_Model_stop_58 : decode Y_Model_stop.2.1 58 = .ok (.aload_n 0, 1) := by decide +kernel
theorem k_Model_stop_59 : decode Y_Model_stop.2.1 59 = .ok (.aload_n 0, 1) := by decide +kernel
theorem k_Model_stop_60 : decode Y_Model_stop.2.1 60 = .ok (.getfield 13, 3) := by decide +kernel
theorem k_Model_stop_63 : decode Y_Model_stop.2.1 63 = .ok (.bipush 50, 2) := by decide +kernel
theorem k_Model_stop_65 : decode Y_Model_stop.2.1 65 = .ok (.iload_n 3, 1) := by decide +kernel
theorem k_Model_stop_66 : decode Y_Model_stop.2.1 66 = .ok (.iadd, 1) := by decide +kernel
theorem k_Model_stop_67 : decode Y_Model_stop.2.1 67 = .ok (.iaload, 1) := by decide +kernel
theorem k_Model_stop_68 : decode Y_Model_stop.2.1 68 = .ok (.invokevirtual 100, 3) := by decide +kernel
theorem k_Model_stop_71 : decode Y_Model_stop.2.1 71 = .ok (.istore 5, 2) := by decide +kernel
theorem k_Model_stop_73 : decode Y_Model_stop.2.1 73 = .ok (.iload 4, 2) := by decide +kernel
theorem k_Model_stop_75 : decode Y_Model_stop.2.1 75 = .ok (.iload_n 1, 1) := by decide +kernel
theorem k_Model_stop_76 : decode Y_Model_stop.2.1 76 = .ok (.if_icmp .gt 31, 3) := by decide +kernel
theorem k_Model_stop_79 : decode Y_Model_stop.2.1 79 = .ok (.iload_n 2, 1) := by decide +kernel
theorem k_Model_stop_80 : decode Y_Model_stop.2.1 80 = .ok (.aload_n 0, 1) := by decide +kernel
theorem k_Model_stop_81 : decode Y_Model_stop.2.1 81 = .ok (.iload_n 3, 1) := by decide +kernel
theorem k_Model_stop_82 : decode Y_Model_stop.2.1 82 = .ok (.invokevirtual 111, 3) := by decide +kernel
theorem k_Model_stop_85 : decode Y_Model_stop.2.1 85 = .ok (.iload 4, 2) := by decide +kernel
theorem k_Model_stop_87 : decode Y_Model_stop.2.1 87 = .ok (.iload 5, 2) := by decide +kernel
theorem k_Model_stop_89 : decode Y_Model_stop.2.1 89 = .ok (.iload_n 1, 1) := by decide +kernel
theorem k_Model_stop_90 : decode Y_Model_stop.2.1 90 = .ok (.iload 4, 2) := by decide +kernel
theorem k_Model_stop_92 : decode Y_Model_stop.2.1 92 = .ok (.isub, 1) := by decide +kernel
theorem k_Model_stop_93 : decode Y_Model_stop.2.1 93 = .ok (.iload 5, 2) := by decide +kernel
theorem k_Model_stop_95 : decode Y_Model_stop.2.1 95 = .ok (.idiv, 1) := by decide +kernel
theorem k_Model_stop_96 : decode Y_Model_stop.2.1 96 = .ok (.iconst 1, 1) := by decide +kernel
theorem k_Model_stop_97 : decode Y_Model_stop.2.1 97 = .ok (.iadd, 1) := by decide +kernel
theorem k_Model_stop_98 : decode Y_Model_stop.2.1 98 = .ok (.imul, 1) := by decide +kernel
theorem k_Model_stop_99 : decode Y_Model_stop.2.1 99 = .ok (.iadd, 1) := by decide +kernel
theorem k_Model_stop_100 : decode Y_Model_stop.2.1 100 = .ok (.invokestatic 169, 3) := by decide +kernel
theorem k_Model_stop_103 : decode Y_Model_stop.2.1 103 = .ok (.invokestatic 114, 3) := by decide +kernel
theorem k_Model_stop_106 : decode Y_Model_stop.2.1 106 = .ok (.istore_n 2, 1) := by decide +kernel
theorem k_Model_stop_107 : decode Y_Model_stop.2.1 107 = .ok (.iinc 3 1, 3) := by decide +kernel
theorem k_Model_stop_110 : decode Y_Model_stop.2.1 110 = .ok (.goto (-82), 3) := by decide +kernel
theorem k_Model_stop_113 : decode Y_Model_stop.2.1 113 = .ok (.iload_n 2, 1) := by decide +kernel
theorem k_Model_stop_114 : decode Y_Model_stop.2.1 114 = .ok (.ireturn, 1) := by decide +kernel
theorem k_Model_unison_0 : decode Y_Model_unison.2.1 0 = .ok (.iconst 0, 1) := by decide +kernel
theorem k_Model_unison_1 : decode Y_Model_unison.2.1 1 = .ok (.istore_n 1, 1) := by decide +kernel
theorem k_Model_unison_2 : decode Y_Model_unison.2.1 2 = .ok (.aload_n 0, 1) := by decide +kernel
theorem k_Model_unison_3 : decode Y_Model_unison.2.1 3 = .ok (.invokevirtual 131, 3) := by decide +kernel
theorem k_Model_unison_6 : decode Y_Model_unison.2.1 6 = .ok (.istore_n 2, 1) := by decide +kernel
theorem k_Model_unison_7 : decode Y_Model_unison.2.1 7 = .ok (.iconst 0, 1) := by decide +kernel
theorem k_Model_unison_8 : decode Y_Model_unison.2.1 8 = .ok (.istore_n 3, 1) := by decide +kernel
theorem k_Model_unison_9 : decode Y_Model_unison.2.1 9 = .ok (.iload_n 3, 1) := by decide +kernel
theorem k_Model_unison_10 : decode Y_Model_unison.2.1 10 = .ok (.iload_n 2, 1) := by decide +kernel
theorem k_Model_unison_11 : decode Y_Model_unison.2.1 11 = .ok (.if_icmp .ge 109, 3) := by decide +kernel
theorem k_Model_unison_14 : decode Y_Model_unison.2.1 14 = .ok (.iconst 0, 1) := by decide +kernel
theorem k_Model_unison_15 : decode Y_Model_unison.2.1 15 = .ok (.istore 4, 2) := by decide +kernel
theorem k_Model_unison_17 : decode Y_Model_unison.2.1 17 = .ok (.iconst 0, 1) := by decide +kernel
theorem k_Model_unison_18 : decode Y_Model_unison.2.1 18 = .ok (.istore 5, 2) := by decide +kernel
theorem k_Model_unison_20 : decode Y_Model_unison.2.1 20 = .ok (.iload 5, 2) := by decide +kernel
theorem k_Model_unison_22 : decode Y_Model_unison.2.1 22 = .ok (.aload_n 0, 1) := by decide +kernel
theorem k_Model_unison_23 : decode Y_Model_unison.2.1 23 = .ok (.getfield 13, 3) := by decide +kernel
theorem k_Model_unison_26 : decode Y_Model_unison.2.1 26 = .ok (.iconst 1, 1) := by decide +kernel
theorem k_Model_unison_27 : decode Y_Model_unison.2.1 27 = .ok (.iaload, 1) := by decide +kernel
theorem k_Model_unison_28 : decode Y_Model_unison.2.1 28 = .ok (.if_icmp .ge 73, 3) := by decide +kernel
theorem k_Model_unison_31 : decode Y_Model_unison.2.1 31 = .ok (.aload_n 0, 1) := by decide +kernel
theorem k_Model_unison_32 : decode Y_Model_unison.2.1 32 = .ok (.iload 5, 2) := by decide +kernel
theorem k_Model_unison_34 : decode Y_Model_unison.2.1 34 = .ok (.iload_n 3, 1) := by decide +kernel
theorem k_Model_unison_35 : decode Y_Model_unison.2.1 35 = .ok (.invokevirtual 125, 3) := by decide +kernel
theorem k_Model_unison_38 : decode Y_Model_unison.2.1 38 = .ok (.istore 6, 2) := by decide +kernel
theorem k_Model_unison_40 : decode Y_Model_unison.2.1 40 = .ok (.iload 5, 2) := by decide +kernel
theorem k_Model_unison_42 : decode Y_Model_unison.2.1 42 = .ok (.iconst 1, 1) := by decide +kernel
theorem k_Model_unison_43 : decode Y_Model_unison.2.1 43 = .ok (.iadd, 1) := by decide +kernel
theorem k_Model_unison_44 : decode Y_Model_unison.2.1 44 = .ok (.istore 7, 2) := by decide +kernel
theorem k_Model_unison_46 : decode Y_Model_unison.2.1 46 = .ok (.iload 7, 2) := by decide +kernel
theorem k_Model_unison_48 : decode Y_Model_unison.2.1 48 = .ok (.aload_n 0, 1) := by decide +kernel
theorem k_Model_unison_49 : decode Y_Model_unison.2.1 49 = .ok (.getfield 13, 3) := by decide +kernel
theorem k_Model_unison_52 : decode Y_Model_unison.2.1 52 = .ok (.iconst 1, 1) := by decide +kernel
theorem k_Model_unison_53 : decode Y_Model_unison.2.1 53 = .ok (.iaload, 1) := by decide +kernel
theorem k_Model_unison_54 : decode Y_Model_unison.2.1 54 = .ok (.if_icmp .ge 41, 3) := by decide +kernel
theorem k_Model_unison_57 : decode Y_Model_unison.2.1 57 = .ok (.iload 4, 2) := by decide +kernel
theorem k_Model_unison_59 : decode Y_Model_unison.2.1 59 = .ok (.ifCond .ne 23, 3) := by decide +kernel
theorem k_Model_unison_62 : decode Y_Model_unison.2.1 62 = .ok (.iload 6, 2) := by decide +kernel
theorem k_Model_unison_64 : decode Y_Model_unison.2.1 64 = .ok (.sipush 999, 3) := by decide +kernel
theorem k_Model_unison_67 : decode Y_Model_unison.2.1 67 = .ok (.if_icmp .eq 19, 3) := by decide +kernel
theorem k_Model_unison_70 : decode Y_Model_unison.2.1 70 = .ok (.iload 6, 2) := by decide +kernel
theorem k_Model_unison_72 : decode Y_Model_unison.2.1 72 = .ok (.aload_n 0, 1) := by decide +kernel
theorem k_Model_unison_73 : decode Y_Model_unison.2.1 73 = .ok (.iload 7, 2) := by decide +kernel
theorem k_Model_unison_75 : decode Y_Model_unison.2.1 75 = .ok (.iload_n 3, 1) := by decide +kernel
theorem k_Model_unison_76 : decode Y_Model_unison.2.1 76 = .ok (.invokevirtual 125, 3) := by decide +kernel
theorem k_Model_unison_79 : decode Y_Model_unison.2.1 79 = .ok (.if_icmp .ne 7, 3) := by decide +kernel
theorem k_Model_unison_82 : decode Y_Model_unison.2.1 82 = .ok (.iconst 1, 1) := by decide +kernel
theorem k_Model_unison_83 : decode Y_Model_unison.2.1 83 = .ok (.goto 4, 3) := by decide +kernel
theorem k_Model_unison_86 : decode Y_Model_unison.2.1 86 = .ok (.iconst 0, 1) := by decide +kernel
theorem k_Model_unison_87 : decode Y_Model_unison.2.1 87 = .ok (.istore 4, 2) := by decide +kernel
theorem k_Model_unison_89 : decode Y_Model_unison.2.1 89 = .ok (.iinc 7 1, 3) := by decide +kernel
theorem k_Model_unison_92 : decode Y_Model_unison.2.1 92 = .ok (.goto (-46), 3) := by decide +kernel
theorem k_Model_unison_95 : decode Y_Model_unison.2.1 95 = .ok (.iinc 5 1, 3) := by decide +kernel
theorem k_Model_unison_98 : decode Y_Model_unison.2.1 98 = .ok (.goto (-78), 3) := by decide +kernel
theorem k_Model_unison_101 : decode Y_Model_unison.2.1 101 = .ok (.iload_n 1, 1) := by decide +kernel
theorem k_Model_unison_102 : decode Y_Model_unison.2.1 102 = .ok (.iload 4, 2) := by decide +kernel
theorem k_Model_unison_104 : decode Y_Model_unison.2.1 104 = .ok (.ifCond .eq 7, 3) := by decide +kernel
theorem k_Model_unison_107 : decode Y_Model_unison.2.1 107 = .ok (.iconst 1, 1) := by decide +kernel
theorem k_Model_unison_108 : decode Y_Model_unison.2.1 108 = .ok (.goto 4, 3) := by decide +kernel
theorem k_Model_unison_111 : decode Y_Model_unison.2.1 111 = .ok (.iconst 0, 1) := by decide +kernel
theorem k_Model_unison_112 : decode Y_Model_unison.2.1 112 = .ok (.iadd, 1) := by decide +kernel
theorem k_Model_unison_113 : decode Y_Model_unison.2.1 113 = .ok (.istore_n 1, 1) := by decide +kernel
theorem k_Model_unison_114 : decode Y_Model_unison.2.1 114 = .ok (.iinc 3 1, 3) := by decide +kernel
theorem k_Model_unison_117 : decode Y_Model_unison.2.1 117 = .ok (.goto (-108), 3) := by decide +kernel
theorem k_Model_unison_120 : decode Y_Model_unison.2.1 120 = .ok (.iload_n 1, 1) := by decide +kernel
theorem k_Model_unison_121 : decode Y_Model_unison.2.1 121 = .ok (.ireturn, 1) := by decide +kernel
theorem k_Model_row_0 : decode Y_Model_row.2.1 0 = .ok (.iload_n 1, 1) := by decide +kernel
theorem k_Model_row_1 : decode Y_Model_row.2.1 1 = .ok (.ifCond .ge 10, 3) := by decide +kernel
theorem k_Model_row_4 : decode Y_Model_row.2.1 4 = .ok (.aload_n 0, 1) := by decide +kernel
theorem k_Model_row_5 : decode Y_Model_row.2.1 5 = .ok (.bipush (-4), 2) := by decide +kernel
theorem k_Model_row_7 : decode Y_Model_row.2.1 7 = .ok (.invokevirtual 49, 3) := by decide +kernel
theorem k_Model_row_10 : decode Y_Model_row.2.1 10 = .ok (.ireturn, 1) := by decide +kernel
theorem k_Model_row_11 : decode Y_Model_row.2.1 11 = .ok (.iload_n 1, 1) := by decide +kernel
theorem k_Model_row_12 : decode Y_Model_row.2.1 12 = .ok (.bipush 60, 2) := by decide +kernel
theorem k_Model_row_14 : decode Y_Model_row.2.1 14 = .ok (.if_icmp .gt 12, 3) := by decide +kernel
theorem k_Model_row_17 : decode Y_Model_row.2.1 17 = .ok (.aload_n 0, 1) := by decide +kernel
theorem k_Model_row_18 : decode Y_Model_row.2.1 18 = .ok (.getfield 178, 3) := by decide +kernel
theorem k_Model_row_21 : decode Y_Model_row.2.1 21 = .ok (.bipush 12, 2) := by decide +kernel
theorem k_Model_row_23 : decode Y_Model_row.2.1 23 = .ok (.if_icmp .ne 10, 3) := by decide +kernel
theorem k_Model_row_26 : decode Y_Model_row.2.1 26 = .ok (.aload_n 0, 1) := by decide +kernel
theorem k_Model_row_27 : decode Y_Model_row.2.1 27 = .ok (.bipush (-6), 2) := by decide +kernel
theorem k_Model_row_29 : decode Y_Model_row.2.1 29 = .ok (.invokevirtual 49, 3) := by decide +kernel
theorem k_Model_row_32 : decode Y_Model_row.2.1 32 = .ok (.ireturn, 1) := by decide +kernel
theorem k_Model_row_33 : decode Y_Model_row.2.1 33 = .ok (.aload_n 0, 1) := by decide +kernel
theorem k_Model_row_34 : decode Y_Model_row.2.1 34 = .ok (.getfield 38, 3) := by decide +kernel
theorem k_Model_row_37 : decode Y_Model_row.2.1 37 = .ok (.aload_n 0, 1) := by decide +kernel
theorem k_Model_row_38 : decode Y_Model_row.2.1 38 = .ok (.getfield 178, 3) := by decide +kernel
theorem k_Model_row_41 : decode Y_Model_row.2.1 41 = .ok (.iload_n 1, 1) := by decide +kernel
theorem k_Model_row_42 : decode Y_Model_row.2.1 42 = .ok (.iastore, 1) := by decide +kernel
theorem k_Model_row_43 : decode Y_Model_row.2.1 43 = .ok (.aload_n 0, 1) := by decide +kernel
theorem k_Model_row_44 : decode Y_Model_row.2.1 44 = .ok (.dup, 1) := by decide +kernel
theorem k_Model_row_45 : decode Y_Model_row.2.1 45 = .ok (.getfield 178, 3) := by decide +kernel
theorem k_Model_row_48 : decode Y_Model_row.2.1 48 = .ok (.iconst 1, 1) := by decide +kernel
theorem k_Model_row_49 : decode Y_Model_row.2.1 49 = .ok (.iadd, 1) := by decide +kernel
theorem k_Model_row_50 : decode Y_Model_row.2.1 50 = .ok (.putfield 178, 3) := by decide +kernel
theorem k_Model_row_53 : decode Y_Model_row.2.1 53 = .ok (.aload_n 0, 1) := by decide +kernel
theorem k_Model_row_54 : decode Y_Model_row.2.1 54 = .ok (.getfield 178, 3) := by decide +kernel
theorem k_Model_row_57 : decode Y_Model_row.2.1 57 = .ok (.ireturn, 1) := by decide +kernel
theorem k_Model_unlike_0 : decode Y_Model_unlike.2.1 0 = .ok (.iconst 0, 1) := by decide +kernel
theorem k_Model_unlike_1 : decode Y_Model_unlike.2.1 1 = .ok (.istore 4, 2) := by decide +kernel
theorem k_Model_unlike_3 : decode Y_Model_unlike.2.1 3 = .ok (.iload 4, 2) := by decide +kernel
theorem k_Model_unlike_5 : decode Y_Model_unlike.2.1 5 = .ok (.iload_n 3, 1) := by decide +kernel
theorem k_Model_unlike_6 : decode Y_Model_unlike.2.1 6 = .ok (.if_icmp .ge 51, 3) := by decide +kernel
theorem k_Model_unlike_9 : decode Y_Model_unlike.2.1 9 = .ok (.aload_n 0, 1) := by decide +kernel
theorem k_Model_unlike_10 : decode Y_Model_unlike.2.1 10 = .ok (.iload_n 1, 1) := by decide +kernel
theorem k_Model_unlike_11 : decode Y_Model_unlike.2.1 11 = .ok (.iload_n 2, 1) := by decide +kernel
theorem k_Model_unlike_12 : decode Y_Model_unlike.2.1 12 = .ok (.iload 4, 2) := by decide +kernel
theorem k_Model_unlike_14 : decode Y_Model_unlike.2.1 14 = .ok (.iadd, 1) := by decide +kernel
theorem k_Model_unlike_15 : decode Y_Model_unlike.2.1 15 = .ok (.invokevirtual 125, 3) := by decide +kernel
theorem k_Model_unlike_18 : decode Y_Model_unlike.2.1 18 = .ok (.istore 5, 2) := by decide +kernel
theorem k_Model_unlike_20 : decode Y_Model_unlike.2.1 20 = .ok (.aload_n 0, 1) := by decide +kernel
theorem k_Model_unlike_21 : decode Y_Model_unlike.2.1 21 = .ok (.getfield 38, 3) := by decide +kernel
theorem k_Model_unlike_24 : decode Y_Model_unlike.2.1 24 = .ok (.iload 4, 2) := by decide +kernel
theorem k_Model_unlike_26 : decode Y_Model_unlike.2.1 26 = .ok (.iaload, 1) := by decide +kernel
theorem k_Model_unlike_27 : decode Y_Model_unlike.2.1 27 = .ok (.iload 5, 2) := by decide +kernel
theorem k_Model_unlike_29 : decode Y_Model_unlike.2.1 29 = .ok (.sipush 999, 3) := by decide +kernel
theorem k_Model_unlike_32 : decode Y_Model_unlike.2.1 32 = .ok (.if_icmp .ne 8, 3) := by decide +kernel
theorem k_Model_unlike_35 : decode Y_Model_unlike.2.1 35 = .ok (.bipush 60, 2) := by decide +kernel
theorem k_Model_unlike_37 : decode Y_Model_unlike.2.1 37 = .ok (.goto 8, 3) := by decide +kernel
theorem k_Model_unlike_40 : decode Y_Model_unlike.2.1 40 = .ok (.iload 5, 2) := by decide +kernel
theorem k_Model_unlike_42 : decode Y_Model_unlike.2.1 42 = .ok (.bipush 10, 2) := by decide +kernel
theorem k_Model_unlike_44 : decode Y_Model_unlike.2.1 44 = .ok (.iadd, 1) := by decide +kernel
theorem k_Model_unlike_45 : decode Y_Model_unlike.2.1 45 = .ok (.if_icmp .eq 6, 3) := by decide +kernel
theorem k_Model_unlike_48 : decode Y_Model_unlike.2.1 48 = .ok (.iload 4, 2) := by decide +kernel
theorem k_Model_unlike_50 : decode Y_Model_unlike.2.1 50 = .ok (.ireturn, 1) := by decide +kernel
theorem k_Model_unlike_51 : decode Y_Model_unlike.2.1 51 = .ok (.iinc 4 1, 3) := by decide +kernel
theorem k_Model_unlike_54 : decode Y_Model_unlike.2.1 54 = .ok (.goto (-51), 3) := by decide +kernel
theorem k_Model_unlike_57 : decode Y_Model_unlike.2.1 57 = .ok (.bipush (-9), 2) := by decide +kernel
theorem k_Model_unlike_59 : decode Y_Model_unlike.2.1 59 = .ok (.ireturn, 1) := by decide +kernel
theorem k_Model_who_0 : decode Y_Model_who.2.1 0 = .ok (.iload_n 1, 1) := by decide +kernel
theorem k_Model_who_1 : decode Y_Model_who.2.1 1 = .ok (.iconst 0, 1) := by decide +kernel
theorem k_Model_who_2 : decode Y_Model_who.2.1 2 = .ok (.sipush 400, 3) := by decide +kernel
theorem k_Model_who_5 : decode Y_Model_who.2.1 5 = .ok (.invokestatic 148, 3) := by decide +kernel
theorem k_Model_who_8 : decode Y_Model_who.2.1 8 = .ok (.ifCond .eq 16, 3) := by decide +kernel
theorem k_Model_who_11 : decode Y_Model_who.2.1 11 = .ok (.aload_n 0, 1) := by decide +kernel
theorem k_Model_who_12 : decode Y_Model_who.2.1 12 = .ok (.iload_n 1, 1) := by decide +kernel
theorem k_Model_who_13 : decode Y_Model_who.2.1 13 = .ok (.iconst 0, 1) := by decide +kernel
theorem k_Model_who_14 : decode Y_Model_who.2.1 14 = .ok (.sipush 400, 3) := by decide +kernel
theorem k_Model_who_17 : decode Y_Model_who.2.1 17 = .ok (.invokestatic 148, 3) := by decide +kernel
theorem k_Model_who_20 : decode Y_Model_who.2.1 20 = .ok (.invokevirtual 49, 3) := by decide +kernel
theorem k_Model_who_23 : decode Y_Model_who.2.1 23 = .ok (.ireturn, 1) := by decide +kernel
theorem k_Model_who_24 : decode Y_Model_who.2.1 24 = .ok (.iconst 0, 1) := by decide +kernel
theorem k_Model_who_25 : decode Y_Model_who.2.1 25 = .ok (.istore_n 2, 1) := by decide +kernel
theorem k_Model_who_26 : decode Y_Model_who.2.1 26 = .ok (.iconst 0, 1) := by decide +kernel
theorem k_Model_who_27 : decode Y_Model_who.2.1 27 = .ok (.istore_n 3, 1) := by decide +kernel
theorem k_Model_who_28 : decode Y_Model_who.2.1 28 = .ok (.iload_n 3, 1) := by decide +kernel
theorem k_Model_who_29 : decode Y_Model_who.2.1 29 = .ok (.aload_n 0, 1) := by decide +kernel
theorem k_Model_who_30 : decode Y_Model_who.2.1 30 = .ok (.getfield 13, 3) := by decide +kernel
theorem k_Model_who_33 : decode Y_Model_who.2.1 33 = .ok (.iconst 1, 1) := by decide +kernel
theorem k_Model_who_34 : decode Y_Model_who.2.1 34 = .ok (.iaload, 1) := by decide +kernel
theorem k_Model_who_35 : decode Y_Model_who.2.1 35 = .ok (.if_icmp .ge 34, 3) := by decide +kernel
theorem k_Model_who_38 : decode Y_Model_who.2.1 38 = .ok (.iload_n 2, 1) := by decide +kernel
theorem k_Model_who_39 : decode Y_Model_who.2.1 39 = .ok (.aload_n 0, 1) := by decide +kernel
theorem k_Model_who_40 : decode Y_Model_who.2.1 40 = .ok (.iload_n 3, 1) := by decide +kernel
theorem k_Model_who_41 : decode Y_Model_who.2.1 41 = .ok (.iload_n 1, 1) := by decide +kernel
theorem k_Model_who_42 : decode Y_Model_who.2.1 42 = .ok (.aload_n 0, 1) := by decide +kernel
theorem k_Model_who_43 : decode Y_Model_who.2.1 43 = .ok (.getfield 178, 3) := by decide +kernel
theorem k_Model_who_46 : decode Y_Model_who.2.1 46 = .ok (.invokevirtual 181, 3) := by decide +kernel
theorem k_Model_who_49 : decode Y_Model_who.2.1 49 = .ok (.bipush (-9), 2) := by decide +kernel
theorem k_Model_who_51 : decode Y_Model_who.2.1 51 = .ok (.if_icmp .ne 9, 3) := by decide +kernel
theorem k_Model_who_54 : decode Y_Model_who.2.1 54 = .ok (.iconst 1, 1) := by decide +kernel
theorem k_Model_who_55 : decode Y_Model_who.2.1 55 = .ok (.iload_n 3, 1) := by decide +kernel
theorem k_Model_who_56 : decode Y_Model_who.2.1 56 = .ok (.ishl, 1) := by decide +kernel
theorem k_Model_who_57 : decode Y_Model_who.2.1 57 = .ok (.goto 4, 3) := by decide +kernel
theorem k_Model_who_60 : decode Y_Model_who.2.1 60 = .ok (.iconst 0, 1) := by decide +kernel
theorem k_Model_who_61 : decode Y_Model_who.2.1 61 = .ok (.ior, 1) := by decide +kernel
theorem k_Model_who_62 : decode Y_Model_who.2.1 62 = .ok (.istore_n 2, 1) := by decide +kernel
theorem k_Model_who_63 : decode Y_Model_who.2.1 63 = .ok (.iinc 3 1, 3) := by decide +kernel
theorem k_Model_who_66 : decode Y_Model_who.2.1 66 = .ok (.goto (-38), 3) := by decide +kernel
theorem k_Model_who_69 : decode Y_Model_who.2.1 69 = .ok (.iload_n 2, 1) := by decide +kernel
theorem k_Model_who_70 : decode Y_Model_who.2.1 70 = .ok (.ireturn, 1) := by decide +kernel
theorem k_Model_judge_0 : decode Y_Model_judge.2.1 0 = .ok (.aload_n 0, 1) := by decide +kernel
theorem k_Model_judge_1 : decode Y_Model_judge.2.1 1 = .ok (.iload_n 1, 1) := by decide +kernel
theorem k_Model_judge_2 : decode Y_Model_judge.2.1 2 = .ok (.invokevirtual 141, 3) := by decide +kernel
theorem k_Model_judge_5 : decode Y_Model_judge.2.1 5 = .ok (.ifCond .eq 9, 3) := by decide +kernel
theorem k_Model_judge_8 : decode Y_Model_judge.2.1 8 = .ok (.aload_n 0, 1) := by decide +kernel
theorem k_Model_judge_9 : decode Y_Model_judge.2.1 9 = .ok (.iconst (-1), 1) := by decide +kernel
theorem k_Model_judge_10 : decode Y_Model_judge.2.1 10 = .ok (.invokevirtual 49, 3) := by decide +kernel
theorem k_Model_judge_13 : decode Y_Model_judge.2.1 13 = .ok (.ireturn, 1) := by decide +kernel
theorem k_Model_judge_14 : decode Y_Model_judge.2.1 14 = .ok (.iload_n 2, 1) := by decide +kernel
theorem k_Model_judge_15 : decode Y_Model_judge.2.1 15 = .ok (.iconst 0, 1) := by decide +kernel
theorem k_Model_judge_16 : decode Y_Model_judge.2.1 16 = .ok (.sipush 400, 3) := by decide +kernel
theorem k_Model_judge_19 : decode Y_Model_judge.2.1 19 = .ok (.invokestatic 148, 3) := by decide +kernel
theorem k_Model_judge_22 : decode Y_Model_judge.2.1 22 = .ok (.ifCond .eq 16, 3) := by decide +kernel
theorem k_Model_judge_25 : decode Y_Model_judge.2.1 25 = .ok (.aload_n 0, 1) := by decide +kernel
theorem k_Model_judge_26 : decode Y_Model_judge.2.1 26 = .ok (.iload_n 2, 1) := by decide +kernel
theorem k_Model_judge_27 : decode Y_Model_judge.2.1 27 = .ok (.iconst 0, 1) := by decide +kernel
theorem k_Model_judge_28 : decode Y_Model_judge.2.1 28 = .ok (.sipush 400, 3) := by decide +kernel
theorem k_Model_judge_31 : decode Y_Model_judge.2.1 31 = .ok (.invokestatic 148, 3) := by decide +kernel
theorem k_Model_judge_34 : decode Y_Model_judge.2.1 34 = .ok (.invokevirtual 49, 3) := by decide +kernel
theorem k_Model_judge_37 : decode Y_Model_judge.2.1 37 = .ok (.ireturn, 1) := by decide +kernel
theorem k_Model_judge_38 : decode Y_Model_judge.2.1 38 = .ok (.aload_n 0, 1) := by decide +kernel
theorem k_Model_judge_39 : decode Y_Model_judge.2.1 39 = .ok (.getfield 178, 3) := by decide +kernel
theorem k_Model_judge_42 : decode Y_Model_judge.2.1 42 = .ok (.istore_n 3, 1) := by decide +kernel
theorem k_Model_judge_43 : decode Y_Model_judge.2.1 43 = .ok (.aload_n 0, 1) := by decide +kernel
theorem k_Model_judge_44 : decode Y_Model_judge.2.1 44 = .ok (.iconst 0, 1) := by decide +kernel
theorem k_Model_judge_45 : decode Y_Model_judge.2.1 45 = .ok (.putfield 178, 3) := by decide +kernel
theorem k_Model_judge_48 : decode Y_Model_judge.2.1 48 = .ok (.aload_n 0, 1) := by decide +kernel
theorem k_Model_judge_49 : decode Y_Model_judge.2.1 49 = .ok (.iload_n 1, 1) := by decide +kernel
theorem k_Model_judge_50 : decode Y_Model_judge.2.1 50 = .ok (.iload_n 2, 1) := by decide +kernel
theorem k_Model_judge_51 : decode Y_Model_judge.2.1 51 = .ok (.iload_n 3, 1) := by decide +kernel
theorem k_Model_judge_52 : decode Y_Model_judge.2.1 52 = .ok (.invokevirtual 181, 3) := by decide +kernel
theorem k_Model_judge_55 : decode Y_Model_judge.2.1 55 = .ok (.ireturn, 1) := by decide +kernel
theorem k_Model_seeds_0 : decode Y_Model_seeds.2.1 0 = .ok (.iload_n 1, 1) := by decide +kernel
theorem k_Model_seeds_1 : decode Y_Model_seeds.2.1 1 = .ok (.iconst 1, 1) := by decide +kernel
theorem k_Model_seeds_2 : decode Y_Model_seeds.2.1 2 = .ok (.bipush 20, 2) := by decide +kernel
theorem k_Model_seeds_4 : decode Y_Model_seeds.2.1 4 = .ok (.invokestatic 148, 3) := by decide +kernel
theorem k_Model_seeds_7 : decode Y_Model_seeds.2.1 7 = .ok (.ifCond .eq 15, 3) := by decide +kernel
theorem k_Model_seeds_10 : decode Y_Model_seeds.2.1 10 = .ok (.aload_n 0, 1) := by decide +kernel
theorem k_Model_seeds_11 : decode Y_Model_seeds.2.1 11 = .ok (.iload_n 1, 1) := by decide +kernel
theorem k_Model_seeds_12 : decode Y_Model_seeds.2.1 12 = .ok (.iconst 1, 1) := by decide +kernel
theorem k_Model_seeds_13 : decode Y_Model_seeds.2.1 13 = .ok (.bipush 20, 2) := by decide +kernel
theorem k_Model_seeds_15 : decode Y_Model_seeds.2.1 15 = .ok (.invokestatic 148, 3) := by decide +kernel
theorem k_Model_seeds_18 : decode Y_Model_seeds.2.1 18 = .ok (.invokevirtual 49, 3) := by decide +kernel
theorem k_Model_seeds_21 : decode Y_Model_seeds.2.1 21 = .ok (.ireturn, 1) := by decide +kernel
theorem k_Model_seeds_22 : decode Y_Model_seeds.2.1 22 = .ok (.aload_n 0, 1) := by decide +kernel
theorem k_Model_seeds_23 : decode Y_Model_seeds.2.1 23 = .ok (.getfield 13, 3) := by decide +kernel
theorem k_Model_seeds_26 : decode Y_Model_seeds.2.1 26 = .ok (.aload_n 0, 1) := by decide +kernel
theorem k_Model_seeds_27 : decode Y_Model_seeds.2.1 27 = .ok (.getfield 19, 3) := by decide +kernel
theorem k_Model_seeds_30 : decode Y_Model_seeds.2.1 30 = .ok (.invokestatic 45, 3) := by decide +kernel
theorem k_Model_seeds_33 : decode Y_Model_seeds.2.1 33 = .ok (.iload_n 2, 1) := by decide +kernel
theorem k_Model_seeds_34 : decode Y_Model_seeds.2.1 34 = .ok (.istore_n 3, 1) := by decide +kernel
theorem k_Model_seeds_35 : decode Y_Model_seeds.2.1 35 = .ok (.iconst 0, 1) := by decide +kernel
theorem k_Model_seeds_36 : decode Y_Model_seeds.2.1 36 = .ok (.istore 4, 2) := by decide +kernel
theorem k_Model_seeds_38 : decode Y_Model_seeds.2.1 38 = .ok (.iconst 0, 1) := by decide +kernel
theorem k_Model_seeds_39 : decode Y_Model_seeds.2.1 39 = .ok (.istore 5, 2) := by decide +kernel
theorem k_Model_seeds_41 : decode Y_Model_seeds.2.1 41 = .ok (.iload 5, 2) := by decide +kernel
theorem k_Model_seeds_43 : decode Y_Model_seeds.2.1 43 = .ok (.iload_n 1, 1) := by decide +kernel
theorem k_Model_seeds_44 : decode Y_Model_seeds.2.1 44 = .ok (.if_icmp .ge 75, 3) := by decide +kernel
theorem k_Model_seeds_47 : decode Y_Model_seeds.2.1 47 = .ok (.iconst 0, 1) := by decide +kernel
theorem k_Model_seeds_48 : decode Y_Model_seeds.2.1 48 = .ok (.istore 6, 2) := by decide +kernel
theorem k_Model_seeds_50 : decode Y_Model_seeds.2.1 50 = .ok (.iload 6, 2) := by decide +kernel
theorem k_Model_seeds_52 : decode Y_Model_seeds.2.1 52 = .ok (.aload_n 0, 1) := by decide +kernel
theorem k_Model_seeds_53 : decode Y_Model_seeds.2.1 53 = .ok (.getfield 13, 3) := by decide +kernel
theorem k_Model_seeds_56 : decode Y_Model_seeds.2.1 56 = .ok (.iconst 0, 1) := by decide +kernel
theorem k_Model_seeds_57 : decode Y_Model_seeds.2.1 57 = .ok (.iaload, 1) := by decide +kernel
theorem k_Model_seeds_58 : decode Y_Model_seeds.2.1 58 = .ok (.if_icmp .ge 38, 3) := by decide +kernel
theorem k_Model_seeds_61 : decode Y_Model_seeds.2.1 61 = .ok (.iload_n 3, 1) := by decide +kernel
theorem k_Model_seeds_62 : decode Y_Model_seeds.2.1 62 = .ok (.ldc 184, 2) := by decide +kernel
theorem k_Model_seeds_64 : decode Y_Model_seeds.2.1 64 = .ok (.imul, 1) := by decide +kernel
theorem k_Model_seeds_65 : decode Y_Model_seeds.2.1 65 = .ok (.ldc 185, 2) := by decide +kernel
theorem k_Model_seeds_67 : decode Y_Model_seeds.2.1 67 = .ok (.iadd, 1) := by decide +kernel
theorem k_Model_seeds_68 : decode Y_Model_seeds.2.1 68 = .ok (.istore_n 3, 1) := by decide +kernel
theorem k_Model_seeds_69 : decode Y_Model_seeds.2.1 69 = .ok (.aload_n 0, 1) := by decide +kernel
theorem k_Model_seeds_70 : decode Y_Model_seeds.2.1 70 = .ok (.getfield 13, 3) := by decide +kernel
theorem k_Model_seeds_73 : decode Y_Model_seeds.2.1 73 = .ok (.bipush 10, 2) := by decide +kernel
theorem k_Model_seeds_75 : decode Y_Model_seeds.2.1 75 = .ok (.iload 6, 2) := by decide +kernel
theorem k_Model_seeds_77 : decode Y_Model_seeds.2.1 77 = .ok (.iadd, 1) := by decide +kernel
theorem k_Model_seeds_78 : decode Y_Model_seeds.2.1 78 = .ok (.iload_n 3, 1) := by decide +kernel
theorem k_Model_seeds_79 : decode Y_Model_seeds.2.1 79 = .ok (.ldc 186, 2) := by decide +kernel
theorem k_Model_seeds_81 : decode Y_Model_seeds.2.1 81 = .ok (.iand, 1) := by decide +kernel
theorem k_Model_seeds_82 : decode Y_Model_seeds.2.1 82 = .ok (.sipush 256, 3) := by decide +kernel
theorem k_Model_seeds_85 : decode Y_Model_seeds.2.1 85 = .ok (.idiv, 1) := by decide +kernel
theorem k_Model_seeds_86 : decode Y_Model_seeds.2.1 86 = .ok (.bipush 10, 2) := by decide +kernel
theorem k_Model_seeds_88 : decode Y_Model_seeds.2.1 88 = .ok (.irem, 1) := by decide +kernel
theorem k_Model_seeds_89 : decode Y_Model_seeds.2.1 89 = .ok (.iastore, 1) := by decide +kernel
theorem k_Model_seeds_90 : decode Y_Model_seeds.2.1 90 = .ok (.iinc 6 1, 3) := by decide +kernel
theorem k_Model_seeds_93 : decode Y_Model_seeds.2.1 93 = .ok (.goto (-43), 3) := by decide +kernel
theorem k_Model_seeds_96 : decode Y_Model_seeds.2.1 96 = .ok (.iload 4, 2) := by decide +kernel
theorem k_Model_seeds_98 : decode Y_Model_seeds.2.1 98 = .ok (.aload_n 0, 1) := by decide +kernel
theorem k_Model_seeds_99 : decode Y_Model_seeds.2.1 99 = .ok (.invokevirtual 159, 3) := by decide +kernel
theorem k_Model_seeds_102 : decode Y_Model_seeds.2.1 102 = .ok (.ifCond .eq 7, 3) := by decide +kernel
theorem k_Model_seeds_105 : decode Y_Model_seeds.2.1 105 = .ok (.iconst 1, 1) := by decide +kernel
theorem k_Model_seeds_106 : decode Y_Model_seeds.2.1 106 = .ok (.goto 4, 3) := by decide +kernel
theorem k_Model_seeds_109 : decode Y_Model_seeds.2.1 109 = .ok (.iconst 0, 1) := by decide +kernel
theorem k_Model_seeds_110 : decode Y_Model_seeds.2.1 110 = .ok (.iadd, 1) := by decide +kernel
theorem k_Model_seeds_111 : decode Y_Model_seeds.2.1 111 = .ok (.istore 4, 2) := by decide +kernel
theorem k_Model_seeds_113 : decode Y_Model_seeds.2.1 113 = .ok (.iinc 5 1, 3) := by decide +kernel
theorem k_Model_seeds_116 : decode Y_Model_seeds.2.1 116 = .ok (.goto (-75), 3) := by decide +kernel
theorem k_Model_seeds_119 : decode Y_Model_seeds.2.1 119 = .ok (.aload_n 0, 1) := by decide +kernel
theorem k_Model_seeds_120 : decode Y_Model_seeds.2.1 120 = .ok (.getfield 19, 3) := by decide +kernel
theorem k_Model_seeds_123 : decode Y_Model_seeds.2.1 123 = .ok (.aload_n 0, 1) := by decide +kernel
theorem k_Model_seeds_124 : decode Y_Model_seeds.2.1 124 = .ok (.getfield 13, 3) := by decide +kernel
theorem k_Model_seeds_127 : decode Y_Model_seeds.2.1 127 = .ok (.invokestatic 45, 3) := by decide +kernel
theorem k_Model_seeds_130 : decode Y_Model_seeds.2.1 130 = .ok (.iload 4, 2) := by decide +kernel
theorem k_Model_seeds_132 : decode Y_Model_seeds.2.1 132 = .ok (.ireturn, 1) := by decide +kernel
theorem k_Model_count_0 : decode Y_Model_count.2.1 0 = .ok (.iload_n 1, 1) := by decide +kernel
theorem k_Model_count_1 : decode Y_Model_count.2.1 1 = .ok (.tableswitch 106 0 8 #[51, 58, 65, 70, 75, 82, 89, 96, 101], 51) := by decide +kernel
theorem k_Model_count_52 : decode Y_Model_count.2.1 52 = .ok (.aload_n 0, 1) := by decide +kernel
theorem k_Model_count_53 : decode Y_Model_count.2.1 53 = .ok (.getfield 13, 3) := by decide +kernel
theorem k_Model_count_56 : decode Y_Model_count.2.1 56 = .ok (.iconst 0, 1) := by decide +kernel
theorem k_Model_count_57 : decode Y_Model_count.2.1 57 = .ok (.iaload, 1) := by decide +kernel
theorem k_Model_count_58 : decode Y_Model_count.2.1 58 = .ok (.ireturn, 1) := by decide +kernel
theorem k_Model_count_59 : decode Y_Model_count.2.1 59 = .ok (.aload_n 0, 1) := by decide +kernel
theorem k_Model_count_60 : decode Y_Model_count.2.1 60 = .ok (.getfield 13, 3) := by decide +kernel
theorem k_Model_count_63 : decode Y_Model_count.2.1 63 = .ok (.iconst 1, 1) := by decide +kernel
theorem k_Model_count_64 : decode Y_Model_count.2.1 64 = .ok (.iaload, 1) := by decide +kernel
theorem k_Model_count_65 : decode Y_Model_count.2.1 65 = .ok (.ireturn, 1) := by decide +kernel
theorem k_Model_count_66 : decode Y_Model_count.2.1 66 = .ok (.aload_n 0, 1) := by decide +kernel
theorem k_Model_count_67 : decode Y_Model_count.2.1 67 = .ok (.invokevirtual 94, 3) := by decide +kernel
theorem k_Model_count_70 : decode Y_Model_count.2.1 70 = .ok (.ireturn, 1) := by decide +kernel
theorem k_Model_count_71 : decode Y_Model_count.2.1 71 = .ok (.aload_n 0, 1) := by decide +kernel
theorem k_Model_count_72 : decode Y_Model_count.2.1 72 = .ok (.invokevirtual 131, 3) := by decide +kernel
theorem k_Model_count_75 : decode Y_Model_count.2.1 75 = .ok (.ireturn, 1) := by decide +kernel
theorem k_Model_count_76 : decode Y_Model_count.2.1 76 = .ok (.aload_n 0, 1) := by decide +kernel
theorem k_Model_count_77 : decode Y_Model_count.2.1 77 = .ok (.getfield 13, 3) := by decide +kernel
theorem k_Model_count_80 : decode Y_Model_count.2.1 80 = .ok (.iconst 2, 1) := by decide +kernel
theorem k_Model_count_81 : decode Y_Model_count.2.1 81 = .ok (.iaload, 1) := by decide +kernel
theorem k_Model_count_82 : decode Y_Model_count.2.1 82 = .ok (.ireturn, 1) := by decide +kernel
theorem k_Model_count_83 : decode Y_Model_count.2.1 83 = .ok (.aload_n 0, 1) := by decide +kernel
theorem k_Model_count_84 : decode Y_Model_count.2.1 84 = .ok (.getfield 13, 3) := by decide +kernel
theorem k_Model_count_87 : decode Y_Model_count.2.1 87 = .ok (.iconst 3, 1) := by decide +kernel
theorem k_Model_count_88 : decode Y_Model_count.2.1 88 = .ok (.iaload, 1) := by decide +kernel
theorem k_Model_count_89 : decode Y_Model_count.2.1 89 = .ok (.ireturn, 1) := by decide +kernel
theorem k_Model_count_90 : decode Y_Model_count.2.1 90 = .ok (.aload_n 0, 1) := by decide +kernel
theorem k_Model_count_91 : decode Y_Model_count.2.1 91 = .ok (.getfield 13, 3) := by decide +kernel
theorem k_Model_count_94 : decode Y_Model_count.2.1 94 = .ok (.iconst 4, 1) := by decide +kernel
theorem k_Model_count_95 : decode Y_Model_count.2.1 95 = .ok (.iaload, 1) := by decide +kernel
theorem k_Model_count_96 : decode Y_Model_count.2.1 96 = .ok (.ireturn, 1) := by decide +kernel
theorem k_Model_count_97 : decode Y_Model_count.2.1 97 = .ok (.aload_n 0, 1) := by decide +kernel
theorem k_Model_count_98 : decode Y_Model_count.2.1 98 = .ok (.getfield 178, 3) := by decide +kernel
theorem k_Model_count_101 : decode Y_Model_count.2.1 101 = .ok (.ireturn, 1) := by decide +kernel
theorem k_Model_count_102 : decode Y_Model_count.2.1 102 = .ok (.aload_n 0, 1) := by decide +kernel
theorem k_Model_count_103 : decode Y_Model_count.2.1 103 = .ok (.getfield 53, 3) := by decide +kernel
theorem k_Model_count_106 : decode Y_Model_count.2.1 106 = .ok (.ireturn, 1) := by decide +kernel
theorem k_Model_count_107 : decode Y_Model_count.2.1 107 = .ok (.iload_n 1, 1) := by decide +kernel
theorem k_Model_count_108 : decode Y_Model_count.2.1 108 = .ok (.bipush 11, 2) := by decide +kernel
theorem k_Model_count_110 : decode Y_Model_count.2.1 110 = .ok (.if_icmp .lt 21, 3) := by decide +kernel
theorem k_Model_count_113 : decode Y_Model_count.2.1 113 = .ok (.iload_n 1, 1) := by decide +kernel
theorem k_Model_count_114 : decode Y_Model_count.2.1 114 = .ok (.bipush 16, 2) := by decide +kernel
theorem k_Model_count_116 : decode Y_Model_count.2.1 116 = .ok (.if_icmp .gt 15, 3) := by decide +kernel
theorem k_Model_count_119 : decode Y_Model_count.2.1 119 = .ok (.aload_n 0, 1) := by decide +kernel
theorem k_Model_count_120 : decode Y_Model_count.2.1 120 = .ok (.getfield 1, 3) := by decide +kernel
theorem k_Model_count_123 : decode Y_Model_count.2.1 123 = .ok (.iload_n 1, 1) := by decide +kernel
theorem k_Model_count_124 : decode Y_Model_count.2.1 124 = .ok (.bipush 10, 2) := by decide +kernel
theorem k_Model_count_126 : decode Y_Model_count.2.1 126 = .ok (.isub, 1) := by decide +kernel
theorem k_Model_count_127 : decode Y_Model_count.2.1 127 = .ok (.iaload, 1) := by decide +kernel
theorem k_Model_count_128 : decode Y_Model_count.2.1 128 = .ok (.goto 5, 3) := by decide +kernel
theorem k_Model_count_131 : decode Y_Model_count.2.1 131 = .ok (.bipush (-9), 2) := by decide +kernel
theorem k_Model_count_133 : decode Y_Model_count.2.1 133 = .ok (.ireturn, 1) := by decide +kernel
theorem k_String_length_0 : decode Y_String_length.2.1 0 = .ok (.aload_n 0, 1) := by decide +kernel
theorem k_String_length_1 : decode Y_String_length.2.1 1 = .ok (.getfield 9, 3) := by decide +kernel
theorem k_String_length_4 : decode Y_String_length.2.1 4 = .ok (.arraylength, 1) := by decide +kernel
theorem k_String_length_5 : decode Y_String_length.2.1 5 = .ok (.aload_n 0, 1) := by decide +kernel
theorem k_String_length_6 : decode Y_String_length.2.1 6 = .ok (.invokevirtual 335, 3) := by decide +kernel
theorem k_String_length_9 : decode Y_String_length.2.1 9 = .ok (.ishr, 1) := by decide +kernel
theorem k_String_length_10 : decode Y_String_length.2.1 10 = .ok (.ireturn, 1) := by decide +kernel
theorem k_String_charAt_0 : decode Y_String_charAt.2.1 0 = .ok (.aload_n 0, 1) := by decide +kernel
theorem k_String_charAt_1 : decode Y_String_charAt.2.1 1 = .ok (.invokevirtual 492, 3) := by decide +kernel
theorem k_String_charAt_4 : decode Y_String_charAt.2.1 4 = .ok (.ifCond .eq 12, 3) := by decide +kernel
theorem k_String_charAt_7 : decode Y_String_charAt.2.1 7 = .ok (.aload_n 0, 1) := by decide +kernel
theorem k_String_charAt_8 : decode Y_String_charAt.2.1 8 = .ok (.getfield 9, 3) := by decide +kernel
theorem k_String_charAt_11 : decode Y_String_charAt.2.1 11 = .ok (.iload_n 1, 1) := by decide +kernel
theorem k_String_charAt_12 : decode Y_String_charAt.2.1 12 = .ok (.invokestatic 495, 3) := by decide +kernel
theorem k_String_charAt_15 : decode Y_String_charAt.2.1 15 = .ok (.ireturn, 1) := by decide +kernel
theorem k_String_charAt_16 : decode Y_String_charAt.2.1 16 = .ok (.aload_n 0, 1) := by decide +kernel
theorem k_String_charAt_17 : decode Y_String_charAt.2.1 17 = .ok (.getfield 9, 3) := by decide +kernel
theorem k_String_charAt_20 : decode Y_String_charAt.2.1 20 = .ok (.iload_n 1, 1) := by decide +kernel
theorem k_String_charAt_21 : decode Y_String_charAt.2.1 21 = .ok (.invokestatic 498, 3) := by decide +kernel
theorem k_String_charAt_24 : decode Y_String_charAt.2.1 24 = .ok (.ireturn, 1) := by decide +kernel
theorem k_String_coder_0 : decode Y_String_coder.2.1 0 = .ok (.getstatic 38, 3) := by decide +kernel
theorem k_String_coder_3 : decode Y_String_coder.2.1 3 = .ok (.ifCond .eq 10, 3) := by decide +kernel
theorem k_String_coder_6 : decode Y_String_coder.2.1 6 = .ok (.aload_n 0, 1) := by decide +kernel
theorem k_String_coder_7 : decode Y_String_coder.2.1 7 = .ok (.getfield 15, 3) := by decide +kernel
theorem k_String_coder_10 : decode Y_String_coder.2.1 10 = .ok (.goto 4, 3) := by decide +kernel
theorem k_String_coder_13 : decode Y_String_coder.2.1 13 = .ok (.iconst 1, 1) := by decide +kernel
theorem k_String_coder_14 : decode Y_String_coder.2.1 14 = .ok (.ireturn, 1) := by decide +kernel
theorem k_String_isLatin1_0 : decode Y_String_isLatin1.2.1 0 = .ok (.getstatic 38, 3) := by decide +kernel
theorem k_String_isLatin1_3 : decode Y_String_isLatin1.2.1 3 = .ok (.ifCond .eq 14, 3) := by decide +kernel
theorem k_String_isLatin1_6 : decode Y_String_isLatin1.2.1 6 = .ok (.aload_n 0, 1) := by decide +kernel
theorem k_String_isLatin1_7 : decode Y_String_isLatin1.2.1 7 = .ok (.getfield 15, 3) := by decide +kernel
theorem k_String_isLatin1_10 : decode Y_String_isLatin1.2.1 10 = .ok (.ifCond .ne 7, 3) := by decide +kernel
theorem k_String_isLatin1_13 : decode Y_String_isLatin1.2.1 13 = .ok (.iconst 1, 1) := by decide +kernel
theorem k_String_isLatin1_14 : decode Y_String_isLatin1.2.1 14 = .ok (.goto 4, 3) := by decide +kernel
theorem k_String_isLatin1_17 : decode Y_String_isLatin1.2.1 17 = .ok (.iconst 0, 1) := by decide +kernel
theorem k_String_isLatin1_18 : decode Y_String_isLatin1.2.1 18 = .ok (.ireturn, 1) := by decide +kernel
theorem k_String_checkIndex_0 : decode Y_String_checkIndex.2.1 0 = .ok (.iload_n 0, 1) := by decide +kernel
theorem k_String_checkIndex_1 : decode Y_String_checkIndex.2.1 1 = .ok (.iload_n 1, 1) := by decide +kernel
theorem k_String_checkIndex_2 : decode Y_String_checkIndex.2.1 2 = .ok (.getstatic 1053, 3) := by decide +kernel
theorem k_String_checkIndex_5 : decode Y_String_checkIndex.2.1 5 = .ok (.invokestatic 1059, 3) := by decide +kernel
theorem k_String_checkIndex_8 : decode Y_String_checkIndex.2.1 8 = .ok (.pop, 1) := by decide +kernel
theorem k_String_checkIndex_9 : decode Y_String_checkIndex.2.1 9 = .ok (.return_, 1) := by decide +kernel
theorem k_Latin1_charAt_0 : decode Y_Latin1_charAt.2.1 0 = .ok (.iload_n 1, 1) := by decide +kernel
theorem k_Latin1_charAt_1 : decode Y_Latin1_charAt.2.1 1 = .ok (.aload_n 0, 1) := by decide +kernel
theorem k_Latin1_charAt_2 : decode Y_Latin1_charAt.2.1 2 = .ok (.arraylength, 1) := by decide +kernel
theorem k_Latin1_charAt_3 : decode Y_Latin1_charAt.2.1 3 = .ok (.invokestatic 9, 3) := by decide +kernel
theorem k_Latin1_charAt_6 : decode Y_Latin1_charAt.2.1 6 = .ok (.aload_n 0, 1) := by decide +kernel
theorem k_Latin1_charAt_7 : decode Y_Latin1_charAt.2.1 7 = .ok (.iload_n 1, 1) := by decide +kernel
theorem k_Latin1_charAt_8 : decode Y_Latin1_charAt.2.1 8 = .ok (.baload, 1) := by decide +kernel
theorem k_Latin1_charAt_9 : decode Y_Latin1_charAt.2.1 9 = .ok (.sipush 255, 3) := by decide +kernel
theorem k_Latin1_charAt_12 : decode Y_Latin1_charAt.2.1 12 = .ok (.iand, 1) := by decide +kernel
theorem k_Latin1_charAt_13 : decode Y_Latin1_charAt.2.1 13 = .ok (.i2c, 1) := by decide +kernel
theorem k_Latin1_charAt_14 : decode Y_Latin1_charAt.2.1 14 = .ok (.ireturn, 1) := by decide +kernel
theorem k_Precond_checkIndex_0 : decode Y_Precond_checkIndex.2.1 0 = .ok (.iload_n 0, 1) := by decide +kernel
theorem k_Precond_checkIndex_1 : decode Y_Precond_checkIndex.2.1 1 = .ok (.ifCond .lt 8, 3) := by decide +kernel
theorem k_Precond_checkIndex_4 : decode Y_Precond_checkIndex.2.1 4 = .ok (.iload_n 0, 1) := by decide +kernel
theorem k_Precond_checkIndex_5 : decode Y_Precond_checkIndex.2.1 5 = .ok (.iload_n 1, 1) := by decide +kernel
theorem k_Precond_checkIndex_6 : decode Y_Precond_checkIndex.2.1 6 = .ok (.if_icmp .lt 10, 3) := by decide +kernel
theorem k_Precond_checkIndex_9 : decode Y_Precond_checkIndex.2.1 9 = .ok (.aload_n 2, 1) := by decide +kernel
theorem k_Precond_checkIndex_10 : decode Y_Precond_checkIndex.2.1 10 = .ok (.iload_n 0, 1) := by decide +kernel
theorem k_Precond_checkIndex_11 : decode Y_Precond_checkIndex.2.1 11 = .ok (.iload_n 1, 1) := by decide +kernel
theorem k_Precond_checkIndex_12 : decode Y_Precond_checkIndex.2.1 12 = .ok (.invokestatic 95, 3) := by decide +kernel
theorem k_Precond_checkIndex_15 : decode Y_Precond_checkIndex.2.1 15 = .ok (.athrow, 1) := by decide +kernel
theorem k_Precond_checkIndex_16 : decode Y_Precond_checkIndex.2.1 16 = .ok (.iload_n 0, 1) := by decide +kernel
theorem k_Precond_checkIndex_17 : decode Y_Precond_checkIndex.2.1 17 = .ok (.ireturn, 1) := by decide +kernel
