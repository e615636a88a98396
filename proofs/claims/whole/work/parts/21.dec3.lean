theorem d_Md_init_0 : decode b_Md_init 0 = .ok (.aload_n 0, 1) := by decide +kernel
theorem d_Md_init_1 : decode b_Md_init 1 = .ok (.invokespecial 1, 3) := by decide +kernel
theorem d_Md_init_4 : decode b_Md_init 4 = .ok (.aload_n 0, 1) := by decide +kernel
theorem d_Md_init_5 : decode b_Md_init 5 = .ok (.bipush 40, 2) := by decide +kernel
theorem d_Md_init_7 : decode b_Md_init 7 = .ok (.newarray .int, 2) := by decide +kernel
theorem d_Md_init_9 : decode b_Md_init 9 = .ok (.putfield 7, 3) := by decide +kernel
theorem d_Md_init_12 : decode b_Md_init 12 = .ok (.aload_n 0, 1) := by decide +kernel
theorem d_Md_init_13 : decode b_Md_init 13 = .ok (.bipush 40, 2) := by decide +kernel
theorem d_Md_init_15 : decode b_Md_init 15 = .ok (.newarray .boolean, 2) := by decide +kernel
theorem d_Md_init_17 : decode b_Md_init 17 = .ok (.putfield 13, 3) := by decide +kernel
theorem d_Md_init_20 : decode b_Md_init 20 = .ok (.aload_n 0, 1) := by decide +kernel
theorem d_Md_init_21 : decode b_Md_init 21 = .ok (.bipush 40, 2) := by decide +kernel
theorem d_Md_init_23 : decode b_Md_init 23 = .ok (.newarray .int, 2) := by decide +kernel
theorem d_Md_init_25 : decode b_Md_init 25 = .ok (.putfield 17, 3) := by decide +kernel
theorem d_Md_init_28 : decode b_Md_init 28 = .ok (.aload_n 0, 1) := by decide +kernel
theorem d_Md_init_29 : decode b_Md_init 29 = .ok (.sipush 320, 3) := by decide +kernel
theorem d_Md_init_32 : decode b_Md_init 32 = .ok (.newarray .int, 2) := by decide +kernel
theorem d_Md_init_34 : decode b_Md_init 34 = .ok (.putfield 20, 3) := by decide +kernel
theorem d_Md_init_37 : decode b_Md_init 37 = .ok (.aload_n 0, 1) := by decide +kernel
theorem d_Md_init_38 : decode b_Md_init 38 = .ok (.bipush 16, 2) := by decide +kernel
theorem d_Md_init_40 : decode b_Md_init 40 = .ok (.newarray .int, 2) := by decide +kernel
theorem d_Md_init_42 : decode b_Md_init 42 = .ok (.putfield 23, 3) := by decide +kernel
theorem d_Md_init_45 : decode b_Md_init 45 = .ok (.aload_n 0, 1) := by decide +kernel
theorem d_Md_init_46 : decode b_Md_init 46 = .ok (.bipush 16, 2) := by decide +kernel
theorem d_Md_init_48 : decode b_Md_init 48 = .ok (.newarray .long, 2) := by decide +kernel
theorem d_Md_init_50 : decode b_Md_init 50 = .ok (.putfield 26, 3) := by decide +kernel
theorem d_Md_init_53 : decode b_Md_init 53 = .ok (.aload_n 0, 1) := by decide +kernel
theorem d_Md_init_54 : decode b_Md_init 54 = .ok (.bipush 16, 2) := by decide +kernel
theorem d_Md_init_56 : decode b_Md_init 56 = .ok (.newarray .int, 2) := by decide +kernel
theorem d_Md_init_58 : decode b_Md_init 58 = .ok (.putfield 30, 3) := by decide +kernel
theorem d_Md_init_61 : decode b_Md_init 61 = .ok (.aload_n 0, 1) := by decide +kernel
theorem d_Md_init_62 : decode b_Md_init 62 = .ok (.bipush 16, 2) := by decide +kernel
theorem d_Md_init_64 : decode b_Md_init 64 = .ok (.newarray .int, 2) := by decide +kernel
theorem d_Md_init_66 : decode b_Md_init 66 = .ok (.putfield 33, 3) := by decide +kernel
theorem d_Md_init_69 : decode b_Md_init 69 = .ok (.aload_n 0, 1) := by decide +kernel
theorem d_Md_init_70 : decode b_Md_init 70 = .ok (.bipush 16, 2) := by decide +kernel
theorem d_Md_init_72 : decode b_Md_init 72 = .ok (.newarray .int, 2) := by decide +kernel
theorem d_Md_init_74 : decode b_Md_init 74 = .ok (.putfield 36, 3) := by decide +kernel
theorem d_Md_init_77 : decode b_Md_init 77 = .ok (.aload_n 0, 1) := by decide +kernel
theorem d_Md_init_78 : decode b_Md_init 78 = .ok (.bipush 16, 2) := by decide +kernel
theorem d_Md_init_80 : decode b_Md_init 80 = .ok (.newarray .boolean, 2) := by decide +kernel
theorem d_Md_init_82 : decode b_Md_init 82 = .ok (.putfield 39, 3) := by decide +kernel
theorem d_Md_init_85 : decode b_Md_init 85 = .ok (.aload_n 0, 1) := by decide +kernel
theorem d_Md_init_86 : decode b_Md_init 86 = .ok (.bipush 16, 2) := by decide +kernel
theorem d_Md_init_88 : decode b_Md_init 88 = .ok (.newarray .int, 2) := by decide +kernel
theorem d_Md_init_90 : decode b_Md_init 90 = .ok (.putfield 42, 3) := by decide +kernel
theorem d_Md_init_93 : decode b_Md_init 93 = .ok (.aload_n 0, 1) := by decide +kernel
theorem d_Md_init_94 : decode b_Md_init 94 = .ok (.bipush 16, 2) := by decide +kernel
theorem d_Md_init_96 : decode b_Md_init 96 = .ok (.newarray .int, 2) := by decide +kernel
theorem d_Md_init_98 : decode b_Md_init 98 = .ok (.putfield 45, 3) := by decide +kernel
theorem d_Md_init_101 : decode b_Md_init 101 = .ok (.aload_n 0, 1) := by decide +kernel
theorem d_Md_init_102 : decode b_Md_init 102 = .ok (.bipush 96, 2) := by decide +kernel
theorem d_Md_init_104 : decode b_Md_init 104 = .ok (.newarray .int, 2) := by decide +kernel
theorem d_Md_init_106 : decode b_Md_init 106 = .ok (.putfield 48, 3) := by decide +kernel
theorem d_Md_init_109 : decode b_Md_init 109 = .ok (.aload_n 0, 1) := by decide +kernel
theorem d_Md_init_110 : decode b_Md_init 110 = .ok (.bipush 96, 2) := by decide +kernel
theorem d_Md_init_112 : decode b_Md_init 112 = .ok (.newarray .int, 2) := by decide +kernel
theorem d_Md_init_114 : decode b_Md_init 114 = .ok (.putfield 51, 3) := by decide +kernel
theorem d_Md_init_117 : decode b_Md_init 117 = .ok (.aload_n 0, 1) := by decide +kernel
theorem d_Md_init_118 : decode b_Md_init 118 = .ok (.bipush 96, 2) := by decide +kernel
theorem d_Md_init_120 : decode b_Md_init 120 = .ok (.newarray .int, 2) := by decide +kernel
theorem d_Md_init_122 : decode b_Md_init 122 = .ok (.putfield 54, 3) := by decide +kernel
theorem d_Md_init_125 : decode b_Md_init 125 = .ok (.iconst 0, 1) := by decide +kernel
theorem d_Md_init_126 : decode b_Md_init 126 = .ok (.istore_n 1, 1) := by decide +kernel
theorem d_Md_init_127 : decode b_Md_init 127 = .ok (.iload_n 1, 1) := by decide +kernel
theorem d_Md_init_128 : decode b_Md_init 128 = .ok (.bipush 16, 2) := by decide +kernel
theorem d_Md_init_130 : decode b_Md_init 130 = .ok (.if_icmp .ge 16, 3) := by decide +kernel
theorem d_Md_init_133 : decode b_Md_init 133 = .ok (.aload_n 0, 1) := by decide +kernel
theorem d_Md_init_134 : decode b_Md_init 134 = .ok (.getfield 42, 3) := by decide +kernel
theorem d_Md_init_137 : decode b_Md_init 137 = .ok (.iload_n 1, 1) := by decide +kernel
theorem d_Md_init_138 : decode b_Md_init 138 = .ok (.iconst (-1), 1) := by decide +kernel
theorem d_Md_init_139 : decode b_Md_init 139 = .ok (.iastore, 1) := by decide +kernel
theorem d_Md_init_140 : decode b_Md_init 140 = .ok (.iinc 1 1, 3) := by decide +kernel
theorem d_Md_init_143 : decode b_Md_init 143 = .ok (.goto (-16), 3) := by decide +kernel
theorem d_Md_init_146 : decode b_Md_init 146 = .ok (.return_, 1) := by decide +kernel
theorem d_Md_isRoutine_0 : decode b_Md_isRoutine 0 = .ok (.iload_n 0, 1) := by decide +kernel
theorem d_Md_isRoutine_1 : decode b_Md_isRoutine 1 = .ok (.ifCond .lt 13, 3) := by decide +kernel
theorem d_Md_isRoutine_4 : decode b_Md_isRoutine 4 = .ok (.iload_n 0, 1) := by decide +kernel
theorem d_Md_isRoutine_5 : decode b_Md_isRoutine 5 = .ok (.bipush 16, 2) := by decide +kernel
theorem d_Md_isRoutine_7 : decode b_Md_isRoutine 7 = .ok (.if_icmp .ge 7, 3) := by decide +kernel
theorem d_Md_isRoutine_10 : decode b_Md_isRoutine 10 = .ok (.iconst 1, 1) := by decide +kernel
theorem d_Md_isRoutine_11 : decode b_Md_isRoutine 11 = .ok (.goto 4, 3) := by decide +kernel
theorem d_Md_isRoutine_14 : decode b_Md_isRoutine 14 = .ok (.iconst 0, 1) := by decide +kernel
theorem d_Md_isRoutine_15 : decode b_Md_isRoutine 15 = .ok (.ireturn, 1) := by decide +kernel
theorem d_Md_isChannel_0 : decode b_Md_isChannel 0 = .ok (.iload_n 1, 1) := by decide +kernel
theorem d_Md_isChannel_1 : decode b_Md_isChannel 1 = .ok (.ifCond .lt 15, 3) := by decide +kernel
theorem d_Md_isChannel_4 : decode b_Md_isChannel 4 = .ok (.iload_n 1, 1) := by decide +kernel
theorem d_Md_isChannel_5 : decode b_Md_isChannel 5 = .ok (.aload_n 0, 1) := by decide +kernel
theorem d_Md_isChannel_6 : decode b_Md_isChannel 6 = .ok (.getfield 57, 3) := by decide +kernel
theorem d_Md_isChannel_9 : decode b_Md_isChannel 9 = .ok (.if_icmp .ge 7, 3) := by decide +kernel
theorem d_Md_isChannel_12 : decode b_Md_isChannel 12 = .ok (.iconst 1, 1) := by decide +kernel
theorem d_Md_isChannel_13 : decode b_Md_isChannel 13 = .ok (.goto 4, 3) := by decide +kernel
theorem d_Md_isChannel_16 : decode b_Md_isChannel 16 = .ok (.iconst 0, 1) := by decide +kernel
theorem d_Md_isChannel_17 : decode b_Md_isChannel 17 = .ok (.ireturn, 1) := by decide +kernel
theorem d_Md_isReady_0 : decode b_Md_isReady 0 = .ok (.iload_n 1, 1) := by decide +kernel
theorem d_Md_isReady_1 : decode b_Md_isReady 1 = .ok (.invokestatic 61, 3) := by decide +kernel
theorem d_Md_isReady_4 : decode b_Md_isReady 4 = .ok (.ifCond .eq 26, 3) := by decide +kernel
theorem d_Md_isReady_7 : decode b_Md_isReady 7 = .ok (.aload_n 0, 1) := by decide +kernel
theorem d_Md_isReady_8 : decode b_Md_isReady 8 = .ok (.getfield 23, 3) := by decide +kernel
theorem d_Md_isReady_11 : decode b_Md_isReady 11 = .ok (.iload_n 1, 1) := by decide +kernel
theorem d_Md_isReady_12 : decode b_Md_isReady 12 = .ok (.iaload, 1) := by decide +kernel
theorem d_Md_isReady_13 : decode b_Md_isReady 13 = .ok (.ifCond .eq 13, 3) := by decide +kernel
theorem d_Md_isReady_16 : decode b_Md_isReady 16 = .ok (.aload_n 0, 1) := by decide +kernel
theorem d_Md_isReady_17 : decode b_Md_isReady 17 = .ok (.getfield 23, 3) := by decide +kernel
theorem d_Md_isReady_20 : decode b_Md_isReady 20 = .ok (.iload_n 1, 1) := by decide +kernel
theorem d_Md_isReady_21 : decode b_Md_isReady 21 = .ok (.iaload, 1) := by decide +kernel
theorem d_Md_isReady_22 : decode b_Md_isReady 22 = .ok (.iconst 4, 1) := by decide +kernel
theorem d_Md_isReady_23 : decode b_Md_isReady 23 = .ok (.if_icmp .ne 7, 3) := by decide +kernel
theorem d_Md_isReady_26 : decode b_Md_isReady 26 = .ok (.iconst 1, 1) := by decide +kernel
theorem d_Md_isReady_27 : decode b_Md_isReady 27 = .ok (.goto 4, 3) := by decide +kernel
theorem d_Md_isReady_30 : decode b_Md_isReady 30 = .ok (.iconst 0, 1) := by decide +kernel
theorem d_Md_isReady_31 : decode b_Md_isReady 31 = .ok (.ireturn, 1) := by decide +kernel
theorem d_Md_make_0 : decode b_Md_make 0 = .ok (.iload_n 1, 1) := by decide +kernel
theorem d_Md_make_1 : decode b_Md_make 1 = .ok (.ifCond .lt 18, 3) := by decide +kernel
theorem d_Md_make_4 : decode b_Md_make 4 = .ok (.iload_n 1, 1) := by decide +kernel
theorem d_Md_make_5 : decode b_Md_make 5 = .ok (.bipush 8, 2) := by decide +kernel
theorem d_Md_make_7 : decode b_Md_make 7 = .ok (.if_icmp .gt 12, 3) := by decide +kernel
theorem d_Md_make_10 : decode b_Md_make 10 = .ok (.aload_n 0, 1) := by decide +kernel
theorem d_Md_make_11 : decode b_Md_make 11 = .ok (.getfield 57, 3) := by decide +kernel
theorem d_Md_make_14 : decode b_Md_make 14 = .ok (.bipush 40, 2) := by decide +kernel
theorem d_Md_make_16 : decode b_Md_make 16 = .ok (.if_icmp .ne 5, 3) := by decide +kernel
theorem d_Md_make_19 : decode b_Md_make 19 = .ok (.iconst (-1), 1) := by decide +kernel
theorem d_Md_make_20 : decode b_Md_make 20 = .ok (.ireturn, 1) := by decide +kernel
theorem d_Md_make_21 : decode b_Md_make 21 = .ok (.aload_n 0, 1) := by decide +kernel
theorem d_Md_make_22 : decode b_Md_make 22 = .ok (.getfield 7, 3) := by decide +kernel
theorem d_Md_make_25 : decode b_Md_make 25 = .ok (.aload_n 0, 1) := by decide +kernel
theorem d_Md_make_26 : decode b_Md_make 26 = .ok (.getfield 57, 3) := by decide +kernel
theorem d_Md_make_29 : decode b_Md_make 29 = .ok (.iload_n 1, 1) := by decide +kernel
theorem d_Md_make_30 : decode b_Md_make 30 = .ok (.iastore, 1) := by decide +kernel
theorem d_Md_make_31 : decode b_Md_make 31 = .ok (.aload_n 0, 1) := by decide +kernel
theorem d_Md_make_32 : decode b_Md_make 32 = .ok (.getfield 13, 3) := by decide +kernel
theorem d_Md_make_35 : decode b_Md_make 35 = .ok (.aload_n 0, 1) := by decide +kernel
theorem d_Md_make_36 : decode b_Md_make 36 = .ok (.getfield 57, 3) := by decide +kernel
theorem d_Md_make_39 : decode b_Md_make 39 = .ok (.iconst 0, 1) := by decide +kernel
theorem d_Md_make_40 : decode b_Md_make 40 = .ok (.bastore, 1) := by decide +kernel
theorem d_Md_make_41 : decode b_Md_make 41 = .ok (.aload_n 0, 1) := by decide +kernel
theorem d_Md_make_42 : decode b_Md_make 42 = .ok (.getfield 17, 3) := by decide +kernel
theorem d_Md_make_45 : decode b_Md_make 45 = .ok (.aload_n 0, 1) := by decide +kernel
theorem d_Md_make_46 : decode b_Md_make 46 = .ok (.getfield 57, 3) := by decide +kernel
theorem d_Md_make_49 : decode b_Md_make 49 = .ok (.iconst 0, 1) := by decide +kernel
theorem d_Md_make_50 : decode b_Md_make 50 = .ok (.iastore, 1) := by decide +kernel
theorem d_Md_make_51 : decode b_Md_make 51 = .ok (.aload_n 0, 1) := by decide +kernel
theorem d_Md_make_52 : decode b_Md_make 52 = .ok (.aload_n 0, 1) := by decide +kernel
theorem d_Md_make_53 : decode b_Md_make 53 = .ok (.getfield 57, 3) := by decide +kernel
theorem d_Md_make_56 : decode b_Md_make 56 = .ok (.iconst 1, 1) := by decide +kernel
theorem d_Md_make_57 : decode b_Md_make 57 = .ok (.iadd, 1) := by decide +kernel
theorem d_Md_make_58 : decode b_Md_make 58 = .ok (.putfield 57, 3) := by decide +kernel
theorem d_Md_make_61 : decode b_Md_make 61 = .ok (.aload_n 0, 1) := by decide +kernel
theorem d_Md_make_62 : decode b_Md_make 62 = .ok (.getfield 57, 3) := by decide +kernel
theorem d_Md_make_65 : decode b_Md_make 65 = .ok (.iconst 1, 1) := by decide +kernel
theorem d_Md_make_66 : decode b_Md_make 66 = .ok (.isub, 1) := by decide +kernel
theorem d_Md_make_67 : decode b_Md_make 67 = .ok (.ireturn, 1) := by decide +kernel
theorem d_Md_caseAt_0 : decode b_Md_caseAt 0 = .ok (.iconst 0, 1) := by decide +kernel
theorem d_Md_caseAt_1 : decode b_Md_caseAt 1 = .ok (.istore 4, 2) := by decide +kernel
theorem d_Md_caseAt_3 : decode b_Md_caseAt 3 = .ok (.iload 4, 2) := by decide +kernel
theorem d_Md_caseAt_5 : decode b_Md_caseAt 5 = .ok (.aload_n 0, 1) := by decide +kernel
theorem d_Md_caseAt_6 : decode b_Md_caseAt 6 = .ok (.getfield 45, 3) := by decide +kernel
theorem d_Md_caseAt_9 : decode b_Md_caseAt 9 = .ok (.iload_n 1, 1) := by decide +kernel
theorem d_Md_caseAt_10 : decode b_Md_caseAt 10 = .ok (.iaload, 1) := by decide +kernel
theorem d_Md_caseAt_11 : decode b_Md_caseAt 11 = .ok (.if_icmp .ge 49, 3) := by decide +kernel
theorem d_Md_caseAt_14 : decode b_Md_caseAt 14 = .ok (.aload_n 0, 1) := by decide +kernel
theorem d_Md_caseAt_15 : decode b_Md_caseAt 15 = .ok (.getfield 48, 3) := by decide +kernel
theorem d_Md_caseAt_18 : decode b_Md_caseAt 18 = .ok (.bipush 6, 2) := by decide +kernel
theorem d_Md_caseAt_20 : decode b_Md_caseAt 20 = .ok (.iload_n 1, 1) := by decide +kernel
theorem d_Md_caseAt_21 : decode b_Md_caseAt 21 = .ok (.imul, 1) := by decide +kernel
theorem d_Md_caseAt_22 : decode b_Md_caseAt 22 = .ok (.iload 4, 2) := by decide +kernel
theorem d_Md_caseAt_24 : decode b_Md_caseAt 24 = .ok (.iadd, 1) := by decide +kernel
theorem d_Md_caseAt_25 : decode b_Md_caseAt 25 = .ok (.iaload, 1) := by decide +kernel
theorem d_Md_caseAt_26 : decode b_Md_caseAt 26 = .ok (.iload_n 2, 1) := by decide +kernel
theorem d_Md_caseAt_27 : decode b_Md_caseAt 27 = .ok (.if_icmp .ne 27, 3) := by decide +kernel
theorem d_Md_caseAt_30 : decode b_Md_caseAt 30 = .ok (.iload_n 3, 1) := by decide +kernel
theorem d_Md_caseAt_31 : decode b_Md_caseAt 31 = .ok (.iconst (-1), 1) := by decide +kernel
theorem d_Md_caseAt_32 : decode b_Md_caseAt 32 = .ok (.if_icmp .eq 19, 3) := by decide +kernel
theorem d_Md_caseAt_35 : decode b_Md_caseAt 35 = .ok (.aload_n 0, 1) := by decide +kernel
theorem d_Md_caseAt_36 : decode b_Md_caseAt 36 = .ok (.getfield 51, 3) := by decide +kernel
theorem d_Md_caseAt_39 : decode b_Md_caseAt 39 = .ok (.bipush 6, 2) := by decide +kernel
theorem d_Md_caseAt_41 : decode b_Md_caseAt 41 = .ok (.iload_n 1, 1) := by decide +kernel
theorem d_Md_caseAt_42 : decode b_Md_caseAt 42 = .ok (.imul, 1) := by decide +kernel
theorem d_Md_caseAt_43 : decode b_Md_caseAt 43 = .ok (.iload 4, 2) := by decide +kernel
theorem d_Md_caseAt_45 : decode b_Md_caseAt 45 = .ok (.iadd, 1) := by decide +kernel
theorem d_Md_caseAt_46 : decode b_Md_caseAt 46 = .ok (.iaload, 1) := by decide +kernel
theorem d_Md_caseAt_47 : decode b_Md_caseAt 47 = .ok (.iload_n 3, 1) := by decide +kernel
theorem d_Md_caseAt_48 : decode b_Md_caseAt 48 = .ok (.if_icmp .ne 6, 3) := by decide +kernel
theorem d_Md_caseAt_51 : decode b_Md_caseAt 51 = .ok (.iload 4, 2) := by decide +kernel
theorem d_Md_caseAt_53 : decode b_Md_caseAt 53 = .ok (.ireturn, 1) := by decide +kernel
theorem d_Md_caseAt_54 : decode b_Md_caseAt 54 = .ok (.iinc 4 1, 3) := by decide +kernel
theorem d_Md_caseAt_57 : decode b_Md_caseAt 57 = .ok (.goto (-54), 3) := by decide +kernel
theorem d_Md_caseAt_60 : decode b_Md_caseAt 60 = .ok (.iconst (-1), 1) := by decide +kernel
theorem d_Md_caseAt_61 : decode b_Md_caseAt 61 = .ok (.ireturn, 1) := by decide +kernel
theorem d_Md_waitsAt_0 : decode b_Md_waitsAt 0 = .ok (.aload_n 0, 1) := by decide +kernel
theorem d_Md_waitsAt_1 : decode b_Md_waitsAt 1 = .ok (.getfield 23, 3) := by decide +kernel
theorem d_Md_waitsAt_4 : decode b_Md_waitsAt 4 = .ok (.iload_n 1, 1) := by decide +kernel
theorem d_Md_waitsAt_5 : decode b_Md_waitsAt 5 = .ok (.iaload, 1) := by decide +kernel
theorem d_Md_waitsAt_6 : decode b_Md_waitsAt 6 = .ok (.iconst 3, 1) := by decide +kernel
theorem d_Md_waitsAt_7 : decode b_Md_waitsAt 7 = .ok (.if_icmp .ne 19, 3) := by decide +kernel
theorem d_Md_waitsAt_10 : decode b_Md_waitsAt 10 = .ok (.aload_n 0, 1) := by decide +kernel
theorem d_Md_waitsAt_11 : decode b_Md_waitsAt 11 = .ok (.iload_n 1, 1) := by decide +kernel
theorem d_Md_waitsAt_12 : decode b_Md_waitsAt 12 = .ok (.iload_n 2, 1) := by decide +kernel
theorem d_Md_waitsAt_13 : decode b_Md_waitsAt 13 = .ok (.iload_n 3, 1) := by decide +kernel
theorem d_Md_waitsAt_14 : decode b_Md_waitsAt 14 = .ok (.invokevirtual 65, 3) := by decide +kernel
theorem d_Md_waitsAt_17 : decode b_Md_waitsAt 17 = .ok (.ifCond .lt 7, 3) := by decide +kernel
theorem d_Md_waitsAt_20 : decode b_Md_waitsAt 20 = .ok (.iconst 1, 1) := by decide +kernel
theorem d_Md_waitsAt_21 : decode b_Md_waitsAt 21 = .ok (.goto 4, 3) := by decide +kernel
theorem d_Md_waitsAt_24 : decode b_Md_waitsAt 24 = .ok (.iconst 0, 1) := by decide +kernel
theorem d_Md_waitsAt_25 : decode b_Md_waitsAt 25 = .ok (.ireturn, 1) := by decide +kernel
theorem d_Md_waitsAt_26 : decode b_Md_waitsAt 26 = .ok (.aload_n 0, 1) := by decide +kernel
theorem d_Md_waitsAt_27 : decode b_Md_waitsAt 27 = .ok (.getfield 23, 3) := by decide +kernel
theorem d_Md_waitsAt_30 : decode b_Md_waitsAt 30 = .ok (.iload_n 1, 1) := by decide +kernel
theorem d_Md_waitsAt_31 : decode b_Md_waitsAt 31 = .ok (.iaload, 1) := by decide +kernel
theorem d_Md_waitsAt_32 : decode b_Md_waitsAt 32 = .ok (.iconst 1, 1) := by decide +kernel
theorem d_Md_waitsAt_33 : decode b_Md_waitsAt 33 = .ok (.if_icmp .ne 8, 3) := by decide +kernel
theorem d_Md_waitsAt_36 : decode b_Md_waitsAt 36 = .ok (.iload_n 3, 1) := by decide +kernel
theorem d_Md_waitsAt_37 : decode b_Md_waitsAt 37 = .ok (.iconst 1, 1) := by decide +kernel
theorem d_Md_waitsAt_38 : decode b_Md_waitsAt 38 = .ok (.if_icmp .ne 17, 3) := by decide +kernel
theorem d_Md_waitsAt_41 : decode b_Md_waitsAt 41 = .ok (.aload_n 0, 1) := by decide +kernel
theorem d_Md_waitsAt_42 : decode b_Md_waitsAt 42 = .ok (.getfield 23, 3) := by decide +kernel
theorem d_Md_waitsAt_45 : decode b_Md_waitsAt 45 = .ok (.iload_n 1, 1) := by decide +kernel
theorem d_Md_waitsAt_46 : decode b_Md_waitsAt 46 = .ok (.iaload, 1) := by decide +kernel
theorem d_Md_waitsAt_47 : decode b_Md_waitsAt 47 = .ok (.iconst 2, 1) := by decide +kernel
theorem d_Md_waitsAt_48 : decode b_Md_waitsAt 48 = .ok (.if_icmp .ne 11, 3) := by decide +kernel
theorem d_Md_waitsAt_51 : decode b_Md_waitsAt 51 = .ok (.iload_n 3, 1) := by decide +kernel
theorem d_Md_waitsAt_52 : decode b_Md_waitsAt 52 = .ok (.ifCond .eq 7, 3) := by decide +kernel
theorem d_Md_waitsAt_55 : decode b_Md_waitsAt 55 = .ok (.iconst 1, 1) := by decide +kernel
theorem d_Md_waitsAt_56 : decode b_Md_waitsAt 56 = .ok (.goto 4, 3) := by decide +kernel
theorem d_Md_waitsAt_59 : decode b_Md_waitsAt 59 = .ok (.iconst 0, 1) := by decide +kernel
theorem d_Md_waitsAt_60 : decode b_Md_waitsAt 60 = .ok (.istore 4, 2) := by decide +kernel
theorem d_Md_waitsAt_62 : decode b_Md_waitsAt 62 = .ok (.iload 4, 2) := by decide +kernel
theorem d_Md_waitsAt_64 : decode b_Md_waitsAt 64 = .ok (.ifCond .eq 17, 3) := by decide +kernel
theorem d_Md_waitsAt_67 : decode b_Md_waitsAt 67 = .ok (.aload_n 0, 1) := by decide +kernel
theorem d_Md_waitsAt_68 : decode b_Md_waitsAt 68 = .ok (.getfield 30, 3) := by decide +kernel
theorem d_Md_waitsAt_71 : decode b_Md_waitsAt 71 = .ok (.iload_n 1, 1) := by decide +kernel
theorem d_Md_waitsAt_72 : decode b_Md_waitsAt 72 = .ok (.iaload, 1) := by decide +kernel
theorem d_Md_waitsAt_73 : decode b_Md_waitsAt 73 = .ok (.iload_n 2, 1) := by decide +kernel
theorem d_Md_waitsAt_74 : decode b_Md_waitsAt 74 = .ok (.if_icmp .ne 7, 3) := by decide +kernel
theorem d_Md_waitsAt_77 : decode b_Md_waitsAt 77 = .ok (.iconst 1, 1) := by decide +kernel
theorem d_Md_waitsAt_78 : decode b_Md_waitsAt 78 = .ok (.goto 4, 3) := by decide +kernel
theorem d_Md_waitsAt_81 : decode b_Md_waitsAt 81 = .ok (.iconst 0, 1) := by decide +kernel
theorem d_Md_waitsAt_82 : decode b_Md_waitsAt 82 = .ok (.ireturn, 1) := by decide +kernel
theorem d_Md_waiter_0 : decode b_Md_waiter 0 = .ok (.iconst 0, 1) := by decide +kernel
theorem d_Md_waiter_1 : decode b_Md_waiter 1 = .ok (.istore 4, 2) := by decide +kernel
theorem d_Md_waiter_3 : decode b_Md_waiter 3 = .ok (.iload 4, 2) := by decide +kernel
theorem d_Md_waiter_5 : decode b_Md_waiter 5 = .ok (.bipush 16, 2) := by decide +kernel
theorem d_Md_waiter_7 : decode b_Md_waiter 7 = .ok (.if_icmp .ge 91, 3) := by decide +kernel
theorem d_Md_waiter_10 : decode b_Md_waiter 10 = .ok (.aload_n 0, 1) := by decide +kernel
theorem d_Md_waiter_11 : decode b_Md_waiter 11 = .ok (.iload 4, 2) := by decide +kernel
theorem d_Md_waiter_13 : decode b_Md_waiter 13 = .ok (.iload_n 1, 1) := by decide +kernel
theorem d_Md_waiter_14 : decode b_Md_waiter 14 = .ok (.iload_n 2, 1) := by decide +kernel
theorem d_Md_waiter_15 : decode b_Md_waiter 15 = .ok (.invokevirtual 69, 3) := by decide +kernel
theorem d_Md_waiter_18 : decode b_Md_waiter 18 = .ok (.ifCond .ne 6, 3) := by decide +kernel
theorem d_Md_waiter_21 : decode b_Md_waiter 21 = .ok (.goto 71, 3) := by decide +kernel
theorem d_Md_waiter_24 : decode b_Md_waiter 24 = .ok (.iconst 0, 1) := by decide +kernel
theorem d_Md_waiter_25 : decode b_Md_waiter 25 = .ok (.istore 5, 2) := by decide +kernel
theorem d_Md_waiter_27 : decode b_Md_waiter 27 = .ok (.iconst 0, 1) := by decide +kernel
theorem d_Md_waiter_28 : decode b_Md_waiter 28 = .ok (.istore 6, 2) := by decide +kernel
theorem d_Md_waiter_30 : decode b_Md_waiter 30 = .ok (.iload 6, 2) := by decide +kernel
theorem d_Md_waiter_32 : decode b_Md_waiter 32 = .ok (.bipush 16, 2) := by decide +kernel
theorem d_Md_waiter_34 : decode b_Md_waiter 34 = .ok (.if_icmp .ge 49, 3) := by decide +kernel
theorem d_Md_waiter_37 : decode b_Md_waiter 37 = .ok (.aload_n 0, 1) := by decide +kernel
theorem d_Md_waiter_38 : decode b_Md_waiter 38 = .ok (.iload 6, 2) := by decide +kernel
theorem d_Md_waiter_40 : decode b_Md_waiter 40 = .ok (.iload_n 1, 1) := by decide +kernel
theorem d_Md_waiter_41 : decode b_Md_waiter 41 = .ok (.iload_n 2, 1) := by decide +kernel
theorem d_Md_waiter_42 : decode b_Md_waiter 42 = .ok (.invokevirtual 69, 3) := by decide +kernel
theorem d_Md_waiter_45 : decode b_Md_waiter 45 = .ok (.ifCond .eq 28, 3) := by decide +kernel
theorem d_Md_waiter_48 : decode b_Md_waiter 48 = .ok (.aload_n 0, 1) := by decide +kernel
theorem d_Md_waiter_49 : decode b_Md_waiter 49 = .ok (.getfield 26, 3) := by decide +kernel
theorem d_Md_waiter_52 : decode b_Md_waiter 52 = .ok (.iload 6, 2) := by decide +kernel
theorem d_Md_waiter_54 : decode b_Md_waiter 54 = .ok (.laload, 1) := by decide +kernel
theorem d_Md_waiter_55 : decode b_Md_waiter 55 = .ok (.aload_n 0, 1) := by decide +kernel
theorem d_Md_waiter_56 : decode b_Md_waiter 56 = .ok (.getfield 26, 3) := by decide +kernel
theorem d_Md_waiter_59 : decode b_Md_waiter 59 = .ok (.iload 4, 2) := by decide +kernel
theorem d_Md_waiter_61 : decode b_Md_waiter 61 = .ok (.laload, 1) := by decide +kernel
theorem d_Md_waiter_62 : decode b_Md_waiter 62 = .ok (.lcmp, 1) := by decide +kernel
theorem d_Md_waiter_63 : decode b_Md_waiter 63 = .ok (.ifCond .ge 10, 3) := by decide +kernel
theorem d_Md_waiter_66 : decode b_Md_waiter 66 = .ok (.iload 5, 2) := by decide +kernel
theorem d_Md_waiter_68 : decode b_Md_waiter 68 = .ok (.iconst 1, 1) := by decide +kernel
theorem d_Md_waiter_69 : decode b_Md_waiter 69 = .ok (.iadd, 1) := by decide +kernel
theorem d_Md_waiter_70 : decode b_Md_waiter 70 = .ok (.goto 5, 3) := by decide +kernel
theorem d_Md_waiter_73 : decode b_Md_waiter 73 = .ok (.iload 5, 2) := by decide +kernel
theorem d_Md_waiter_75 : decode b_Md_waiter 75 = .ok (.istore 5, 2) := by decide +kernel
theorem d_Md_waiter_77 : decode b_Md_waiter 77 = .ok (.iinc 6 1, 3) := by decide +kernel
theorem d_Md_waiter_80 : decode b_Md_waiter 80 = .ok (.goto (-50), 3) := by decide +kernel
theorem d_Md_waiter_83 : decode b_Md_waiter 83 = .ok (.iload 5, 2) := by decide +kernel
theorem d_Md_waiter_85 : decode b_Md_waiter 85 = .ok (.iload_n 3, 1) := by decide +kernel
theorem d_Md_waiter_86 : decode b_Md_waiter 86 = .ok (.if_icmp .ne 6, 3) := by decide +kernel
theorem d_Md_waiter_89 : decode b_Md_waiter 89 = .ok (.iload 4, 2) := by decide +kernel
theorem d_Md_waiter_91 : decode b_Md_waiter 91 = .ok (.ireturn, 1) := by decide +kernel
theorem d_Md_waiter_92 : decode b_Md_waiter 92 = .ok (.iinc 4 1, 3) := by decide +kernel
theorem d_Md_waiter_95 : decode b_Md_waiter 95 = .ok (.goto (-92), 3) := by decide +kernel
theorem d_Md_waiter_98 : decode b_Md_waiter 98 = .ok (.iconst (-1), 1) := by decide +kernel
theorem d_Md_waiter_99 : decode b_Md_waiter 99 = .ok (.ireturn, 1) := by decide +kernel
theorem d_Md_ready_0 : decode b_Md_ready 0 = .ok (.aload_n 0, 1) := by decide +kernel
theorem d_Md_ready_1 : decode b_Md_ready 1 = .ok (.getfield 23, 3) := by decide +kernel
theorem d_Md_ready_4 : decode b_Md_ready 4 = .ok (.iload_n 1, 1) := by decide +kernel
theorem d_Md_ready_5 : decode b_Md_ready 5 = .ok (.iload_n 2, 1) := by decide +kernel
theorem d_Md_ready_6 : decode b_Md_ready 6 = .ok (.iastore, 1) := by decide +kernel
theorem d_Md_ready_7 : decode b_Md_ready 7 = .ok (.aload_n 0, 1) := by decide +kernel
theorem d_Md_ready_8 : decode b_Md_ready 8 = .ok (.getfield 45, 3) := by decide +kernel
theorem d_Md_ready_11 : decode b_Md_ready 11 = .ok (.iload_n 1, 1) := by decide +kernel
theorem d_Md_ready_12 : decode b_Md_ready 12 = .ok (.iconst 0, 1) := by decide +kernel
theorem d_Md_ready_13 : decode b_Md_ready 13 = .ok (.iastore, 1) := by decide +kernel
theorem d_Md_ready_14 : decode b_Md_ready 14 = .ok (.aload_n 0, 1) := by decide +kernel
theorem d_Md_ready_15 : decode b_Md_ready 15 = .ok (.iload_n 2, 1) := by decide +kernel
theorem d_Md_ready_16 : decode b_Md_ready 16 = .ok (.iconst 4, 1) := by decide +kernel
theorem d_Md_ready_17 : decode b_Md_ready 17 = .ok (.if_icmp .ne 12, 3) := by decide +kernel
theorem d_Md_ready_20 : decode b_Md_ready 20 = .ok (.aload_n 0, 1) := by decide +kernel
theorem d_Md_ready_21 : decode b_Md_ready 21 = .ok (.getfield 73, 3) := by decide +kernel
theorem d_Md_ready_24 : decode b_Md_ready 24 = .ok (.iconst 1, 1) := by decide +kernel
theorem d_Md_ready_25 : decode b_Md_ready 25 = .ok (.iadd, 1) := by decide +kernel
theorem d_Md_ready_26 : decode b_Md_ready 26 = .ok (.goto 7, 3) := by decide +kernel
theorem d_Md_ready_29 : decode b_Md_ready 29 = .ok (.aload_n 0, 1) := by decide +kernel
theorem d_Md_ready_30 : decode b_Md_ready 30 = .ok (.getfield 73, 3) := by decide +kernel
theorem d_Md_ready_33 : decode b_Md_ready 33 = .ok (.putfield 73, 3) := by decide +kernel
theorem d_Md_ready_36 : decode b_Md_ready 36 = .ok (.return_, 1) := by decide +kernel
theorem d_Md_waits_0 : decode b_Md_waits 0 = .ok (.aload_n 0, 1) := by decide +kernel
theorem d_Md_waits_1 : decode b_Md_waits 1 = .ok (.getfield 23, 3) := by decide +kernel
theorem d_Md_waits_4 : decode b_Md_waits 4 = .ok (.iload_n 1, 1) := by decide +kernel
theorem d_Md_waits_5 : decode b_Md_waits 5 = .ok (.iload_n 2, 1) := by decide +kernel
theorem d_Md_waits_6 : decode b_Md_waits 6 = .ok (.iastore, 1) := by decide +kernel
theorem d_Md_waits_7 : decode b_Md_waits 7 = .ok (.aload_n 0, 1) := by decide +kernel
theorem d_Md_waits_8 : decode b_Md_waits 8 = .ok (.getfield 26, 3) := by decide +kernel
theorem d_Md_waits_11 : decode b_Md_waits 11 = .ok (.iload_n 1, 1) := by decide +kernel
theorem d_Md_waits_12 : decode b_Md_waits 12 = .ok (.aload_n 0, 1) := by decide +kernel
theorem d_Md_waits_13 : decode b_Md_waits 13 = .ok (.getfield 76, 3) := by decide +kernel
theorem d_Md_waits_16 : decode b_Md_waits 16 = .ok (.lastore, 1) := by decide +kernel
theorem d_Md_waits_17 : decode b_Md_waits 17 = .ok (.aload_n 0, 1) := by decide +kernel
theorem d_Md_waits_18 : decode b_Md_waits 18 = .ok (.aload_n 0, 1) := by decide +kernel
theorem d_Md_waits_19 : decode b_Md_waits 19 = .ok (.getfield 76, 3) := by decide +kernel
theorem d_Md_waits_22 : decode b_Md_waits 22 = .ok (.lconst 1, 1) := by decide +kernel
theorem d_Md_waits_23 : decode b_Md_waits 23 = .ok (.ladd, 1) := by decide +kernel
theorem d_Md_waits_24 : decode b_Md_waits 24 = .ok (.putfield 76, 3) := by decide +kernel
theorem d_Md_waits_27 : decode b_Md_waits 27 = .ok (.return_, 1) := by decide +kernel
theorem d_Md_receives_0 : decode b_Md_receives 0 = .ok (.aload_n 0, 1) := by decide +kernel
theorem d_Md_receives_1 : decode b_Md_receives 1 = .ok (.getfield 23, 3) := by decide +kernel
theorem d_Md_receives_4 : decode b_Md_receives 4 = .ok (.iload_n 1, 1) := by decide +kernel
theorem d_Md_receives_5 : decode b_Md_receives 5 = .ok (.iaload, 1) := by decide +kernel
theorem d_Md_receives_6 : decode b_Md_receives 6 = .ok (.iconst 3, 1) := by decide +kernel
theorem d_Md_receives_7 : decode b_Md_receives 7 = .ok (.if_icmp .ne 16, 3) := by decide +kernel
theorem d_Md_receives_10 : decode b_Md_receives 10 = .ok (.aload_n 0, 1) := by decide +kernel
theorem d_Md_receives_11 : decode b_Md_receives 11 = .ok (.getfield 42, 3) := by decide +kernel
theorem d_Md_receives_14 : decode b_Md_receives 14 = .ok (.iload_n 1, 1) := by decide +kernel
theorem d_Md_receives_15 : decode b_Md_receives 15 = .ok (.aload_n 0, 1) := by decide +kernel
theorem d_Md_receives_16 : decode b_Md_receives 16 = .ok (.iload_n 1, 1) := by decide +kernel
theorem d_Md_receives_17 : decode b_Md_receives 17 = .ok (.iload_n 2, 1) := by decide +kernel
theorem d_Md_receives_18 : decode b_Md_receives 18 = .ok (.iconst 1, 1) := by decide +kernel
theorem d_Md_receives_19 : decode b_Md_receives 19 = .ok (.invokevirtual 65, 3) := by decide +kernel
theorem d_Md_receives_22 : decode b_Md_receives 22 = .ok (.iastore, 1) := by decide +kernel
theorem d_Md_receives_23 : decode b_Md_receives 23 = .ok (.aload_n 0, 1) := by decide +kernel
theorem d_Md_receives_24 : decode b_Md_receives 24 = .ok (.getfield 36, 3) := by decide +kernel
theorem d_Md_receives_27 : decode b_Md_receives 27 = .ok (.iload_n 1, 1) := by decide +kernel
theorem d_Md_receives_28 : decode b_Md_receives 28 = .ok (.iload_n 3, 1) := by decide +kernel
theorem d_Md_receives_29 : decode b_Md_receives 29 = .ok (.iastore, 1) := by decide +kernel
theorem d_Md_receives_30 : decode b_Md_receives 30 = .ok (.aload_n 0, 1) := by decide +kernel
theorem d_Md_receives_31 : decode b_Md_receives 31 = .ok (.getfield 39, 3) := by decide +kernel
theorem d_Md_receives_34 : decode b_Md_receives 34 = .ok (.iload_n 1, 1) := by decide +kernel
theorem d_Md_receives_35 : decode b_Md_receives 35 = .ok (.iload 4, 2) := by decide +kernel
theorem d_Md_receives_37 : decode b_Md_receives 37 = .ok (.bastore, 1) := by decide +kernel
theorem d_Md_receives_38 : decode b_Md_receives 38 = .ok (.aload_n 0, 1) := by decide +kernel
theorem d_Md_receives_39 : decode b_Md_receives 39 = .ok (.iload_n 1, 1) := by decide +kernel
theorem d_Md_receives_40 : decode b_Md_receives 40 = .ok (.iconst 0, 1) := by decide +kernel
theorem d_Md_receives_41 : decode b_Md_receives 41 = .ok (.invokevirtual 80, 3) := by decide +kernel
theorem d_Md_receives_44 : decode b_Md_receives 44 = .ok (.return_, 1) := by decide +kernel
theorem d_Md_sends_0 : decode b_Md_sends 0 = .ok (.aload_n 0, 1) := by decide +kernel
theorem d_Md_sends_1 : decode b_Md_sends 1 = .ok (.getfield 23, 3) := by decide +kernel
theorem d_Md_sends_4 : decode b_Md_sends 4 = .ok (.iload_n 1, 1) := by decide +kernel
theorem d_Md_sends_5 : decode b_Md_sends 5 = .ok (.iaload, 1) := by decide +kernel
theorem d_Md_sends_6 : decode b_Md_sends 6 = .ok (.iconst 3, 1) := by decide +kernel
theorem d_Md_sends_7 : decode b_Md_sends 7 = .ok (.if_icmp .ne 13, 3) := by decide +kernel
theorem d_Md_sends_10 : decode b_Md_sends 10 = .ok (.aload_n 0, 1) := by decide +kernel
theorem d_Md_sends_11 : decode b_Md_sends 11 = .ok (.iload_n 1, 1) := by decide +kernel
theorem d_Md_sends_12 : decode b_Md_sends 12 = .ok (.iload_n 2, 1) := by decide +kernel
theorem d_Md_sends_13 : decode b_Md_sends 13 = .ok (.iconst 0, 1) := by decide +kernel
theorem d_Md_sends_14 : decode b_Md_sends 14 = .ok (.invokevirtual 65, 3) := by decide +kernel
theorem d_Md_sends_17 : decode b_Md_sends 17 = .ok (.goto 4, 3) := by decide +kernel
theorem d_Md_sends_20 : decode b_Md_sends 20 = .ok (.iconst (-1), 1) := by decide +kernel
theorem d_Md_sends_21 : decode b_Md_sends 21 = .ok (.istore_n 3, 1) := by decide +kernel
theorem d_Md_sends_22 : decode b_Md_sends 22 = .ok (.iload_n 3, 1) := by decide +kernel
theorem d_Md_sends_23 : decode b_Md_sends 23 = .ok (.ifCond .lt 17, 3) := by decide +kernel
theorem d_Md_sends_26 : decode b_Md_sends 26 = .ok (.aload_n 0, 1) := by decide +kernel
theorem d_Md_sends_27 : decode b_Md_sends 27 = .ok (.getfield 54, 3) := by decide +kernel
theorem d_Md_sends_30 : decode b_Md_sends 30 = .ok (.bipush 6, 2) := by decide +kernel
theorem d_Md_sends_32 : decode b_Md_sends 32 = .ok (.iload_n 1, 1) := by decide +kernel
theorem d_Md_sends_33 : decode b_Md_sends 33 = .ok (.imul, 1) := by decide +kernel
theorem d_Md_sends_34 : decode b_Md_sends 34 = .ok (.iload_n 3, 1) := by decide +kernel
theorem d_Md_sends_35 : decode b_Md_sends 35 = .ok (.iadd, 1) := by decide +kernel
theorem d_Md_sends_36 : decode b_Md_sends 36 = .ok (.iaload, 1) := by decide +kernel
theorem d_Md_sends_37 : decode b_Md_sends 37 = .ok (.goto 9, 3) := by decide +kernel
theorem d_Md_sends_40 : decode b_Md_sends 40 = .ok (.aload_n 0, 1) := by decide +kernel
theorem d_Md_sends_41 : decode b_Md_sends 41 = .ok (.getfield 33, 3) := by decide +kernel
theorem d_Md_sends_44 : decode b_Md_sends 44 = .ok (.iload_n 1, 1) := by decide +kernel
theorem d_Md_sends_45 : decode b_Md_sends 45 = .ok (.iaload, 1) := by decide +kernel
theorem d_Md_sends_46 : decode b_Md_sends 46 = .ok (.istore 4, 2) := by decide +kernel
theorem d_Md_sends_48 : decode b_Md_sends 48 = .ok (.iload_n 3, 1) := by decide +kernel
theorem d_Md_sends_49 : decode b_Md_sends 49 = .ok (.ifCond .lt 10, 3) := by decide +kernel
theorem d_Md_sends_52 : decode b_Md_sends 52 = .ok (.aload_n 0, 1) := by decide +kernel
theorem d_Md_sends_53 : decode b_Md_sends 53 = .ok (.getfield 42, 3) := by decide +kernel
theorem d_Md_sends_56 : decode b_Md_sends 56 = .ok (.iload_n 1, 1) := by decide +kernel
theorem d_Md_sends_57 : decode b_Md_sends 57 = .ok (.iload_n 3, 1) := by decide +kernel
theorem d_Md_sends_58 : decode b_Md_sends 58 = .ok (.iastore, 1) := by decide +kernel
theorem d_Md_sends_59 : decode b_Md_sends 59 = .ok (.aload_n 0, 1) := by decide +kernel
theorem d_Md_sends_60 : decode b_Md_sends 60 = .ok (.iload_n 1, 1) := by decide +kernel
theorem d_Md_sends_61 : decode b_Md_sends 61 = .ok (.iconst 0, 1) := by decide +kernel
theorem d_Md_sends_62 : decode b_Md_sends 62 = .ok (.invokevirtual 80, 3) := by decide +kernel
theorem d_Md_sends_65 : decode b_Md_sends 65 = .ok (.aload_n 0, 1) := by decide +kernel
theorem d_Md_sends_66 : decode b_Md_sends 66 = .ok (.aload_n 0, 1) := by decide +kernel
theorem d_Md_sends_67 : decode b_Md_sends 67 = .ok (.getfield 84, 3) := by decide +kernel
theorem d_Md_sends_70 : decode b_Md_sends 70 = .ok (.iconst 1, 1) := by decide +kernel
theorem d_Md_sends_71 : decode b_Md_sends 71 = .ok (.iadd, 1) := by decide +kernel
theorem d_Md_sends_72 : decode b_Md_sends 72 = .ok (.putfield 84, 3) := by decide +kernel
theorem d_Md_sends_75 : decode b_Md_sends 75 = .ok (.iload 4, 2) := by decide +kernel
theorem d_Md_sends_77 : decode b_Md_sends 77 = .ok (.ireturn, 1) := by decide +kernel
theorem d_Md_push_0 : decode b_Md_push 0 = .ok (.aload_n 0, 1) := by decide +kernel
theorem d_Md_push_1 : decode b_Md_push 1 = .ok (.getfield 20, 3) := by decide +kernel
theorem d_Md_push_4 : decode b_Md_push 4 = .ok (.bipush 8, 2) := by decide +kernel
theorem d_Md_push_6 : decode b_Md_push 6 = .ok (.iload_n 1, 1) := by decide +kernel
theorem d_Md_push_7 : decode b_Md_push 7 = .ok (.imul, 1) := by decide +kernel
theorem d_Md_push_8 : decode b_Md_push 8 = .ok (.aload_n 0, 1) := by decide +kernel
theorem d_Md_push_9 : decode b_Md_push 9 = .ok (.getfield 17, 3) := by decide +kernel
theorem d_Md_push_12 : decode b_Md_push 12 = .ok (.iload_n 1, 1) := by decide +kernel
theorem d_Md_push_13 : decode b_Md_push 13 = .ok (.iaload, 1) := by decide +kernel
theorem d_Md_push_14 : decode b_Md_push 14 = .ok (.iadd, 1) := by decide +kernel
theorem d_Md_push_15 : decode b_Md_push 15 = .ok (.iload_n 2, 1) := by decide +kernel
theorem d_Md_push_16 : decode b_Md_push 16 = .ok (.iastore, 1) := by decide +kernel
theorem d_Md_push_17 : decode b_Md_push 17 = .ok (.aload_n 0, 1) := by decide +kernel
theorem d_Md_push_18 : decode b_Md_push 18 = .ok (.getfield 17, 3) := by decide +kernel
theorem d_Md_push_21 : decode b_Md_push 21 = .ok (.iload_n 1, 1) := by decide +kernel
theorem d_Md_push_22 : decode b_Md_push 22 = .ok (.aload_n 0, 1) := by decide +kernel
theorem d_Md_push_23 : decode b_Md_push 23 = .ok (.getfield 17, 3) := by decide +kernel
theorem d_Md_push_26 : decode b_Md_push 26 = .ok (.iload_n 1, 1) := by decide +kernel
theorem d_Md_push_27 : decode b_Md_push 27 = .ok (.iaload, 1) := by decide +kernel
theorem d_Md_push_28 : decode b_Md_push 28 = .ok (.iconst 1, 1) := by decide +kernel
theorem d_Md_push_29 : decode b_Md_push 29 = .ok (.iadd, 1) := by decide +kernel
theorem d_Md_push_30 : decode b_Md_push 30 = .ok (.iastore, 1) := by decide +kernel
theorem d_Md_push_31 : decode b_Md_push 31 = .ok (.return_, 1) := by decide +kernel
theorem d_Md_take_0 : decode b_Md_take 0 = .ok (.aload_n 0, 1) := by decide +kernel
theorem d_Md_take_1 : decode b_Md_take 1 = .ok (.getfield 20, 3) := by decide +kernel
theorem d_Md_take_4 : decode b_Md_take 4 = .ok (.bipush 8, 2) := by decide +kernel
theorem d_Md_take_6 : decode b_Md_take 6 = .ok (.iload_n 1, 1) := by decide +kernel
theorem d_Md_take_7 : decode b_Md_take 7 = .ok (.imul, 1) := by decide +kernel
theorem d_Md_take_8 : decode b_Md_take 8 = .ok (.iaload, 1) := by decide +kernel
theorem d_Md_take_9 : decode b_Md_take 9 = .ok (.istore_n 2, 1) := by decide +kernel
theorem d_Md_take_10 : decode b_Md_take 10 = .ok (.aload_n 0, 1) := by decide +kernel
theorem d_Md_take_11 : decode b_Md_take 11 = .ok (.getfield 17, 3) := by decide +kernel
theorem d_Md_take_14 : decode b_Md_take 14 = .ok (.iload_n 1, 1) := by decide +kernel
theorem d_Md_take_15 : decode b_Md_take 15 = .ok (.aload_n 0, 1) := by decide +kernel
theorem d_Md_take_16 : decode b_Md_take 16 = .ok (.getfield 17, 3) := by decide +kernel
theorem d_Md_take_19 : decode b_Md_take 19 = .ok (.iload_n 1, 1) := by decide +kernel
theorem d_Md_take_20 : decode b_Md_take 20 = .ok (.iaload, 1) := by decide +kernel
theorem d_Md_take_21 : decode b_Md_take 21 = .ok (.iconst 1, 1) := by decide +kernel
theorem d_Md_take_22 : decode b_Md_take 22 = .ok (.isub, 1) := by decide +kernel
theorem d_Md_take_23 : decode b_Md_take 23 = .ok (.iastore, 1) := by decide +kernel
theorem d_Md_take_24 : decode b_Md_take 24 = .ok (.iconst 0, 1) := by decide +kernel
theorem d_Md_take_25 : decode b_Md_take 25 = .ok (.istore_n 3, 1) := by decide +kernel
theorem d_Md_take_26 : decode b_Md_take 26 = .ok (.iload_n 3, 1) := by decide +kernel
theorem d_Md_take_27 : decode b_Md_take 27 = .ok (.aload_n 0, 1) := by decide +kernel
theorem d_Md_take_28 : decode b_Md_take 28 = .ok (.getfield 17, 3) := by decide +kernel
theorem d_Md_take_31 : decode b_Md_take 31 = .ok (.iload_n 1, 1) := by decide +kernel
theorem d_Md_take_32 : decode b_Md_take 32 = .ok (.iaload, 1) := by decide +kernel
theorem d_Md_take_33 : decode b_Md_take 33 = .ok (.if_icmp .ge 33, 3) := by decide +kernel
theorem d_Md_take_36 : decode b_Md_take 36 = .ok (.aload_n 0, 1) := by decide +kernel
theorem d_Md_take_37 : decode b_Md_take 37 = .ok (.getfield 20, 3) := by decide +kernel
theorem d_Md_take_40 : decode b_Md_take 40 = .ok (.bipush 8, 2) := by decide +kernel
theorem d_Md_take_42 : decode b_Md_take 42 = .ok (.iload_n 1, 1) := by decide +kernel
theorem d_Md_take_43 : decode b_Md_take 43 = .ok (.imul, 1) := by decide +kernel
theorem d_Md_take_44 : decode b_Md_take 44 = .ok (.iload_n 3, 1) := by decide +kernel
theorem d_Md_take_45 : decode b_Md_take 45 = .ok (.iadd, 1) := by decide +kernel
theorem d_Md_take_46 : decode b_Md_take 46 = .ok (.aload_n 0, 1) := by decide +kernel
theorem d_Md_take_47 : decode b_Md_take 47 = .ok (.getfield 20, 3) := by decide +kernel
theorem d_Md_take_50 : decode b_Md_take 50 = .ok (.bipush 8, 2) := by decide +kernel
theorem d_Md_take_52 : decode b_Md_take 52 = .ok (.iload_n 1, 1) := by decide +kernel
theorem d_Md_take_53 : decode b_Md_take 53 = .ok (.imul, 1) := by decide +kernel
theorem d_Md_take_54 : decode b_Md_take 54 = .ok (.iload_n 3, 1) := by decide +kernel
theorem d_Md_take_55 : decode b_Md_take 55 = .ok (.iadd, 1) := by decide +kernel
theorem d_Md_take_56 : decode b_Md_take 56 = .ok (.iconst 1, 1) := by decide +kernel
theorem d_Md_take_57 : decode b_Md_take 57 = .ok (.iadd, 1) := by decide +kernel
theorem d_Md_take_58 : decode b_Md_take 58 = .ok (.iaload, 1) := by decide +kernel
theorem d_Md_take_59 : decode b_Md_take 59 = .ok (.iastore, 1) := by decide +kernel
theorem d_Md_take_60 : decode b_Md_take 60 = .ok (.iinc 3 1, 3) := by decide +kernel
theorem d_Md_take_63 : decode b_Md_take 63 = .ok (.goto (-37), 3) := by decide +kernel
theorem d_Md_take_66 : decode b_Md_take 66 = .ok (.iload_n 2, 1) := by decide +kernel
theorem d_Md_take_67 : decode b_Md_take 67 = .ok (.ireturn, 1) := by decide +kernel
theorem d_Md_isPossible_0 : decode b_Md_isPossible 0 = .ok (.aload_n 0, 1) := by decide +kernel
theorem d_Md_isPossible_1 : decode b_Md_isPossible 1 = .ok (.getfield 13, 3) := by decide +kernel
theorem d_Md_isPossible_4 : decode b_Md_isPossible 4 = .ok (.iload_n 1, 1) := by decide +kernel
theorem d_Md_isPossible_5 : decode b_Md_isPossible 5 = .ok (.baload, 1) := by decide +kernel
theorem d_Md_isPossible_6 : decode b_Md_isPossible 6 = .ok (.ifCond .ne 15, 3) := by decide +kernel
theorem d_Md_isPossible_9 : decode b_Md_isPossible 9 = .ok (.aload_n 0, 1) := by decide +kernel
theorem d_Md_isPossible_10 : decode b_Md_isPossible 10 = .ok (.iload_n 1, 1) := by decide +kernel
theorem d_Md_isPossible_11 : decode b_Md_isPossible 11 = .ok (.iconst 1, 1) := by decide +kernel
theorem d_Md_isPossible_12 : decode b_Md_isPossible 12 = .ok (.iload_n 2, 1) := by decide +kernel
theorem d_Md_isPossible_13 : decode b_Md_isPossible 13 = .ok (.isub, 1) := by decide +kernel
theorem d_Md_isPossible_14 : decode b_Md_isPossible 14 = .ok (.iconst 0, 1) := by decide +kernel
theorem d_Md_isPossible_15 : decode b_Md_isPossible 15 = .ok (.invokevirtual 87, 3) := by decide +kernel
theorem d_Md_isPossible_18 : decode b_Md_isPossible 18 = .ok (.ifCond .lt 5, 3) := by decide +kernel
theorem d_Md_isPossible_21 : decode b_Md_isPossible 21 = .ok (.iconst 1, 1) := by decide +kernel
theorem d_Md_isPossible_22 : decode b_Md_isPossible 22 = .ok (.ireturn, 1) := by decide +kernel
theorem d_Md_isPossible_23 : decode b_Md_isPossible 23 = .ok (.iload_n 2, 1) := by decide +kernel
theorem d_Md_isPossible_24 : decode b_Md_isPossible 24 = .ok (.ifCond .ne 26, 3) := by decide +kernel
theorem d_Md_isPossible_27 : decode b_Md_isPossible 27 = .ok (.aload_n 0, 1) := by decide +kernel
theorem d_Md_isPossible_28 : decode b_Md_isPossible 28 = .ok (.getfield 17, 3) := by decide +kernel
theorem d_Md_isPossible_31 : decode b_Md_isPossible 31 = .ok (.iload_n 1, 1) := by decide +kernel
theorem d_Md_isPossible_32 : decode b_Md_isPossible 32 = .ok (.iaload, 1) := by decide +kernel
theorem d_Md_isPossible_33 : decode b_Md_isPossible 33 = .ok (.aload_n 0, 1) := by decide +kernel
theorem d_Md_isPossible_34 : decode b_Md_isPossible 34 = .ok (.getfield 7, 3) := by decide +kernel
theorem d_Md_isPossible_37 : decode b_Md_isPossible 37 = .ok (.iload_n 1, 1) := by decide +kernel
theorem d_Md_isPossible_38 : decode b_Md_isPossible 38 = .ok (.iaload, 1) := by decide +kernel
theorem d_Md_isPossible_39 : decode b_Md_isPossible 39 = .ok (.if_icmp .ge 7, 3) := by decide +kernel
theorem d_Md_isPossible_42 : decode b_Md_isPossible 42 = .ok (.iconst 1, 1) := by decide +kernel
theorem d_Md_isPossible_43 : decode b_Md_isPossible 43 = .ok (.goto 21, 3) := by decide +kernel
theorem d_Md_isPossible_46 : decode b_Md_isPossible 46 = .ok (.iconst 0, 1) := by decide +kernel
theorem d_Md_isPossible_47 : decode b_Md_isPossible 47 = .ok (.goto 17, 3) := by decide +kernel
theorem d_Md_isPossible_50 : decode b_Md_isPossible 50 = .ok (.aload_n 0, 1) := by decide +kernel
theorem d_Md_isPossible_51 : decode b_Md_isPossible 51 = .ok (.getfield 17, 3) := by decide +kernel
theorem d_Md_isPossible_54 : decode b_Md_isPossible 54 = .ok (.iload_n 1, 1) := by decide +kernel
theorem d_Md_isPossible_55 : decode b_Md_isPossible 55 = .ok (.iaload, 1) := by decide +kernel
theorem d_Md_isPossible_56 : decode b_Md_isPossible 56 = .ok (.ifCond .le 7, 3) := by decide +kernel
theorem d_Md_isPossible_59 : decode b_Md_isPossible 59 = .ok (.iconst 1, 1) := by decide +kernel
theorem d_Md_isPossible_60 : decode b_Md_isPossible 60 = .ok (.goto 4, 3) := by decide +kernel
theorem d_Md_isPossible_63 : decode b_Md_isPossible 63 = .ok (.iconst 0, 1) := by decide +kernel
theorem d_Md_isPossible_64 : decode b_Md_isPossible 64 = .ok (.ireturn, 1) := by decide +kernel
theorem d_Md_sendNow_0 : decode b_Md_sendNow 0 = .ok (.aload_n 0, 1) := by decide +kernel
theorem d_Md_sendNow_1 : decode b_Md_sendNow 1 = .ok (.getfield 13, 3) := by decide +kernel
theorem d_Md_sendNow_4 : decode b_Md_sendNow 4 = .ok (.iload_n 2, 1) := by decide +kernel
theorem d_Md_sendNow_5 : decode b_Md_sendNow 5 = .ok (.baload, 1) := by decide +kernel
theorem d_Md_sendNow_6 : decode b_Md_sendNow 6 = .ok (.ifCond .eq 11, 3) := by decide +kernel
theorem d_Md_sendNow_9 : decode b_Md_sendNow 9 = .ok (.aload_n 0, 1) := by decide +kernel
theorem d_Md_sendNow_10 : decode b_Md_sendNow 10 = .ok (.iload_n 1, 1) := by decide +kernel
theorem d_Md_sendNow_11 : decode b_Md_sendNow 11 = .ok (.iconst 4, 1) := by decide +kernel
theorem d_Md_sendNow_12 : decode b_Md_sendNow 12 = .ok (.invokevirtual 80, 3) := by decide +kernel
theorem d_Md_sendNow_15 : decode b_Md_sendNow 15 = .ok (.iconst 3, 1) := by decide +kernel
theorem d_Md_sendNow_16 : decode b_Md_sendNow 16 = .ok (.ireturn, 1) := by decide +kernel
theorem d_Md_sendNow_17 : decode b_Md_sendNow 17 = .ok (.aload_n 0, 1) := by decide +kernel
theorem d_Md_sendNow_18 : decode b_Md_sendNow 18 = .ok (.iload_n 2, 1) := by decide +kernel
theorem d_Md_sendNow_19 : decode b_Md_sendNow 19 = .ok (.iconst 1, 1) := by decide +kernel
theorem d_Md_sendNow_20 : decode b_Md_sendNow 20 = .ok (.iconst 0, 1) := by decide +kernel
theorem d_Md_sendNow_21 : decode b_Md_sendNow 21 = .ok (.invokevirtual 87, 3) := by decide +kernel
theorem d_Md_sendNow_24 : decode b_Md_sendNow 24 = .ok (.istore 4, 2) := by decide +kernel
theorem d_Md_sendNow_26 : decode b_Md_sendNow 26 = .ok (.iload 4, 2) := by decide +kernel
theorem d_Md_sendNow_28 : decode b_Md_sendNow 28 = .ok (.ifCond .lt 25, 3) := by decide +kernel
theorem d_Md_sendNow_31 : decode b_Md_sendNow 31 = .ok (.aload_n 0, 1) := by decide +kernel
theorem d_Md_sendNow_32 : decode b_Md_sendNow 32 = .ok (.iload 4, 2) := by decide +kernel
theorem d_Md_sendNow_34 : decode b_Md_sendNow 34 = .ok (.iload_n 2, 1) := by decide +kernel
theorem d_Md_sendNow_35 : decode b_Md_sendNow 35 = .ok (.iload_n 3, 1) := by decide +kernel
theorem d_Md_sendNow_36 : decode b_Md_sendNow 36 = .ok (.iconst 1, 1) := by decide +kernel
theorem d_Md_sendNow_37 : decode b_Md_sendNow 37 = .ok (.invokevirtual 90, 3) := by decide +kernel
theorem d_Md_sendNow_40 : decode b_Md_sendNow 40 = .ok (.aload_n 0, 1) := by decide +kernel
theorem d_Md_sendNow_41 : decode b_Md_sendNow 41 = .ok (.aload_n 0, 1) := by decide +kernel
theorem d_Md_sendNow_42 : decode b_Md_sendNow 42 = .ok (.getfield 84, 3) := by decide +kernel
theorem d_Md_sendNow_45 : decode b_Md_sendNow 45 = .ok (.iconst 1, 1) := by decide +kernel
theorem d_Md_sendNow_46 : decode b_Md_sendNow 46 = .ok (.iadd, 1) := by decide +kernel
theorem d_Md_sendNow_47 : decode b_Md_sendNow 47 = .ok (.putfield 84, 3) := by decide +kernel
theorem d_Md_sendNow_50 : decode b_Md_sendNow 50 = .ok (.goto 9, 3) := by decide +kernel
theorem d_Md_sendNow_53 : decode b_Md_sendNow 53 = .ok (.aload_n 0, 1) := by decide +kernel
theorem d_Md_sendNow_54 : decode b_Md_sendNow 54 = .ok (.iload_n 2, 1) := by decide +kernel
theorem d_Md_sendNow_55 : decode b_Md_sendNow 55 = .ok (.iload_n 3, 1) := by decide +kernel
theorem d_Md_sendNow_56 : decode b_Md_sendNow 56 = .ok (.invokevirtual 94, 3) := by decide +kernel
theorem d_Md_sendNow_59 : decode b_Md_sendNow 59 = .ok (.iconst 1, 1) := by decide +kernel
theorem d_Md_sendNow_60 : decode b_Md_sendNow 60 = .ok (.ireturn, 1) := by decide +kernel
theorem d_Md_receiveNow_0 : decode b_Md_receiveNow 0 = .ok (.aload_n 0, 1) := by decide +kernel
theorem d_Md_receiveNow_1 : decode b_Md_receiveNow 1 = .ok (.iload_n 2, 1) := by decide +kernel
theorem d_Md_receiveNow_2 : decode b_Md_receiveNow 2 = .ok (.iconst 0, 1) := by decide +kernel
theorem d_Md_receiveNow_3 : decode b_Md_receiveNow 3 = .ok (.iconst 0, 1) := by decide +kernel
theorem d_Md_receiveNow_4 : decode b_Md_receiveNow 4 = .ok (.invokevirtual 87, 3) := by decide +kernel
theorem d_Md_receiveNow_7 : decode b_Md_receiveNow 7 = .ok (.istore_n 3, 1) := by decide +kernel
theorem d_Md_receiveNow_8 : decode b_Md_receiveNow 8 = .ok (.aload_n 0, 1) := by decide +kernel
theorem d_Md_receiveNow_9 : decode b_Md_receiveNow 9 = .ok (.getfield 39, 3) := by decide +kernel
theorem d_Md_receiveNow_12 : decode b_Md_receiveNow 12 = .ok (.iload_n 1, 1) := by decide +kernel
theorem d_Md_receiveNow_13 : decode b_Md_receiveNow 13 = .ok (.aload_n 0, 1) := by decide +kernel
theorem d_Md_receiveNow_14 : decode b_Md_receiveNow 14 = .ok (.getfield 17, 3) := by decide +kernel
theorem d_Md_receiveNow_17 : decode b_Md_receiveNow 17 = .ok (.iload_n 2, 1) := by decide +kernel
theorem d_Md_receiveNow_18 : decode b_Md_receiveNow 18 = .ok (.iaload, 1) := by decide +kernel
theorem d_Md_receiveNow_19 : decode b_Md_receiveNow 19 = .ok (.ifCond .gt 7, 3) := by decide +kernel
theorem d_Md_receiveNow_22 : decode b_Md_receiveNow 22 = .ok (.iload_n 3, 1) := by decide +kernel
theorem d_Md_receiveNow_23 : decode b_Md_receiveNow 23 = .ok (.ifCond .lt 7, 3) := by decide +kernel
theorem d_Md_receiveNow_26 : decode b_Md_receiveNow 26 = .ok (.iconst 1, 1) := by decide +kernel
theorem d_Md_receiveNow_27 : decode b_Md_receiveNow 27 = .ok (.goto 4, 3) := by decide +kernel
theorem d_Md_receiveNow_30 : decode b_Md_receiveNow 30 = .ok (.iconst 0, 1) := by decide +kernel
theorem d_Md_receiveNow_31 : decode b_Md_receiveNow 31 = .ok (.bastore, 1) := by decide +kernel
theorem d_Md_receiveNow_32 : decode b_Md_receiveNow 32 = .ok (.aload_n 0, 1) := by decide +kernel
theorem d_Md_receiveNow_33 : decode b_Md_receiveNow 33 = .ok (.getfield 36, 3) := by decide +kernel
theorem d_Md_receiveNow_36 : decode b_Md_receiveNow 36 = .ok (.iload_n 1, 1) := by decide +kernel
theorem d_Md_receiveNow_37 : decode b_Md_receiveNow 37 = .ok (.iconst 0, 1) := by decide +kernel
theorem d_Md_receiveNow_38 : decode b_Md_receiveNow 38 = .ok (.iastore, 1) := by decide +kernel
theorem d_Md_receiveNow_39 : decode b_Md_receiveNow 39 = .ok (.aload_n 0, 1) := by decide +kernel
theorem d_Md_receiveNow_40 : decode b_Md_receiveNow 40 = .ok (.getfield 17, 3) := by decide +kernel
theorem d_Md_receiveNow_43 : decode b_Md_receiveNow 43 = .ok (.iload_n 2, 1) := by decide +kernel
theorem d_Md_receiveNow_44 : decode b_Md_receiveNow 44 = .ok (.iaload, 1) := by decide +kernel
theorem d_Md_receiveNow_45 : decode b_Md_receiveNow 45 = .ok (.ifCond .le 32, 3) := by decide +kernel
theorem d_Md_receiveNow_48 : decode b_Md_receiveNow 48 = .ok (.aload_n 0, 1) := by decide +kernel
theorem d_Md_receiveNow_49 : decode b_Md_receiveNow 49 = .ok (.getfield 36, 3) := by decide +kernel
theorem d_Md_receiveNow_52 : decode b_Md_receiveNow 52 = .ok (.iload_n 1, 1) := by decide +kernel
theorem d_Md_receiveNow_53 : decode b_Md_receiveNow 53 = .ok (.aload_n 0, 1) := by decide +kernel
theorem d_Md_receiveNow_54 : decode b_Md_receiveNow 54 = .ok (.iload_n 2, 1) := by decide +kernel
theorem d_Md_receiveNow_55 : decode b_Md_receiveNow 55 = .ok (.invokevirtual 97, 3) := by decide +kernel
theorem d_Md_receiveNow_58 : decode b_Md_receiveNow 58 = .ok (.iastore, 1) := by decide +kernel
theorem d_Md_receiveNow_59 : decode b_Md_receiveNow 59 = .ok (.iload_n 3, 1) := by decide +kernel
theorem d_Md_receiveNow_60 : decode b_Md_receiveNow 60 = .ok (.ifCond .lt 33, 3) := by decide +kernel
theorem d_Md_receiveNow_63 : decode b_Md_receiveNow 63 = .ok (.aload_n 0, 1) := by decide +kernel
theorem d_Md_receiveNow_64 : decode b_Md_receiveNow 64 = .ok (.iload_n 2, 1) := by decide +kernel
theorem d_Md_receiveNow_65 : decode b_Md_receiveNow 65 = .ok (.aload_n 0, 1) := by decide +kernel
theorem d_Md_receiveNow_66 : decode b_Md_receiveNow 66 = .ok (.iload_n 3, 1) := by decide +kernel
theorem d_Md_receiveNow_67 : decode b_Md_receiveNow 67 = .ok (.iload_n 2, 1) := by decide +kernel
theorem d_Md_receiveNow_68 : decode b_Md_receiveNow 68 = .ok (.invokevirtual 101, 3) := by decide +kernel
theorem d_Md_receiveNow_71 : decode b_Md_receiveNow 71 = .ok (.invokevirtual 94, 3) := by decide +kernel
theorem d_Md_receiveNow_74 : decode b_Md_receiveNow 74 = .ok (.goto 19, 3) := by decide +kernel
theorem d_Md_receiveNow_77 : decode b_Md_receiveNow 77 = .ok (.iload_n 3, 1) := by decide +kernel
theorem d_Md_receiveNow_78 : decode b_Md_receiveNow 78 = .ok (.ifCond .lt 15, 3) := by decide +kernel
theorem d_Md_receiveNow_81 : decode b_Md_receiveNow 81 = .ok (.aload_n 0, 1) := by decide +kernel
theorem d_Md_receiveNow_82 : decode b_Md_receiveNow 82 = .ok (.getfield 36, 3) := by decide +kernel
theorem d_Md_receiveNow_85 : decode b_Md_receiveNow 85 = .ok (.iload_n 1, 1) := by decide +kernel
theorem d_Md_receiveNow_86 : decode b_Md_receiveNow 86 = .ok (.aload_n 0, 1) := by decide +kernel
theorem d_Md_receiveNow_87 : decode b_Md_receiveNow 87 = .ok (.iload_n 3, 1) := by decide +kernel
theorem d_Md_receiveNow_88 : decode b_Md_receiveNow 88 = .ok (.iload_n 2, 1) := by decide +kernel
theorem d_Md_receiveNow_89 : decode b_Md_receiveNow 89 = .ok (.invokevirtual 101, 3) := by decide +kernel
theorem d_Md_receiveNow_92 : decode b_Md_receiveNow 92 = .ok (.iastore, 1) := by decide +kernel
theorem d_Md_receiveNow_93 : decode b_Md_receiveNow 93 = .ok (.return_, 1) := by decide +kernel
theorem d_Md_send_0 : decode b_Md_send 0 = .ok (.aload_n 0, 1) := by decide +kernel
theorem d_Md_send_1 : decode b_Md_send 1 = .ok (.iload_n 1, 1) := by decide +kernel
theorem d_Md_send_2 : decode b_Md_send 2 = .ok (.invokevirtual 105, 3) := by decide +kernel
theorem d_Md_send_5 : decode b_Md_send 5 = .ok (.ifCond .eq 11, 3) := by decide +kernel
theorem d_Md_send_8 : decode b_Md_send 8 = .ok (.aload_n 0, 1) := by decide +kernel
theorem d_Md_send_9 : decode b_Md_send 9 = .ok (.iload_n 2, 1) := by decide +kernel
theorem d_Md_send_10 : decode b_Md_send 10 = .ok (.invokevirtual 108, 3) := by decide +kernel
theorem d_Md_send_13 : decode b_Md_send 13 = .ok (.ifCond .ne 5, 3) := by decide +kernel
theorem d_Md_send_16 : decode b_Md_send 16 = .ok (.iconst (-1), 1) := by decide +kernel
theorem d_Md_send_17 : decode b_Md_send 17 = .ok (.ireturn, 1) := by decide +kernel
theorem d_Md_send_18 : decode b_Md_send 18 = .ok (.aload_n 0, 1) := by decide +kernel
theorem d_Md_send_19 : decode b_Md_send 19 = .ok (.iload_n 1, 1) := by decide +kernel
theorem d_Md_send_20 : decode b_Md_send 20 = .ok (.iconst 0, 1) := by decide +kernel
theorem d_Md_send_21 : decode b_Md_send 21 = .ok (.invokevirtual 80, 3) := by decide +kernel
theorem d_Md_send_24 : decode b_Md_send 24 = .ok (.aload_n 0, 1) := by decide +kernel
theorem d_Md_send_25 : decode b_Md_send 25 = .ok (.iload_n 2, 1) := by decide +kernel
theorem d_Md_send_26 : decode b_Md_send 26 = .ok (.iconst 0, 1) := by decide +kernel
theorem d_Md_send_27 : decode b_Md_send 27 = .ok (.invokevirtual 111, 3) := by decide +kernel
theorem d_Md_send_30 : decode b_Md_send 30 = .ok (.ifCond .eq 11, 3) := by decide +kernel
theorem d_Md_send_33 : decode b_Md_send 33 = .ok (.aload_n 0, 1) := by decide +kernel
theorem d_Md_send_34 : decode b_Md_send 34 = .ok (.iload_n 1, 1) := by decide +kernel
theorem d_Md_send_35 : decode b_Md_send 35 = .ok (.iload_n 2, 1) := by decide +kernel
theorem d_Md_send_36 : decode b_Md_send 36 = .ok (.iload_n 3, 1) := by decide +kernel
theorem d_Md_send_37 : decode b_Md_send 37 = .ok (.invokevirtual 115, 3) := by decide +kernel
theorem d_Md_send_40 : decode b_Md_send 40 = .ok (.ireturn, 1) := by decide +kernel
theorem d_Md_send_41 : decode b_Md_send 41 = .ok (.aload_n 0, 1) := by decide +kernel
theorem d_Md_send_42 : decode b_Md_send 42 = .ok (.getfield 30, 3) := by decide +kernel
theorem d_Md_send_45 : decode b_Md_send 45 = .ok (.iload_n 1, 1) := by decide +kernel
theorem d_Md_send_46 : decode b_Md_send 46 = .ok (.iload_n 2, 1) := by decide +kernel
theorem d_Md_send_47 : decode b_Md_send 47 = .ok (.iastore, 1) := by decide +kernel
theorem d_Md_send_48 : decode b_Md_send 48 = .ok (.aload_n 0, 1) := by decide +kernel
theorem d_Md_send_49 : decode b_Md_send 49 = .ok (.getfield 33, 3) := by decide +kernel
theorem d_Md_send_52 : decode b_Md_send 52 = .ok (.iload_n 1, 1) := by decide +kernel
theorem d_Md_send_53 : decode b_Md_send 53 = .ok (.iload_n 3, 1) := by decide +kernel
theorem d_Md_send_54 : decode b_Md_send 54 = .ok (.iastore, 1) := by decide +kernel
theorem d_Md_send_55 : decode b_Md_send 55 = .ok (.aload_n 0, 1) := by decide +kernel
theorem d_Md_send_56 : decode b_Md_send 56 = .ok (.iload_n 1, 1) := by decide +kernel
theorem d_Md_send_57 : decode b_Md_send 57 = .ok (.iconst 1, 1) := by decide +kernel
theorem d_Md_send_58 : decode b_Md_send 58 = .ok (.invokevirtual 118, 3) := by decide +kernel
theorem d_Md_send_61 : decode b_Md_send 61 = .ok (.iconst 2, 1) := by decide +kernel
theorem d_Md_send_62 : decode b_Md_send 62 = .ok (.ireturn, 1) := by decide +kernel
theorem d_Md_receive_0 : decode b_Md_receive 0 = .ok (.aload_n 0, 1) := by decide +kernel
theorem d_Md_receive_1 : decode b_Md_receive 1 = .ok (.iload_n 1, 1) := by decide +kernel
theorem d_Md_receive_2 : decode b_Md_receive 2 = .ok (.invokevirtual 105, 3) := by decide +kernel
theorem d_Md_receive_5 : decode b_Md_receive 5 = .ok (.ifCond .eq 11, 3) := by decide +kernel
theorem d_Md_receive_8 : decode b_Md_receive 8 = .ok (.aload_n 0, 1) := by decide +kernel
theorem d_Md_receive_9 : decode b_Md_receive 9 = .ok (.iload_n 2, 1) := by decide +kernel
theorem d_Md_receive_10 : decode b_Md_receive 10 = .ok (.invokevirtual 108, 3) := by decide +kernel
theorem d_Md_receive_13 : decode b_Md_receive 13 = .ok (.ifCond .ne 5, 3) := by decide +kernel
theorem d_Md_receive_16 : decode b_Md_receive 16 = .ok (.iconst (-1), 1) := by decide +kernel
theorem d_Md_receive_17 : decode b_Md_receive 17 = .ok (.ireturn, 1) := by decide +kernel
theorem d_Md_receive_18 : decode b_Md_receive 18 = .ok (.aload_n 0, 1) := by decide +kernel
theorem d_Md_receive_19 : decode b_Md_receive 19 = .ok (.iload_n 1, 1) := by decide +kernel
theorem d_Md_receive_20 : decode b_Md_receive 20 = .ok (.iconst 0, 1) := by decide +kernel
theorem d_Md_receive_21 : decode b_Md_receive 21 = .ok (.invokevirtual 80, 3) := by decide +kernel
theorem d_Md_receive_24 : decode b_Md_receive 24 = .ok (.aload_n 0, 1) := by decide +kernel
theorem d_Md_receive_25 : decode b_Md_receive 25 = .ok (.iload_n 2, 1) := by decide +kernel
theorem d_Md_receive_26 : decode b_Md_receive 26 = .ok (.iconst 1, 1) := by decide +kernel
theorem d_Md_receive_27 : decode b_Md_receive 27 = .ok (.invokevirtual 111, 3) := by decide +kernel
theorem d_Md_receive_30 : decode b_Md_receive 30 = .ok (.ifCond .eq 11, 3) := by decide +kernel
theorem d_Md_receive_33 : decode b_Md_receive 33 = .ok (.aload_n 0, 1) := by decide +kernel
theorem d_Md_receive_34 : decode b_Md_receive 34 = .ok (.iload_n 1, 1) := by decide +kernel
theorem d_Md_receive_35 : decode b_Md_receive 35 = .ok (.iload_n 2, 1) := by decide +kernel
theorem d_Md_receive_36 : decode b_Md_receive 36 = .ok (.invokevirtual 121, 3) := by decide +kernel
theorem d_Md_receive_39 : decode b_Md_receive 39 = .ok (.iconst 1, 1) := by decide +kernel
theorem d_Md_receive_40 : decode b_Md_receive 40 = .ok (.ireturn, 1) := by decide +kernel
theorem d_Md_receive_41 : decode b_Md_receive 41 = .ok (.aload_n 0, 1) := by decide +kernel
theorem d_Md_receive_42 : decode b_Md_receive 42 = .ok (.getfield 30, 3) := by decide +kernel
theorem d_Md_receive_45 : decode b_Md_receive 45 = .ok (.iload_n 1, 1) := by decide +kernel
theorem d_Md_receive_46 : decode b_Md_receive 46 = .ok (.iload_n 2, 1) := by decide +kernel
theorem d_Md_receive_47 : decode b_Md_receive 47 = .ok (.iastore, 1) := by decide +kernel
theorem d_Md_receive_48 : decode b_Md_receive 48 = .ok (.aload_n 0, 1) := by decide +kernel
theorem d_Md_receive_49 : decode b_Md_receive 49 = .ok (.iload_n 1, 1) := by decide +kernel
theorem d_Md_receive_50 : decode b_Md_receive 50 = .ok (.iconst 2, 1) := by decide +kernel
theorem d_Md_receive_51 : decode b_Md_receive 51 = .ok (.invokevirtual 118, 3) := by decide +kernel
theorem d_Md_receive_54 : decode b_Md_receive 54 = .ok (.iconst 2, 1) := by decide +kernel
theorem d_Md_receive_55 : decode b_Md_receive 55 = .ok (.ireturn, 1) := by decide +kernel
theorem d_Md_add_0 : decode b_Md_add 0 = .ok (.aload_n 0, 1) := by decide +kernel
theorem d_Md_add_1 : decode b_Md_add 1 = .ok (.iload_n 1, 1) := by decide +kernel
theorem d_Md_add_2 : decode b_Md_add 2 = .ok (.invokevirtual 105, 3) := by decide +kernel
theorem d_Md_add_5 : decode b_Md_add 5 = .ok (.ifCond .eq 31, 3) := by decide +kernel
theorem d_Md_add_8 : decode b_Md_add 8 = .ok (.aload_n 0, 1) := by decide +kernel
theorem d_Md_add_9 : decode b_Md_add 9 = .ok (.iload_n 2, 1) := by decide +kernel
theorem d_Md_add_10 : decode b_Md_add 10 = .ok (.invokevirtual 108, 3) := by decide +kernel
theorem d_Md_add_13 : decode b_Md_add 13 = .ok (.ifCond .eq 23, 3) := by decide +kernel
theorem d_Md_add_16 : decode b_Md_add 16 = .ok (.iload_n 3, 1) := by decide +kernel
theorem d_Md_add_17 : decode b_Md_add 17 = .ok (.ifCond .lt 19, 3) := by decide +kernel
theorem d_Md_add_20 : decode b_Md_add 20 = .ok (.iload_n 3, 1) := by decide +kernel
theorem d_Md_add_21 : decode b_Md_add 21 = .ok (.iconst 1, 1) := by decide +kernel
theorem d_Md_add_22 : decode b_Md_add 22 = .ok (.if_icmp .gt 14, 3) := by decide +kernel
theorem d_Md_add_25 : decode b_Md_add 25 = .ok (.aload_n 0, 1) := by decide +kernel
theorem d_Md_add_26 : decode b_Md_add 26 = .ok (.getfield 45, 3) := by decide +kernel
theorem d_Md_add_29 : decode b_Md_add 29 = .ok (.iload_n 1, 1) := by decide +kernel
theorem d_Md_add_30 : decode b_Md_add 30 = .ok (.iaload, 1) := by decide +kernel
theorem d_Md_add_31 : decode b_Md_add 31 = .ok (.bipush 6, 2) := by decide +kernel
theorem d_Md_add_33 : decode b_Md_add 33 = .ok (.if_icmp .ne 5, 3) := by decide +kernel
theorem d_Md_add_36 : decode b_Md_add 36 = .ok (.iconst (-1), 1) := by decide +kernel
theorem d_Md_add_37 : decode b_Md_add 37 = .ok (.ireturn, 1) := by decide +kernel
theorem d_Md_add_38 : decode b_Md_add 38 = .ok (.bipush 6, 2) := by decide +kernel
theorem d_Md_add_40 : decode b_Md_add 40 = .ok (.iload_n 1, 1) := by decide +kernel
theorem d_Md_add_41 : decode b_Md_add 41 = .ok (.imul, 1) := by decide +kernel
theorem d_Md_add_42 : decode b_Md_add 42 = .ok (.aload_n 0, 1) := by decide +kernel
theorem d_Md_add_43 : decode b_Md_add 43 = .ok (.getfield 45, 3) := by decide +kernel
theorem d_Md_add_46 : decode b_Md_add 46 = .ok (.iload_n 1, 1) := by decide +kernel
theorem d_Md_add_47 : decode b_Md_add 47 = .ok (.iaload, 1) := by decide +kernel
theorem d_Md_add_48 : decode b_Md_add 48 = .ok (.iadd, 1) := by decide +kernel
theorem d_Md_add_49 : decode b_Md_add 49 = .ok (.istore 5, 2) := by decide +kernel
theorem d_Md_add_51 : decode b_Md_add 51 = .ok (.aload_n 0, 1) := by decide +kernel
theorem d_Md_add_52 : decode b_Md_add 52 = .ok (.getfield 48, 3) := by decide +kernel
theorem d_Md_add_55 : decode b_Md_add 55 = .ok (.iload 5, 2) := by decide +kernel
theorem d_Md_add_57 : decode b_Md_add 57 = .ok (.iload_n 2, 1) := by decide +kernel
theorem d_Md_add_58 : decode b_Md_add 58 = .ok (.iastore, 1) := by decide +kernel
theorem d_Md_add_59 : decode b_Md_add 59 = .ok (.aload_n 0, 1) := by decide +kernel
theorem d_Md_add_60 : decode b_Md_add 60 = .ok (.getfield 51, 3) := by decide +kernel
theorem d_Md_add_63 : decode b_Md_add 63 = .ok (.iload 5, 2) := by decide +kernel
theorem d_Md_add_65 : decode b_Md_add 65 = .ok (.iload_n 3, 1) := by decide +kernel
theorem d_Md_add_66 : decode b_Md_add 66 = .ok (.iastore, 1) := by decide +kernel
theorem d_Md_add_67 : decode b_Md_add 67 = .ok (.aload_n 0, 1) := by decide +kernel
theorem d_Md_add_68 : decode b_Md_add 68 = .ok (.getfield 54, 3) := by decide +kernel
theorem d_Md_add_71 : decode b_Md_add 71 = .ok (.iload 5, 2) := by decide +kernel
theorem d_Md_add_73 : decode b_Md_add 73 = .ok (.iload 4, 2) := by decide +kernel
theorem d_Md_add_75 : decode b_Md_add 75 = .ok (.iastore, 1) := by decide +kernel
theorem d_Md_add_76 : decode b_Md_add 76 = .ok (.aload_n 0, 1) := by decide +kernel
theorem d_Md_add_77 : decode b_Md_add 77 = .ok (.getfield 45, 3) := by decide +kernel
theorem d_Md_add_80 : decode b_Md_add 80 = .ok (.iload_n 1, 1) := by decide +kernel
theorem d_Md_add_81 : decode b_Md_add 81 = .ok (.aload_n 0, 1) := by decide +kernel
theorem d_Md_add_82 : decode b_Md_add 82 = .ok (.getfield 45, 3) := by decide +kernel
theorem d_Md_add_85 : decode b_Md_add 85 = .ok (.iload_n 1, 1) := by decide +kernel
theorem d_Md_add_86 : decode b_Md_add 86 = .ok (.iaload, 1) := by decide +kernel
theorem d_Md_add_87 : decode b_Md_add 87 = .ok (.iconst 1, 1) := by decide +kernel
theorem d_Md_add_88 : decode b_Md_add 88 = .ok (.iadd, 1) := by decide +kernel
theorem d_Md_add_89 : decode b_Md_add 89 = .ok (.iastore, 1) := by decide +kernel
theorem d_Md_add_90 : decode b_Md_add 90 = .ok (.aload_n 0, 1) := by decide +kernel
theorem d_Md_add_91 : decode b_Md_add 91 = .ok (.getfield 45, 3) := by decide +kernel
theorem d_Md_add_94 : decode b_Md_add 94 = .ok (.iload_n 1, 1) := by decide +kernel
theorem d_Md_add_95 : decode b_Md_add 95 = .ok (.iaload, 1) := by decide +kernel
theorem d_Md_add_96 : decode b_Md_add 96 = .ok (.ireturn, 1) := by decide +kernel
theorem d_Md_choose_0 : decode b_Md_choose 0 = .ok (.aload_n 0, 1) := by decide +kernel
theorem d_Md_choose_1 : decode b_Md_choose 1 = .ok (.iload_n 1, 1) := by decide +kernel
theorem d_Md_choose_2 : decode b_Md_choose 2 = .ok (.invokevirtual 105, 3) := by decide +kernel
theorem d_Md_choose_5 : decode b_Md_choose 5 = .ok (.ifCond .eq 7, 3) := by decide +kernel
theorem d_Md_choose_8 : decode b_Md_choose 8 = .ok (.iload_n 2, 1) := by decide +kernel
theorem d_Md_choose_9 : decode b_Md_choose 9 = .ok (.ifCond .ge 5, 3) := by decide +kernel
theorem d_Md_choose_12 : decode b_Md_choose 12 = .ok (.iconst (-1), 1) := by decide +kernel
theorem d_Md_choose_13 : decode b_Md_choose 13 = .ok (.ireturn, 1) := by decide +kernel
theorem d_Md_choose_14 : decode b_Md_choose 14 = .ok (.iload_n 1, 1) := by decide +kernel
theorem d_Md_choose_15 : decode b_Md_choose 15 = .ok (.istore 4, 2) := by decide +kernel
theorem d_Md_choose_17 : decode b_Md_choose 17 = .ok (.aload_n 0, 1) := by decide +kernel
theorem d_Md_choose_18 : decode b_Md_choose 18 = .ok (.getfield 23, 3) := by decide +kernel
theorem d_Md_choose_21 : decode b_Md_choose 21 = .ok (.iload 4, 2) := by decide +kernel
theorem d_Md_choose_23 : decode b_Md_choose 23 = .ok (.iconst 0, 1) := by decide +kernel
theorem d_Md_choose_24 : decode b_Md_choose 24 = .ok (.iastore, 1) := by decide +kernel
theorem d_Md_choose_25 : decode b_Md_choose 25 = .ok (.iconst 0, 1) := by decide +kernel
theorem d_Md_choose_26 : decode b_Md_choose 26 = .ok (.istore 5, 2) := by decide +kernel
theorem d_Md_choose_28 : decode b_Md_choose 28 = .ok (.iconst 0, 1) := by decide +kernel
theorem d_Md_choose_29 : decode b_Md_choose 29 = .ok (.istore 6, 2) := by decide +kernel
theorem d_Md_choose_31 : decode b_Md_choose 31 = .ok (.iload 6, 2) := by decide +kernel
theorem d_Md_choose_33 : decode b_Md_choose 33 = .ok (.aload_n 0, 1) := by decide +kernel
theorem d_Md_choose_34 : decode b_Md_choose 34 = .ok (.getfield 45, 3) := by decide +kernel
theorem d_Md_choose_37 : decode b_Md_choose 37 = .ok (.iload 4, 2) := by decide +kernel
theorem d_Md_choose_39 : decode b_Md_choose 39 = .ok (.iaload, 1) := by decide +kernel
theorem d_Md_choose_40 : decode b_Md_choose 40 = .ok (.if_icmp .ge 53, 3) := by decide +kernel
theorem d_Md_choose_43 : decode b_Md_choose 43 = .ok (.aload_n 0, 1) := by decide +kernel
theorem d_Md_choose_44 : decode b_Md_choose 44 = .ok (.aload_n 0, 1) := by decide +kernel
theorem d_Md_choose_45 : decode b_Md_choose 45 = .ok (.getfield 48, 3) := by decide +kernel
theorem d_Md_choose_48 : decode b_Md_choose 48 = .ok (.bipush 6, 2) := by decide +kernel
theorem d_Md_choose_50 : decode b_Md_choose 50 = .ok (.iload 4, 2) := by decide +kernel
theorem d_Md_choose_52 : decode b_Md_choose 52 = .ok (.imul, 1) := by decide +kernel
theorem d_Md_choose_53 : decode b_Md_choose 53 = .ok (.iload 6, 2) := by decide +kernel
theorem d_Md_choose_55 : decode b_Md_choose 55 = .ok (.iadd, 1) := by decide +kernel
theorem d_Md_choose_56 : decode b_Md_choose 56 = .ok (.iaload, 1) := by decide +kernel
theorem d_Md_choose_57 : decode b_Md_choose 57 = .ok (.aload_n 0, 1) := by decide +kernel
theorem d_Md_choose_58 : decode b_Md_choose 58 = .ok (.getfield 51, 3) := by decide +kernel
theorem d_Md_choose_61 : decode b_Md_choose 61 = .ok (.bipush 6, 2) := by decide +kernel
theorem d_Md_choose_63 : decode b_Md_choose 63 = .ok (.iload 4, 2) := by decide +kernel
theorem d_Md_choose_65 : decode b_Md_choose 65 = .ok (.imul, 1) := by decide +kernel
theorem d_Md_choose_66 : decode b_Md_choose 66 = .ok (.iload 6, 2) := by decide +kernel
theorem d_Md_choose_68 : decode b_Md_choose 68 = .ok (.iadd, 1) := by decide +kernel
theorem d_Md_choose_69 : decode b_Md_choose 69 = .ok (.iaload, 1) := by decide +kernel
theorem d_Md_choose_70 : decode b_Md_choose 70 = .ok (.invokevirtual 111, 3) := by decide +kernel
theorem d_Md_choose_73 : decode b_Md_choose 73 = .ok (.ifCond .eq 10, 3) := by decide +kernel
theorem d_Md_choose_76 : decode b_Md_choose 76 = .ok (.iload 5, 2) := by decide +kernel
theorem d_Md_choose_78 : decode b_Md_choose 78 = .ok (.iconst 1, 1) := by decide +kernel
theorem d_Md_choose_79 : decode b_Md_choose 79 = .ok (.iadd, 1) := by decide +kernel
theorem d_Md_choose_80 : decode b_Md_choose 80 = .ok (.goto 5, 3) := by decide +kernel
theorem d_Md_choose_83 : decode b_Md_choose 83 = .ok (.iload 5, 2) := by decide +kernel
theorem d_Md_choose_85 : decode b_Md_choose 85 = .ok (.istore 5, 2) := by decide +kernel
theorem d_Md_choose_87 : decode b_Md_choose 87 = .ok (.iinc 6 1, 3) := by decide +kernel
theorem d_Md_choose_90 : decode b_Md_choose 90 = .ok (.goto (-59), 3) := by decide +kernel
theorem d_Md_choose_93 : decode b_Md_choose 93 = .ok (.iload 5, 2) := by decide +kernel
theorem d_Md_choose_95 : decode b_Md_choose 95 = .ok (.ifCond .ne 53, 3) := by decide +kernel
theorem d_Md_choose_98 : decode b_Md_choose 98 = .ok (.aload_n 0, 1) := by decide +kernel
theorem d_Md_choose_99 : decode b_Md_choose 99 = .ok (.getfield 42, 3) := by decide +kernel
theorem d_Md_choose_102 : decode b_Md_choose 102 = .ok (.iload 4, 2) := by decide +kernel
theorem d_Md_choose_104 : decode b_Md_choose 104 = .ok (.iload_n 3, 1) := by decide +kernel
theorem d_Md_choose_105 : decode b_Md_choose 105 = .ok (.ifCond .eq 8, 3) := by decide +kernel
theorem d_Md_choose_108 : decode b_Md_choose 108 = .ok (.bipush 10, 2) := by decide +kernel
theorem d_Md_choose_110 : decode b_Md_choose 110 = .ok (.goto 4, 3) := by decide +kernel
theorem d_Md_choose_113 : decode b_Md_choose 113 = .ok (.iconst (-1), 1) := by decide +kernel
theorem d_Md_choose_114 : decode b_Md_choose 114 = .ok (.iastore, 1) := by decide +kernel
theorem d_Md_choose_115 : decode b_Md_choose 115 = .ok (.iload_n 3, 1) := by decide +kernel
theorem d_Md_choose_116 : decode b_Md_choose 116 = .ok (.ifCond .eq 13, 3) := by decide +kernel
theorem d_Md_choose_119 : decode b_Md_choose 119 = .ok (.aload_n 0, 1) := by decide +kernel
theorem d_Md_choose_120 : decode b_Md_choose 120 = .ok (.iload 4, 2) := by decide +kernel
theorem d_Md_choose_122 : decode b_Md_choose 122 = .ok (.iconst 0, 1) := by decide +kernel
theorem d_Md_choose_123 : decode b_Md_choose 123 = .ok (.invokevirtual 80, 3) := by decide +kernel
theorem d_Md_choose_126 : decode b_Md_choose 126 = .ok (.goto 10, 3) := by decide +kernel
theorem d_Md_choose_129 : decode b_Md_choose 129 = .ok (.aload_n 0, 1) := by decide +kernel
theorem d_Md_choose_130 : decode b_Md_choose 130 = .ok (.iload 4, 2) := by decide +kernel
theorem d_Md_choose_132 : decode b_Md_choose 132 = .ok (.iconst 3, 1) := by decide +kernel
theorem d_Md_choose_133 : decode b_Md_choose 133 = .ok (.invokevirtual 118, 3) := by decide +kernel
theorem d_Md_choose_136 : decode b_Md_choose 136 = .ok (.iload_n 3, 1) := by decide +kernel
theorem d_Md_choose_137 : decode b_Md_choose 137 = .ok (.ifCond .eq 8, 3) := by decide +kernel
theorem d_Md_choose_140 : decode b_Md_choose 140 = .ok (.bipush 10, 2) := by decide +kernel
theorem d_Md_choose_142 : decode b_Md_choose 142 = .ok (.goto 5, 3) := by decide +kernel
theorem d_Md_choose_145 : decode b_Md_choose 145 = .ok (.bipush 11, 2) := by decide +kernel
theorem d_Md_choose_147 : decode b_Md_choose 147 = .ok (.ireturn, 1) := by decide +kernel
theorem d_Md_choose_148 : decode b_Md_choose 148 = .ok (.iload_n 2, 1) := by decide +kernel
theorem d_Md_choose_149 : decode b_Md_choose 149 = .ok (.iload 5, 2) := by decide +kernel
theorem d_Md_choose_151 : decode b_Md_choose 151 = .ok (.irem, 1) := by decide +kernel
theorem d_Md_choose_152 : decode b_Md_choose 152 = .ok (.istore 6, 2) := by decide +kernel
theorem d_Md_choose_154 : decode b_Md_choose 154 = .ok (.iconst 0, 1) := by decide +kernel
theorem d_Md_choose_155 : decode b_Md_choose 155 = .ok (.istore 7, 2) := by decide +kernel
theorem d_Md_choose_157 : decode b_Md_choose 157 = .ok (.aload_n 0, 1) := by decide +kernel
theorem d_Md_choose_158 : decode b_Md_choose 158 = .ok (.aload_n 0, 1) := by decide +kernel
theorem d_Md_choose_159 : decode b_Md_choose 159 = .ok (.getfield 48, 3) := by decide +kernel
theorem d_Md_choose_162 : decode b_Md_choose 162 = .ok (.bipush 6, 2) := by decide +kernel
theorem d_Md_choose_164 : decode b_Md_choose 164 = .ok (.iload 4, 2) := by decide +kernel
theorem d_Md_choose_166 : decode b_Md_choose 166 = .ok (.imul, 1) := by decide +kernel
theorem d_Md_choose_167 : decode b_Md_choose 167 = .ok (.iload 7, 2) := by decide +kernel
theorem d_Md_choose_169 : decode b_Md_choose 169 = .ok (.iadd, 1) := by decide +kernel
theorem d_Md_choose_170 : decode b_Md_choose 170 = .ok (.iaload, 1) := by decide +kernel
theorem d_Md_choose_171 : decode b_Md_choose 171 = .ok (.aload_n 0, 1) := by decide +kernel
theorem d_Md_choose_172 : decode b_Md_choose 172 = .ok (.getfield 51, 3) := by decide +kernel
theorem d_Md_choose_175 : decode b_Md_choose 175 = .ok (.bipush 6, 2) := by decide +kernel
theorem d_Md_choose_177 : decode b_Md_choose 177 = .ok (.iload 4, 2) := by decide +kernel
theorem d_Md_choose_179 : decode b_Md_choose 179 = .ok (.imul, 1) := by decide +kernel
theorem d_Md_choose_180 : decode b_Md_choose 180 = .ok (.iload 7, 2) := by decide +kernel
theorem d_Md_choose_182 : decode b_Md_choose 182 = .ok (.iadd, 1) := by decide +kernel
theorem d_Md_choose_183 : decode b_Md_choose 183 = .ok (.iaload, 1) := by decide +kernel
theorem d_Md_choose_184 : decode b_Md_choose 184 = .ok (.invokevirtual 111, 3) := by decide +kernel
theorem d_Md_choose_187 : decode b_Md_choose 187 = .ok (.ifCond .eq 8, 3) := by decide +kernel
theorem d_Md_choose_190 : decode b_Md_choose 190 = .ok (.iload 6, 2) := by decide +kernel
theorem d_Md_choose_192 : decode b_Md_choose 192 = .ok (.ifCond .le 56, 3) := by decide +kernel
theorem d_Md_choose_195 : decode b_Md_choose 195 = .ok (.aload_n 0, 1) := by decide +kernel
theorem d_Md_choose_196 : decode b_Md_choose 196 = .ok (.aload_n 0, 1) := by decide +kernel
theorem d_Md_choose_197 : decode b_Md_choose 197 = .ok (.getfield 48, 3) := by decide +kernel
theorem d_Md_choose_200 : decode b_Md_choose 200 = .ok (.bipush 6, 2) := by decide +kernel
theorem d_Md_choose_202 : decode b_Md_choose 202 = .ok (.iload 4, 2) := by decide +kernel
theorem d_Md_choose_204 : decode b_Md_choose 204 = .ok (.imul, 1) := by decide +kernel
theorem d_Md_choose_205 : decode b_Md_choose 205 = .ok (.iload 7, 2) := by decide +kernel
theorem d_Md_choose_207 : decode b_Md_choose 207 = .ok (.iadd, 1) := by decide +kernel
theorem d_Md_choose_208 : decode b_Md_choose 208 = .ok (.iaload, 1) := by decide +kernel
theorem d_Md_choose_209 : decode b_Md_choose 209 = .ok (.aload_n 0, 1) := by decide +kernel
theorem d_Md_choose_210 : decode b_Md_choose 210 = .ok (.getfield 51, 3) := by decide +kernel
theorem d_Md_choose_213 : decode b_Md_choose 213 = .ok (.bipush 6, 2) := by decide +kernel
theorem d_Md_choose_215 : decode b_Md_choose 215 = .ok (.iload 4, 2) := by decide +kernel
theorem d_Md_choose_217 : decode b_Md_choose 217 = .ok (.imul, 1) := by decide +kernel
theorem d_Md_choose_218 : decode b_Md_choose 218 = .ok (.iload 7, 2) := by decide +kernel
theorem d_Md_choose_220 : decode b_Md_choose 220 = .ok (.iadd, 1) := by decide +kernel
theorem d_Md_choose_221 : decode b_Md_choose 221 = .ok (.iaload, 1) := by decide +kernel
theorem d_Md_choose_222 : decode b_Md_choose 222 = .ok (.invokevirtual 111, 3) := by decide +kernel
theorem d_Md_choose_225 : decode b_Md_choose 225 = .ok (.ifCond .eq 10, 3) := by decide +kernel
theorem d_Md_choose_228 : decode b_Md_choose 228 = .ok (.iload 6, 2) := by decide +kernel
theorem d_Md_choose_230 : decode b_Md_choose 230 = .ok (.iconst 1, 1) := by decide +kernel
theorem d_Md_choose_231 : decode b_Md_choose 231 = .ok (.isub, 1) := by decide +kernel
theorem d_Md_choose_232 : decode b_Md_choose 232 = .ok (.goto 5, 3) := by decide +kernel
theorem d_Md_choose_235 : decode b_Md_choose 235 = .ok (.iload 6, 2) := by decide +kernel
theorem d_Md_choose_237 : decode b_Md_choose 237 = .ok (.istore 6, 2) := by decide +kernel
theorem d_Md_choose_239 : decode b_Md_choose 239 = .ok (.iload 7, 2) := by decide +kernel
theorem d_Md_choose_241 : decode b_Md_choose 241 = .ok (.iconst 1, 1) := by decide +kernel
theorem d_Md_choose_242 : decode b_Md_choose 242 = .ok (.iadd, 1) := by decide +kernel
theorem d_Md_choose_243 : decode b_Md_choose 243 = .ok (.istore 7, 2) := by decide +kernel
theorem d_Md_choose_245 : decode b_Md_choose 245 = .ok (.goto (-88), 3) := by decide +kernel
theorem d_Md_choose_248 : decode b_Md_choose 248 = .ok (.aload_n 0, 1) := by decide +kernel
theorem d_Md_choose_249 : decode b_Md_choose 249 = .ok (.getfield 48, 3) := by decide +kernel
theorem d_Md_choose_252 : decode b_Md_choose 252 = .ok (.bipush 6, 2) := by decide +kernel
theorem d_Md_choose_254 : decode b_Md_choose 254 = .ok (.iload 4, 2) := by decide +kernel
theorem d_Md_choose_256 : decode b_Md_choose 256 = .ok (.imul, 1) := by decide +kernel
theorem d_Md_choose_257 : decode b_Md_choose 257 = .ok (.iload 7, 2) := by decide +kernel
theorem d_Md_choose_259 : decode b_Md_choose 259 = .ok (.iadd, 1) := by decide +kernel
theorem d_Md_choose_260 : decode b_Md_choose 260 = .ok (.iaload, 1) := by decide +kernel
theorem d_Md_choose_261 : decode b_Md_choose 261 = .ok (.istore 8, 2) := by decide +kernel
theorem d_Md_choose_263 : decode b_Md_choose 263 = .ok (.aload_n 0, 1) := by decide +kernel
theorem d_Md_choose_264 : decode b_Md_choose 264 = .ok (.getfield 51, 3) := by decide +kernel
theorem d_Md_choose_267 : decode b_Md_choose 267 = .ok (.bipush 6, 2) := by decide +kernel
theorem d_Md_choose_269 : decode b_Md_choose 269 = .ok (.iload 4, 2) := by decide +kernel
theorem d_Md_choose_271 : decode b_Md_choose 271 = .ok (.imul, 1) := by decide +kernel
theorem d_Md_choose_272 : decode b_Md_choose 272 = .ok (.iload 7, 2) := by decide +kernel
theorem d_Md_choose_274 : decode b_Md_choose 274 = .ok (.iadd, 1) := by decide +kernel
theorem d_Md_choose_275 : decode b_Md_choose 275 = .ok (.iaload, 1) := by decide +kernel
theorem d_Md_choose_276 : decode b_Md_choose 276 = .ok (.istore 9, 2) := by decide +kernel
theorem d_Md_choose_278 : decode b_Md_choose 278 = .ok (.aload_n 0, 1) := by decide +kernel
theorem d_Md_choose_279 : decode b_Md_choose 279 = .ok (.getfield 54, 3) := by decide +kernel
theorem d_Md_choose_282 : decode b_Md_choose 282 = .ok (.bipush 6, 2) := by decide +kernel
theorem d_Md_choose_284 : decode b_Md_choose 284 = .ok (.iload 4, 2) := by decide +kernel
theorem d_Md_choose_286 : decode b_Md_choose 286 = .ok (.imul, 1) := by decide +kernel
theorem d_Md_choose_287 : decode b_Md_choose 287 = .ok (.iload 7, 2) := by decide +kernel
theorem d_Md_choose_289 : decode b_Md_choose 289 = .ok (.iadd, 1) := by decide +kernel
theorem d_Md_choose_290 : decode b_Md_choose 290 = .ok (.iaload, 1) := by decide +kernel
theorem d_Md_choose_291 : decode b_Md_choose 291 = .ok (.istore 10, 2) := by decide +kernel
theorem d_Md_choose_293 : decode b_Md_choose 293 = .ok (.aload_n 0, 1) := by decide +kernel
theorem d_Md_choose_294 : decode b_Md_choose 294 = .ok (.iload 4, 2) := by decide +kernel
theorem d_Md_choose_296 : decode b_Md_choose 296 = .ok (.iconst 0, 1) := by decide +kernel
theorem d_Md_choose_297 : decode b_Md_choose 297 = .ok (.invokevirtual 80, 3) := by decide +kernel
theorem d_Md_choose_300 : decode b_Md_choose 300 = .ok (.aload_n 0, 1) := by decide +kernel
theorem d_Md_choose_301 : decode b_Md_choose 301 = .ok (.getfield 42, 3) := by decide +kernel
theorem d_Md_choose_304 : decode b_Md_choose 304 = .ok (.iload 4, 2) := by decide +kernel
theorem d_Md_choose_306 : decode b_Md_choose 306 = .ok (.iload 7, 2) := by decide +kernel
theorem d_Md_choose_308 : decode b_Md_choose 308 = .ok (.iastore, 1) := by decide +kernel
theorem d_Md_choose_309 : decode b_Md_choose 309 = .ok (.iload 9, 2) := by decide +kernel
theorem d_Md_choose_311 : decode b_Md_choose 311 = .ok (.iconst 1, 1) := by decide +kernel
theorem d_Md_choose_312 : decode b_Md_choose 312 = .ok (.if_icmp .ne 14, 3) := by decide +kernel
theorem d_Md_choose_315 : decode b_Md_choose 315 = .ok (.aload_n 0, 1) := by decide +kernel
theorem d_Md_choose_316 : decode b_Md_choose 316 = .ok (.iload 4, 2) := by decide +kernel
theorem d_Md_choose_318 : decode b_Md_choose 318 = .ok (.iload 8, 2) := by decide +kernel
theorem d_Md_choose_320 : decode b_Md_choose 320 = .ok (.invokevirtual 121, 3) := by decide +kernel
theorem d_Md_choose_323 : decode b_Md_choose 323 = .ok (.iload 7, 2) := by decide +kernel
theorem d_Md_choose_325 : decode b_Md_choose 325 = .ok (.ireturn, 1) := by decide +kernel
theorem d_Md_choose_326 : decode b_Md_choose 326 = .ok (.aload_n 0, 1) := by decide +kernel
theorem d_Md_choose_327 : decode b_Md_choose 327 = .ok (.iload 4, 2) := by decide +kernel
theorem d_Md_choose_329 : decode b_Md_choose 329 = .ok (.iload 8, 2) := by decide +kernel
theorem d_Md_choose_331 : decode b_Md_choose 331 = .ok (.iload 10, 2) := by decide +kernel
theorem d_Md_choose_333 : decode b_Md_choose 333 = .ok (.invokevirtual 115, 3) := by decide +kernel
theorem d_Md_choose_336 : decode b_Md_choose 336 = .ok (.iconst 3, 1) := by decide +kernel
theorem d_Md_choose_337 : decode b_Md_choose 337 = .ok (.if_icmp .ne 8, 3) := by decide +kernel
theorem d_Md_choose_340 : decode b_Md_choose 340 = .ok (.bipush 12, 2) := by decide +kernel
theorem d_Md_choose_342 : decode b_Md_choose 342 = .ok (.goto 5, 3) := by decide +kernel
theorem d_Md_choose_345 : decode b_Md_choose 345 = .ok (.iload 7, 2) := by decide +kernel
theorem d_Md_choose_347 : decode b_Md_choose 347 = .ok (.ireturn, 1) := by decide +kernel
theorem d_Md_close_0 : decode b_Md_close 0 = .ok (.aload_n 0, 1) := by decide +kernel
theorem d_Md_close_1 : decode b_Md_close 1 = .ok (.iload_n 1, 1) := by decide +kernel
theorem d_Md_close_2 : decode b_Md_close 2 = .ok (.invokevirtual 108, 3) := by decide +kernel
theorem d_Md_close_5 : decode b_Md_close 5 = .ok (.ifCond .ne 5, 3) := by decide +kernel
theorem d_Md_close_8 : decode b_Md_close 8 = .ok (.iconst (-1), 1) := by decide +kernel
theorem d_Md_close_9 : decode b_Md_close 9 = .ok (.ireturn, 1) := by decide +kernel
theorem d_Md_close_10 : decode b_Md_close 10 = .ok (.aload_n 0, 1) := by decide +kernel
theorem d_Md_close_11 : decode b_Md_close 11 = .ok (.getfield 13, 3) := by decide +kernel
theorem d_Md_close_14 : decode b_Md_close 14 = .ok (.iload_n 1, 1) := by decide +kernel
theorem d_Md_close_15 : decode b_Md_close 15 = .ok (.baload, 1) := by decide +kernel
theorem d_Md_close_16 : decode b_Md_close 16 = .ok (.ifCond .eq 6, 3) := by decide +kernel
theorem d_Md_close_19 : decode b_Md_close 19 = .ok (.bipush (-2), 2) := by decide +kernel
theorem d_Md_close_21 : decode b_Md_close 21 = .ok (.ireturn, 1) := by decide +kernel
theorem d_Md_close_22 : decode b_Md_close 22 = .ok (.aload_n 0, 1) := by decide +kernel
theorem d_Md_close_23 : decode b_Md_close 23 = .ok (.getfield 13, 3) := by decide +kernel
theorem d_Md_close_26 : decode b_Md_close 26 = .ok (.iload_n 1, 1) := by decide +kernel
theorem d_Md_close_27 : decode b_Md_close 27 = .ok (.iconst 1, 1) := by decide +kernel
theorem d_Md_close_28 : decode b_Md_close 28 = .ok (.bastore, 1) := by decide +kernel
theorem d_Md_close_29 : decode b_Md_close 29 = .ok (.iconst 0, 1) := by decide +kernel
theorem d_Md_close_30 : decode b_Md_close 30 = .ok (.istore_n 2, 1) := by decide +kernel
theorem d_Md_close_31 : decode b_Md_close 31 = .ok (.aload_n 0, 1) := by decide +kernel
theorem d_Md_close_32 : decode b_Md_close 32 = .ok (.iload_n 1, 1) := by decide +kernel
theorem d_Md_close_33 : decode b_Md_close 33 = .ok (.iconst (-1), 1) := by decide +kernel
theorem d_Md_close_34 : decode b_Md_close 34 = .ok (.iconst 0, 1) := by decide +kernel
theorem d_Md_close_35 : decode b_Md_close 35 = .ok (.invokevirtual 87, 3) := by decide +kernel
theorem d_Md_close_38 : decode b_Md_close 38 = .ok (.istore_n 3, 1) := by decide +kernel
theorem d_Md_close_39 : decode b_Md_close 39 = .ok (.iload_n 3, 1) := by decide +kernel
theorem d_Md_close_40 : decode b_Md_close 40 = .ok (.ifCond .lt 133, 3) := by decide +kernel
theorem d_Md_close_43 : decode b_Md_close 43 = .ok (.iload_n 2, 1) := by decide +kernel
theorem d_Md_close_44 : decode b_Md_close 44 = .ok (.iconst 1, 1) := by decide +kernel
theorem d_Md_close_45 : decode b_Md_close 45 = .ok (.iadd, 1) := by decide +kernel
theorem d_Md_close_46 : decode b_Md_close 46 = .ok (.istore_n 2, 1) := by decide +kernel
theorem d_Md_close_47 : decode b_Md_close 47 = .ok (.aload_n 0, 1) := by decide +kernel
theorem d_Md_close_48 : decode b_Md_close 48 = .ok (.getfield 23, 3) := by decide +kernel
theorem d_Md_close_51 : decode b_Md_close 51 = .ok (.iload_n 3, 1) := by decide +kernel
theorem d_Md_close_52 : decode b_Md_close 52 = .ok (.iaload, 1) := by decide +kernel
theorem d_Md_close_53 : decode b_Md_close 53 = .ok (.iconst 3, 1) := by decide +kernel
theorem d_Md_close_54 : decode b_Md_close 54 = .ok (.if_icmp .ne 13, 3) := by decide +kernel
theorem d_Md_close_57 : decode b_Md_close 57 = .ok (.aload_n 0, 1) := by decide +kernel
theorem d_Md_close_58 : decode b_Md_close 58 = .ok (.iload_n 3, 1) := by decide +kernel
theorem d_Md_close_59 : decode b_Md_close 59 = .ok (.iload_n 1, 1) := by decide +kernel
theorem d_Md_close_60 : decode b_Md_close 60 = .ok (.iconst (-1), 1) := by decide +kernel
theorem d_Md_close_61 : decode b_Md_close 61 = .ok (.invokevirtual 65, 3) := by decide +kernel
theorem d_Md_close_64 : decode b_Md_close 64 = .ok (.goto 4, 3) := by decide +kernel
theorem d_Md_close_67 : decode b_Md_close 67 = .ok (.iconst (-1), 1) := by decide +kernel
theorem d_Md_close_68 : decode b_Md_close 68 = .ok (.istore 4, 2) := by decide +kernel
theorem d_Md_close_70 : decode b_Md_close 70 = .ok (.iload 4, 2) := by decide +kernel
theorem d_Md_close_72 : decode b_Md_close 72 = .ok (.ifCond .lt 26, 3) := by decide +kernel
theorem d_Md_close_75 : decode b_Md_close 75 = .ok (.aload_n 0, 1) := by decide +kernel
theorem d_Md_close_76 : decode b_Md_close 76 = .ok (.getfield 51, 3) := by decide +kernel
theorem d_Md_close_79 : decode b_Md_close 79 = .ok (.bipush 6, 2) := by decide +kernel
theorem d_Md_close_81 : decode b_Md_close 81 = .ok (.iload_n 3, 1) := by decide +kernel
theorem d_Md_close_82 : decode b_Md_close 82 = .ok (.imul, 1) := by decide +kernel
theorem d_Md_close_83 : decode b_Md_close 83 = .ok (.iload 4, 2) := by decide +kernel
theorem d_Md_close_85 : decode b_Md_close 85 = .ok (.iadd, 1) := by decide +kernel
theorem d_Md_close_86 : decode b_Md_close 86 = .ok (.iaload, 1) := by decide +kernel
theorem d_Md_close_87 : decode b_Md_close 87 = .ok (.ifCond .ne 7, 3) := by decide +kernel
theorem d_Md_close_90 : decode b_Md_close 90 = .ok (.iconst 1, 1) := by decide +kernel
theorem d_Md_close_91 : decode b_Md_close 91 = .ok (.goto 22, 3) := by decide +kernel
theorem d_Md_close_94 : decode b_Md_close 94 = .ok (.iconst 0, 1) := by decide +kernel
theorem d_Md_close_95 : decode b_Md_close 95 = .ok (.goto 18, 3) := by decide +kernel
theorem d_Md_close_98 : decode b_Md_close 98 = .ok (.aload_n 0, 1) := by decide +kernel
theorem d_Md_close_99 : decode b_Md_close 99 = .ok (.getfield 23, 3) := by decide +kernel
theorem d_Md_close_102 : decode b_Md_close 102 = .ok (.iload_n 3, 1) := by decide +kernel
theorem d_Md_close_103 : decode b_Md_close 103 = .ok (.iaload, 1) := by decide +kernel
theorem d_Md_close_104 : decode b_Md_close 104 = .ok (.iconst 1, 1) := by decide +kernel
theorem d_Md_close_105 : decode b_Md_close 105 = .ok (.if_icmp .ne 7, 3) := by decide +kernel
theorem d_Md_close_108 : decode b_Md_close 108 = .ok (.iconst 1, 1) := by decide +kernel
theorem d_Md_close_109 : decode b_Md_close 109 = .ok (.goto 4, 3) := by decide +kernel
theorem d_Md_close_112 : decode b_Md_close 112 = .ok (.iconst 0, 1) := by decide +kernel
theorem d_Md_close_113 : decode b_Md_close 113 = .ok (.istore 5, 2) := by decide +kernel
theorem d_Md_close_115 : decode b_Md_close 115 = .ok (.iload 4, 2) := by decide +kernel
theorem d_Md_close_117 : decode b_Md_close 117 = .ok (.ifCond .lt 11, 3) := by decide +kernel
theorem d_Md_close_120 : decode b_Md_close 120 = .ok (.aload_n 0, 1) := by decide +kernel
theorem d_Md_close_121 : decode b_Md_close 121 = .ok (.getfield 42, 3) := by decide +kernel
theorem d_Md_close_124 : decode b_Md_close 124 = .ok (.iload_n 3, 1) := by decide +kernel
theorem d_Md_close_125 : decode b_Md_close 125 = .ok (.iload 4, 2) := by decide +kernel
theorem d_Md_close_127 : decode b_Md_close 127 = .ok (.iastore, 1) := by decide +kernel
theorem d_Md_close_128 : decode b_Md_close 128 = .ok (.iload 5, 2) := by decide +kernel
theorem d_Md_close_130 : decode b_Md_close 130 = .ok (.ifCond .ne 17, 3) := by decide +kernel
theorem d_Md_close_133 : decode b_Md_close 133 = .ok (.aload_n 0, 1) := by decide +kernel
theorem d_Md_close_134 : decode b_Md_close 134 = .ok (.getfield 36, 3) := by decide +kernel
theorem d_Md_close_137 : decode b_Md_close 137 = .ok (.iload_n 3, 1) := by decide +kernel
theorem d_Md_close_138 : decode b_Md_close 138 = .ok (.iconst 0, 1) := by decide +kernel
theorem d_Md_close_139 : decode b_Md_close 139 = .ok (.iastore, 1) := by decide +kernel
theorem d_Md_close_140 : decode b_Md_close 140 = .ok (.aload_n 0, 1) := by decide +kernel
theorem d_Md_close_141 : decode b_Md_close 141 = .ok (.getfield 39, 3) := by decide +kernel
theorem d_Md_close_144 : decode b_Md_close 144 = .ok (.iload_n 3, 1) := by decide +kernel
theorem d_Md_close_145 : decode b_Md_close 145 = .ok (.iconst 0, 1) := by decide +kernel
theorem d_Md_close_146 : decode b_Md_close 146 = .ok (.bastore, 1) := by decide +kernel
theorem d_Md_close_147 : decode b_Md_close 147 = .ok (.aload_n 0, 1) := by decide +kernel
theorem d_Md_close_148 : decode b_Md_close 148 = .ok (.iload_n 3, 1) := by decide +kernel
theorem d_Md_close_149 : decode b_Md_close 149 = .ok (.iload 5, 2) := by decide +kernel
theorem d_Md_close_151 : decode b_Md_close 151 = .ok (.ifCond .eq 7, 3) := by decide +kernel
theorem d_Md_close_154 : decode b_Md_close 154 = .ok (.iconst 4, 1) := by decide +kernel
theorem d_Md_close_155 : decode b_Md_close 155 = .ok (.goto 4, 3) := by decide +kernel
theorem d_Md_close_158 : decode b_Md_close 158 = .ok (.iconst 0, 1) := by decide +kernel
theorem d_Md_close_159 : decode b_Md_close 159 = .ok (.invokevirtual 80, 3) := by decide +kernel
theorem d_Md_close_162 : decode b_Md_close 162 = .ok (.aload_n 0, 1) := by decide +kernel
theorem d_Md_close_163 : decode b_Md_close 163 = .ok (.iload_n 1, 1) := by decide +kernel
theorem d_Md_close_164 : decode b_Md_close 164 = .ok (.iconst (-1), 1) := by decide +kernel
theorem d_Md_close_165 : decode b_Md_close 165 = .ok (.iconst 0, 1) := by decide +kernel
theorem d_Md_close_166 : decode b_Md_close 166 = .ok (.invokevirtual 87, 3) := by decide +kernel
theorem d_Md_close_169 : decode b_Md_close 169 = .ok (.istore_n 3, 1) := by decide +kernel
theorem d_Md_close_170 : decode b_Md_close 170 = .ok (.goto (-131), 3) := by decide +kernel
theorem d_Md_close_173 : decode b_Md_close 173 = .ok (.iload_n 2, 1) := by decide +kernel
theorem d_Md_close_174 : decode b_Md_close 174 = .ok (.ireturn, 1) := by decide +kernel
theorem d_Md_state_0 : decode b_Md_state 0 = .ok (.iload_n 1, 1) := by decide +kernel
theorem d_Md_state_1 : decode b_Md_state 1 = .ok (.invokestatic 61, 3) := by decide +kernel
theorem d_Md_state_4 : decode b_Md_state 4 = .ok (.ifCond .eq 12, 3) := by decide +kernel
theorem d_Md_state_7 : decode b_Md_state 7 = .ok (.aload_n 0, 1) := by decide +kernel
theorem d_Md_state_8 : decode b_Md_state 8 = .ok (.getfield 23, 3) := by decide +kernel
theorem d_Md_state_11 : decode b_Md_state 11 = .ok (.iload_n 1, 1) := by decide +kernel
theorem d_Md_state_12 : decode b_Md_state 12 = .ok (.iaload, 1) := by decide +kernel
theorem d_Md_state_13 : decode b_Md_state 13 = .ok (.goto 4, 3) := by decide +kernel
theorem d_Md_state_16 : decode b_Md_state 16 = .ok (.iconst (-1), 1) := by decide +kernel
theorem d_Md_state_17 : decode b_Md_state 17 = .ok (.ireturn, 1) := by decide +kernel
theorem d_Md_got_0 : decode b_Md_got 0 = .ok (.iload_n 1, 1) := by decide +kernel
theorem d_Md_got_1 : decode b_Md_got 1 = .ok (.invokestatic 61, 3) := by decide +kernel
theorem d_Md_got_4 : decode b_Md_got 4 = .ok (.ifCond .eq 12, 3) := by decide +kernel
theorem d_Md_got_7 : decode b_Md_got 7 = .ok (.aload_n 0, 1) := by decide +kernel
theorem d_Md_got_8 : decode b_Md_got 8 = .ok (.getfield 36, 3) := by decide +kernel
theorem d_Md_got_11 : decode b_Md_got 11 = .ok (.iload_n 1, 1) := by decide +kernel
theorem d_Md_got_12 : decode b_Md_got 12 = .ok (.iaload, 1) := by decide +kernel
theorem d_Md_got_13 : decode b_Md_got 13 = .ok (.goto 4, 3) := by decide +kernel
theorem d_Md_got_16 : decode b_Md_got 16 = .ok (.iconst 0, 1) := by decide +kernel
theorem d_Md_got_17 : decode b_Md_got 17 = .ok (.ireturn, 1) := by decide +kernel
theorem d_Md_last_0 : decode b_Md_last 0 = .ok (.iload_n 1, 1) := by decide +kernel
theorem d_Md_last_1 : decode b_Md_last 1 = .ok (.invokestatic 61, 3) := by decide +kernel
theorem d_Md_last_4 : decode b_Md_last 4 = .ok (.ifCond .eq 31, 3) := by decide +kernel
theorem d_Md_last_7 : decode b_Md_last 7 = .ok (.aload_n 0, 1) := by decide +kernel
theorem d_Md_last_8 : decode b_Md_last 8 = .ok (.getfield 39, 3) := by decide +kernel
theorem d_Md_last_11 : decode b_Md_last 11 = .ok (.iload_n 1, 1) := by decide +kernel
theorem d_Md_last_12 : decode b_Md_last 12 = .ok (.baload, 1) := by decide +kernel
theorem d_Md_last_13 : decode b_Md_last 13 = .ok (.ifCond .eq 7, 3) := by decide +kernel
theorem d_Md_last_16 : decode b_Md_last 16 = .ok (.iconst 1, 1) := by decide +kernel
theorem d_Md_last_17 : decode b_Md_last 17 = .ok (.goto 4, 3) := by decide +kernel
theorem d_Md_last_20 : decode b_Md_last 20 = .ok (.iconst 0, 1) := by decide +kernel
theorem d_Md_last_21 : decode b_Md_last 21 = .ok (.iconst 2, 1) := by decide +kernel
theorem d_Md_last_22 : decode b_Md_last 22 = .ok (.aload_n 0, 1) := by decide +kernel
theorem d_Md_last_23 : decode b_Md_last 23 = .ok (.getfield 42, 3) := by decide +kernel
theorem d_Md_last_26 : decode b_Md_last 26 = .ok (.iload_n 1, 1) := by decide +kernel
theorem d_Md_last_27 : decode b_Md_last 27 = .ok (.iaload, 1) := by decide +kernel
theorem d_Md_last_28 : decode b_Md_last 28 = .ok (.iconst 2, 1) := by decide +kernel
theorem d_Md_last_29 : decode b_Md_last 29 = .ok (.iadd, 1) := by decide +kernel
theorem d_Md_last_30 : decode b_Md_last 30 = .ok (.imul, 1) := by decide +kernel
theorem d_Md_last_31 : decode b_Md_last 31 = .ok (.iadd, 1) := by decide +kernel
theorem d_Md_last_32 : decode b_Md_last 32 = .ok (.goto 4, 3) := by decide +kernel
theorem d_Md_last_35 : decode b_Md_last 35 = .ok (.iconst (-1), 1) := by decide +kernel
theorem d_Md_last_36 : decode b_Md_last 36 = .ok (.ireturn, 1) := by decide +kernel
theorem d_Md_waiting_0 : decode b_Md_waiting 0 = .ok (.aload_n 0, 1) := by decide +kernel
theorem d_Md_waiting_1 : decode b_Md_waiting 1 = .ok (.iload_n 1, 1) := by decide +kernel
theorem d_Md_waiting_2 : decode b_Md_waiting 2 = .ok (.invokevirtual 108, 3) := by decide +kernel
theorem d_Md_waiting_5 : decode b_Md_waiting 5 = .ok (.ifCond .eq 26, 3) := by decide +kernel
theorem d_Md_waiting_8 : decode b_Md_waiting 8 = .ok (.iload_n 2, 1) := by decide +kernel
theorem d_Md_waiting_9 : decode b_Md_waiting 9 = .ok (.ifCond .lt 22, 3) := by decide +kernel
theorem d_Md_waiting_12 : decode b_Md_waiting 12 = .ok (.iload_n 2, 1) := by decide +kernel
theorem d_Md_waiting_13 : decode b_Md_waiting 13 = .ok (.iconst 2, 1) := by decide +kernel
theorem d_Md_waiting_14 : decode b_Md_waiting 14 = .ok (.if_icmp .ge 17, 3) := by decide +kernel
theorem d_Md_waiting_17 : decode b_Md_waiting 17 = .ok (.iload_n 3, 1) := by decide +kernel
theorem d_Md_waiting_18 : decode b_Md_waiting 18 = .ok (.ifCond .lt 13, 3) := by decide +kernel
theorem d_Md_waiting_21 : decode b_Md_waiting 21 = .ok (.aload_n 0, 1) := by decide +kernel
theorem d_Md_waiting_22 : decode b_Md_waiting 22 = .ok (.iload_n 1, 1) := by decide +kernel
theorem d_Md_waiting_23 : decode b_Md_waiting 23 = .ok (.iload_n 2, 1) := by decide +kernel
theorem d_Md_waiting_24 : decode b_Md_waiting 24 = .ok (.iload_n 3, 1) := by decide +kernel
theorem d_Md_waiting_25 : decode b_Md_waiting 25 = .ok (.invokevirtual 87, 3) := by decide +kernel
theorem d_Md_waiting_28 : decode b_Md_waiting 28 = .ok (.goto 4, 3) := by decide +kernel
theorem d_Md_waiting_31 : decode b_Md_waiting 31 = .ok (.iconst (-1), 1) := by decide +kernel
theorem d_Md_waiting_32 : decode b_Md_waiting 32 = .ok (.ireturn, 1) := by decide +kernel
theorem d_Md_channel_0 : decode b_Md_channel 0 = .ok (.aload_n 0, 1) := by decide +kernel
theorem d_Md_channel_1 : decode b_Md_channel 1 = .ok (.iload_n 1, 1) := by decide +kernel
theorem d_Md_channel_2 : decode b_Md_channel 2 = .ok (.invokevirtual 108, 3) := by decide +kernel
theorem d_Md_channel_5 : decode b_Md_channel 5 = .ok (.ifCond .eq 13, 3) := by decide +kernel
theorem d_Md_channel_8 : decode b_Md_channel 8 = .ok (.iload_n 2, 1) := by decide +kernel
theorem d_Md_channel_9 : decode b_Md_channel 9 = .ok (.ifCond .lt 9, 3) := by decide +kernel
theorem d_Md_channel_12 : decode b_Md_channel 12 = .ok (.iload_n 2, 1) := by decide +kernel
theorem d_Md_channel_13 : decode b_Md_channel 13 = .ok (.bipush 10, 2) := by decide +kernel
theorem d_Md_channel_15 : decode b_Md_channel 15 = .ok (.if_icmp .le 5, 3) := by decide +kernel
theorem d_Md_channel_18 : decode b_Md_channel 18 = .ok (.iconst (-1), 1) := by decide +kernel
theorem d_Md_channel_19 : decode b_Md_channel 19 = .ok (.ireturn, 1) := by decide +kernel
theorem d_Md_channel_20 : decode b_Md_channel 20 = .ok (.iload_n 2, 1) := by decide +kernel
theorem d_Md_channel_21 : decode b_Md_channel 21 = .ok (.iconst 3, 1) := by decide +kernel
theorem d_Md_channel_22 : decode b_Md_channel 22 = .ok (.if_icmp .ge 45, 3) := by decide +kernel
theorem d_Md_channel_25 : decode b_Md_channel 25 = .ok (.iload_n 2, 1) := by decide +kernel
theorem d_Md_channel_26 : decode b_Md_channel 26 = .ok (.ifCond .ne 12, 3) := by decide +kernel
theorem d_Md_channel_29 : decode b_Md_channel 29 = .ok (.aload_n 0, 1) := by decide +kernel
theorem d_Md_channel_30 : decode b_Md_channel 30 = .ok (.getfield 17, 3) := by decide +kernel
theorem d_Md_channel_33 : decode b_Md_channel 33 = .ok (.iload_n 1, 1) := by decide +kernel
theorem d_Md_channel_34 : decode b_Md_channel 34 = .ok (.iaload, 1) := by decide +kernel
theorem d_Md_channel_35 : decode b_Md_channel 35 = .ok (.goto 31, 3) := by decide +kernel
theorem d_Md_channel_38 : decode b_Md_channel 38 = .ok (.iload_n 2, 1) := by decide +kernel
theorem d_Md_channel_39 : decode b_Md_channel 39 = .ok (.iconst 1, 1) := by decide +kernel
theorem d_Md_channel_40 : decode b_Md_channel 40 = .ok (.if_icmp .ne 12, 3) := by decide +kernel
theorem d_Md_channel_43 : decode b_Md_channel 43 = .ok (.aload_n 0, 1) := by decide +kernel
theorem d_Md_channel_44 : decode b_Md_channel 44 = .ok (.getfield 7, 3) := by decide +kernel
theorem d_Md_channel_47 : decode b_Md_channel 47 = .ok (.iload_n 1, 1) := by decide +kernel
theorem d_Md_channel_48 : decode b_Md_channel 48 = .ok (.iaload, 1) := by decide +kernel
theorem d_Md_channel_49 : decode b_Md_channel 49 = .ok (.goto 17, 3) := by decide +kernel
theorem d_Md_channel_52 : decode b_Md_channel 52 = .ok (.aload_n 0, 1) := by decide +kernel
theorem d_Md_channel_53 : decode b_Md_channel 53 = .ok (.getfield 13, 3) := by decide +kernel
theorem d_Md_channel_56 : decode b_Md_channel 56 = .ok (.iload_n 1, 1) := by decide +kernel
theorem d_Md_channel_57 : decode b_Md_channel 57 = .ok (.baload, 1) := by decide +kernel
theorem d_Md_channel_58 : decode b_Md_channel 58 = .ok (.ifCond .eq 7, 3) := by decide +kernel
theorem d_Md_channel_61 : decode b_Md_channel 61 = .ok (.iconst 1, 1) := by decide +kernel
theorem d_Md_channel_62 : decode b_Md_channel 62 = .ok (.goto 4, 3) := by decide +kernel
theorem d_Md_channel_65 : decode b_Md_channel 65 = .ok (.iconst 0, 1) := by decide +kernel
theorem d_Md_channel_66 : decode b_Md_channel 66 = .ok (.ireturn, 1) := by decide +kernel
theorem d_Md_channel_67 : decode b_Md_channel 67 = .ok (.iload_n 2, 1) := by decide +kernel
theorem d_Md_channel_68 : decode b_Md_channel 68 = .ok (.iconst 3, 1) := by decide +kernel
theorem d_Md_channel_69 : decode b_Md_channel 69 = .ok (.isub, 1) := by decide +kernel
theorem d_Md_channel_70 : decode b_Md_channel 70 = .ok (.aload_n 0, 1) := by decide +kernel
theorem d_Md_channel_71 : decode b_Md_channel 71 = .ok (.getfield 17, 3) := by decide +kernel
theorem d_Md_channel_74 : decode b_Md_channel 74 = .ok (.iload_n 1, 1) := by decide +kernel
theorem d_Md_channel_75 : decode b_Md_channel 75 = .ok (.iaload, 1) := by decide +kernel
theorem d_Md_channel_76 : decode b_Md_channel 76 = .ok (.if_icmp .ge 19, 3) := by decide +kernel
theorem d_Md_channel_79 : decode b_Md_channel 79 = .ok (.aload_n 0, 1) := by decide +kernel
theorem d_Md_channel_80 : decode b_Md_channel 80 = .ok (.getfield 20, 3) := by decide +kernel
theorem d_Md_channel_83 : decode b_Md_channel 83 = .ok (.bipush 8, 2) := by decide +kernel
theorem d_Md_channel_85 : decode b_Md_channel 85 = .ok (.iload_n 1, 1) := by decide +kernel
theorem d_Md_channel_86 : decode b_Md_channel 86 = .ok (.imul, 1) := by decide +kernel
theorem d_Md_channel_87 : decode b_Md_channel 87 = .ok (.iload_n 2, 1) := by decide +kernel
theorem d_Md_channel_88 : decode b_Md_channel 88 = .ok (.iadd, 1) := by decide +kernel
theorem d_Md_channel_89 : decode b_Md_channel 89 = .ok (.iconst 3, 1) := by decide +kernel
theorem d_Md_channel_90 : decode b_Md_channel 90 = .ok (.isub, 1) := by decide +kernel
theorem d_Md_channel_91 : decode b_Md_channel 91 = .ok (.iaload, 1) := by decide +kernel
theorem d_Md_channel_92 : decode b_Md_channel 92 = .ok (.goto 4, 3) := by decide +kernel
theorem d_Md_channel_95 : decode b_Md_channel 95 = .ok (.iconst 0, 1) := by decide +kernel
theorem d_Md_channel_96 : decode b_Md_channel 96 = .ok (.ireturn, 1) := by decide +kernel
theorem d_Md_count_0 : decode b_Md_count 0 = .ok (.iconst 0, 1) := by decide +kernel
theorem d_Md_count_1 : decode b_Md_count 1 = .ok (.istore_n 2, 1) := by decide +kernel
theorem d_Md_count_2 : decode b_Md_count 2 = .ok (.iconst 0, 1) := by decide +kernel
theorem d_Md_count_3 : decode b_Md_count 3 = .ok (.istore_n 3, 1) := by decide +kernel
theorem d_Md_count_4 : decode b_Md_count 4 = .ok (.iload_n 3, 1) := by decide +kernel
theorem d_Md_count_5 : decode b_Md_count 5 = .ok (.bipush 16, 2) := by decide +kernel
theorem d_Md_count_7 : decode b_Md_count 7 = .ok (.if_icmp .ge 36, 3) := by decide +kernel
theorem d_Md_count_10 : decode b_Md_count 10 = .ok (.aload_n 0, 1) := by decide +kernel
theorem d_Md_count_11 : decode b_Md_count 11 = .ok (.getfield 23, 3) := by decide +kernel
theorem d_Md_count_14 : decode b_Md_count 14 = .ok (.iload_n 3, 1) := by decide +kernel
theorem d_Md_count_15 : decode b_Md_count 15 = .ok (.iaload, 1) := by decide +kernel
theorem d_Md_count_16 : decode b_Md_count 16 = .ok (.ifCond .le 19, 3) := by decide +kernel
theorem d_Md_count_19 : decode b_Md_count 19 = .ok (.aload_n 0, 1) := by decide +kernel
theorem d_Md_count_20 : decode b_Md_count 20 = .ok (.getfield 23, 3) := by decide +kernel
theorem d_Md_count_23 : decode b_Md_count 23 = .ok (.iload_n 3, 1) := by decide +kernel
theorem d_Md_count_24 : decode b_Md_count 24 = .ok (.iaload, 1) := by decide +kernel
theorem d_Md_count_25 : decode b_Md_count 25 = .ok (.iconst 4, 1) := by decide +kernel
theorem d_Md_count_26 : decode b_Md_count 26 = .ok (.if_icmp .ge 9, 3) := by decide +kernel
theorem d_Md_count_29 : decode b_Md_count 29 = .ok (.iload_n 2, 1) := by decide +kernel
theorem d_Md_count_30 : decode b_Md_count 30 = .ok (.iconst 1, 1) := by decide +kernel
theorem d_Md_count_31 : decode b_Md_count 31 = .ok (.iadd, 1) := by decide +kernel
theorem d_Md_count_32 : decode b_Md_count 32 = .ok (.goto 4, 3) := by decide +kernel
theorem d_Md_count_35 : decode b_Md_count 35 = .ok (.iload_n 2, 1) := by decide +kernel
theorem d_Md_count_36 : decode b_Md_count 36 = .ok (.istore_n 2, 1) := by decide +kernel
theorem d_Md_count_37 : decode b_Md_count 37 = .ok (.iinc 3 1, 3) := by decide +kernel
theorem d_Md_count_40 : decode b_Md_count 40 = .ok (.goto (-36), 3) := by decide +kernel
theorem d_Md_count_43 : decode b_Md_count 43 = .ok (.iload_n 1, 1) := by decide +kernel
theorem d_Md_count_44 : decode b_Md_count 44 = .ok (.ifCond .ne 10, 3) := by decide +kernel
theorem d_Md_count_47 : decode b_Md_count 47 = .ok (.aload_n 0, 1) := by decide +kernel
theorem d_Md_count_48 : decode b_Md_count 48 = .ok (.getfield 57, 3) := by decide +kernel
theorem d_Md_count_51 : decode b_Md_count 51 = .ok (.goto 37, 3) := by decide +kernel
theorem d_Md_count_54 : decode b_Md_count 54 = .ok (.iload_n 1, 1) := by decide +kernel
theorem d_Md_count_55 : decode b_Md_count 55 = .ok (.iconst 1, 1) := by decide +kernel
theorem d_Md_count_56 : decode b_Md_count 56 = .ok (.if_icmp .ne 7, 3) := by decide +kernel
theorem d_Md_count_59 : decode b_Md_count 59 = .ok (.iload_n 2, 1) := by decide +kernel
theorem d_Md_count_60 : decode b_Md_count 60 = .ok (.goto 28, 3) := by decide +kernel
theorem d_Md_count_63 : decode b_Md_count 63 = .ok (.iload_n 1, 1) := by decide +kernel
theorem d_Md_count_64 : decode b_Md_count 64 = .ok (.iconst 2, 1) := by decide +kernel
theorem d_Md_count_65 : decode b_Md_count 65 = .ok (.if_icmp .ne 10, 3) := by decide +kernel
theorem d_Md_count_68 : decode b_Md_count 68 = .ok (.aload_n 0, 1) := by decide +kernel
theorem d_Md_count_69 : decode b_Md_count 69 = .ok (.getfield 84, 3) := by decide +kernel
theorem d_Md_count_72 : decode b_Md_count 72 = .ok (.goto 16, 3) := by decide +kernel
theorem d_Md_count_75 : decode b_Md_count 75 = .ok (.iload_n 1, 1) := by decide +kernel
theorem d_Md_count_76 : decode b_Md_count 76 = .ok (.iconst 3, 1) := by decide +kernel
theorem d_Md_count_77 : decode b_Md_count 77 = .ok (.if_icmp .ne 10, 3) := by decide +kernel
theorem d_Md_count_80 : decode b_Md_count 80 = .ok (.aload_n 0, 1) := by decide +kernel
theorem d_Md_count_81 : decode b_Md_count 81 = .ok (.getfield 73, 3) := by decide +kernel
theorem d_Md_count_84 : decode b_Md_count 84 = .ok (.goto 4, 3) := by decide +kernel
theorem d_Md_count_87 : decode b_Md_count 87 = .ok (.iconst (-1), 1) := by decide +kernel
theorem d_Md_count_88 : decode b_Md_count 88 = .ok (.ireturn, 1) := by decide +kernel
theorem d_Md_clear_0 : decode b_Md_clear 0 = .ok (.aload_n 0, 1) := by decide +kernel
theorem d_Md_clear_1 : decode b_Md_clear 1 = .ok (.getfield 57, 3) := by decide +kernel
theorem d_Md_clear_4 : decode b_Md_clear 4 = .ok (.istore_n 1, 1) := by decide +kernel
theorem d_Md_clear_5 : decode b_Md_clear 5 = .ok (.aload_n 0, 1) := by decide +kernel
theorem d_Md_clear_6 : decode b_Md_clear 6 = .ok (.iconst 0, 1) := by decide +kernel
theorem d_Md_clear_7 : decode b_Md_clear 7 = .ok (.putfield 57, 3) := by decide +kernel
theorem d_Md_clear_10 : decode b_Md_clear 10 = .ok (.aload_n 0, 1) := by decide +kernel
theorem d_Md_clear_11 : decode b_Md_clear 11 = .ok (.iconst 0, 1) := by decide +kernel
theorem d_Md_clear_12 : decode b_Md_clear 12 = .ok (.putfield 84, 3) := by decide +kernel
theorem d_Md_clear_15 : decode b_Md_clear 15 = .ok (.aload_n 0, 1) := by decide +kernel
theorem d_Md_clear_16 : decode b_Md_clear 16 = .ok (.iconst 0, 1) := by decide +kernel
theorem d_Md_clear_17 : decode b_Md_clear 17 = .ok (.putfield 73, 3) := by decide +kernel
theorem d_Md_clear_20 : decode b_Md_clear 20 = .ok (.iconst 0, 1) := by decide +kernel
theorem d_Md_clear_21 : decode b_Md_clear 21 = .ok (.istore_n 2, 1) := by decide +kernel
theorem d_Md_clear_22 : decode b_Md_clear 22 = .ok (.iload_n 2, 1) := by decide +kernel
theorem d_Md_clear_23 : decode b_Md_clear 23 = .ok (.bipush 16, 2) := by decide +kernel
theorem d_Md_clear_25 : decode b_Md_clear 25 = .ok (.if_icmp .ge 44, 3) := by decide +kernel
theorem d_Md_clear_28 : decode b_Md_clear 28 = .ok (.aload_n 0, 1) := by decide +kernel
theorem d_Md_clear_29 : decode b_Md_clear 29 = .ok (.getfield 23, 3) := by decide +kernel
theorem d_Md_clear_32 : decode b_Md_clear 32 = .ok (.iload_n 2, 1) := by decide +kernel
theorem d_Md_clear_33 : decode b_Md_clear 33 = .ok (.iconst 0, 1) := by decide +kernel
theorem d_Md_clear_34 : decode b_Md_clear 34 = .ok (.iastore, 1) := by decide +kernel
theorem d_Md_clear_35 : decode b_Md_clear 35 = .ok (.aload_n 0, 1) := by decide +kernel
theorem d_Md_clear_36 : decode b_Md_clear 36 = .ok (.getfield 45, 3) := by decide +kernel
theorem d_Md_clear_39 : decode b_Md_clear 39 = .ok (.iload_n 2, 1) := by decide +kernel
theorem d_Md_clear_40 : decode b_Md_clear 40 = .ok (.iconst 0, 1) := by decide +kernel
theorem d_Md_clear_41 : decode b_Md_clear 41 = .ok (.iastore, 1) := by decide +kernel
theorem d_Md_clear_42 : decode b_Md_clear 42 = .ok (.aload_n 0, 1) := by decide +kernel
theorem d_Md_clear_43 : decode b_Md_clear 43 = .ok (.getfield 36, 3) := by decide +kernel
theorem d_Md_clear_46 : decode b_Md_clear 46 = .ok (.iload_n 2, 1) := by decide +kernel
theorem d_Md_clear_47 : decode b_Md_clear 47 = .ok (.iconst 0, 1) := by decide +kernel
theorem d_Md_clear_48 : decode b_Md_clear 48 = .ok (.iastore, 1) := by decide +kernel
theorem d_Md_clear_49 : decode b_Md_clear 49 = .ok (.aload_n 0, 1) := by decide +kernel
theorem d_Md_clear_50 : decode b_Md_clear 50 = .ok (.getfield 39, 3) := by decide +kernel
theorem d_Md_clear_53 : decode b_Md_clear 53 = .ok (.iload_n 2, 1) := by decide +kernel
theorem d_Md_clear_54 : decode b_Md_clear 54 = .ok (.iconst 0, 1) := by decide +kernel
theorem d_Md_clear_55 : decode b_Md_clear 55 = .ok (.bastore, 1) := by decide +kernel
theorem d_Md_clear_56 : decode b_Md_clear 56 = .ok (.aload_n 0, 1) := by decide +kernel
theorem d_Md_clear_57 : decode b_Md_clear 57 = .ok (.getfield 42, 3) := by decide +kernel
theorem d_Md_clear_60 : decode b_Md_clear 60 = .ok (.iload_n 2, 1) := by decide +kernel
theorem d_Md_clear_61 : decode b_Md_clear 61 = .ok (.iconst (-1), 1) := by decide +kernel
theorem d_Md_clear_62 : decode b_Md_clear 62 = .ok (.iastore, 1) := by decide +kernel
theorem d_Md_clear_63 : decode b_Md_clear 63 = .ok (.iinc 2 1, 3) := by decide +kernel
theorem d_Md_clear_66 : decode b_Md_clear 66 = .ok (.goto (-44), 3) := by decide +kernel
theorem d_Md_clear_69 : decode b_Md_clear 69 = .ok (.iload_n 1, 1) := by decide +kernel
theorem d_Md_clear_70 : decode b_Md_clear 70 = .ok (.ireturn, 1) := by decide +kernel
