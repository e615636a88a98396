theorem d_Cs_init_0 : decode b_Cs_init 0 = .ok (.aload_n 0, 1) := by decide +kernel
theorem d_Cs_init_1 : decode b_Cs_init 1 = .ok (.invokespecial 3, 3) := by decide +kernel
theorem d_Cs_init_4 : decode b_Cs_init 4 = .ok (.aload_n 0, 1) := by decide +kernel
theorem d_Cs_init_5 : decode b_Cs_init 5 = .ok (.bipush 16, 2) := by decide +kernel
theorem d_Cs_init_7 : decode b_Cs_init 7 = .ok (.newarray .int, 2) := by decide +kernel
theorem d_Cs_init_9 : decode b_Cs_init 9 = .ok (.putfield 9, 3) := by decide +kernel
theorem d_Cs_init_12 : decode b_Cs_init 12 = .ok (.aload_n 0, 1) := by decide +kernel
theorem d_Cs_init_13 : decode b_Cs_init 13 = .ok (.bipush 96, 2) := by decide +kernel
theorem d_Cs_init_15 : decode b_Cs_init 15 = .ok (.newarray .int, 2) := by decide +kernel
theorem d_Cs_init_17 : decode b_Cs_init 17 = .ok (.putfield 15, 3) := by decide +kernel
theorem d_Cs_init_20 : decode b_Cs_init 20 = .ok (.aload_n 0, 1) := by decide +kernel
theorem d_Cs_init_21 : decode b_Cs_init 21 = .ok (.bipush 96, 2) := by decide +kernel
theorem d_Cs_init_23 : decode b_Cs_init 23 = .ok (.newarray .int, 2) := by decide +kernel
theorem d_Cs_init_25 : decode b_Cs_init 25 = .ok (.putfield 18, 3) := by decide +kernel
theorem d_Cs_init_28 : decode b_Cs_init 28 = .ok (.aload_n 0, 1) := by decide +kernel
theorem d_Cs_init_29 : decode b_Cs_init 29 = .ok (.bipush 96, 2) := by decide +kernel
theorem d_Cs_init_31 : decode b_Cs_init 31 = .ok (.newarray .int, 2) := by decide +kernel
theorem d_Cs_init_33 : decode b_Cs_init 33 = .ok (.putfield 21, 3) := by decide +kernel
theorem d_Cs_init_36 : decode b_Cs_init 36 = .ok (.return_, 1) := by decide +kernel
theorem d_Cs_slotOf_0 : decode b_Cs_slotOf 0 = .ok (.iload_n 0, 1) := by decide +kernel
theorem d_Cs_slotOf_1 : decode b_Cs_slotOf 1 = .ok (.bipush 6, 2) := by decide +kernel
theorem d_Cs_slotOf_3 : decode b_Cs_slotOf 3 = .ok (.imul, 1) := by decide +kernel
theorem d_Cs_slotOf_4 : decode b_Cs_slotOf 4 = .ok (.iload_n 1, 1) := by decide +kernel
theorem d_Cs_slotOf_5 : decode b_Cs_slotOf 5 = .ok (.iadd, 1) := by decide +kernel
theorem d_Cs_slotOf_6 : decode b_Cs_slotOf 6 = .ok (.ireturn, 1) := by decide +kernel
theorem d_Cs_routineAt_0 : decode b_Cs_routineAt 0 = .ok (.iload_n 0, 1) := by decide +kernel
theorem d_Cs_routineAt_1 : decode b_Cs_routineAt 1 = .ok (.bipush 6, 2) := by decide +kernel
theorem d_Cs_routineAt_3 : decode b_Cs_routineAt 3 = .ok (.idiv, 1) := by decide +kernel
theorem d_Cs_routineAt_4 : decode b_Cs_routineAt 4 = .ok (.ireturn, 1) := by decide +kernel
theorem d_Cs_numberAt_0 : decode b_Cs_numberAt 0 = .ok (.iload_n 0, 1) := by decide +kernel
theorem d_Cs_numberAt_1 : decode b_Cs_numberAt 1 = .ok (.bipush 6, 2) := by decide +kernel
theorem d_Cs_numberAt_3 : decode b_Cs_numberAt 3 = .ok (.irem, 1) := by decide +kernel
theorem d_Cs_numberAt_4 : decode b_Cs_numberAt 4 = .ok (.ireturn, 1) := by decide +kernel
theorem d_Cs_forgetAll_0 : decode b_Cs_forgetAll 0 = .ok (.aload_n 0, 1) := by decide +kernel
theorem d_Cs_forgetAll_1 : decode b_Cs_forgetAll 1 = .ok (.getfield 9, 3) := by decide +kernel
theorem d_Cs_forgetAll_4 : decode b_Cs_forgetAll 4 = .ok (.iconst 0, 1) := by decide +kernel
theorem d_Cs_forgetAll_5 : decode b_Cs_forgetAll 5 = .ok (.invokestatic 24, 3) := by decide +kernel
theorem d_Cs_forgetAll_8 : decode b_Cs_forgetAll 8 = .ok (.return_, 1) := by decide +kernel
theorem d_Cs_forget_0 : decode b_Cs_forget 0 = .ok (.aload_n 0, 1) := by decide +kernel
theorem d_Cs_forget_1 : decode b_Cs_forget 1 = .ok (.getfield 9, 3) := by decide +kernel
theorem d_Cs_forget_4 : decode b_Cs_forget 4 = .ok (.iload_n 1, 1) := by decide +kernel
theorem d_Cs_forget_5 : decode b_Cs_forget 5 = .ok (.iconst 0, 1) := by decide +kernel
theorem d_Cs_forget_6 : decode b_Cs_forget 6 = .ok (.iastore, 1) := by decide +kernel
theorem d_Cs_forget_7 : decode b_Cs_forget 7 = .ok (.return_, 1) := by decide +kernel
theorem d_Cs_numberOf_0 : decode b_Cs_numberOf 0 = .ok (.aload_n 0, 1) := by decide +kernel
theorem d_Cs_numberOf_1 : decode b_Cs_numberOf 1 = .ok (.getfield 9, 3) := by decide +kernel
theorem d_Cs_numberOf_4 : decode b_Cs_numberOf 4 = .ok (.iload_n 1, 1) := by decide +kernel
theorem d_Cs_numberOf_5 : decode b_Cs_numberOf 5 = .ok (.iaload, 1) := by decide +kernel
theorem d_Cs_numberOf_6 : decode b_Cs_numberOf 6 = .ok (.ireturn, 1) := by decide +kernel
theorem d_Cs_append_0 : decode b_Cs_append 0 = .ok (.aload_n 0, 1) := by decide +kernel
theorem d_Cs_append_1 : decode b_Cs_append 1 = .ok (.getfield 9, 3) := by decide +kernel
theorem d_Cs_append_4 : decode b_Cs_append 4 = .ok (.iload_n 1, 1) := by decide +kernel
theorem d_Cs_append_5 : decode b_Cs_append 5 = .ok (.iaload, 1) := by decide +kernel
theorem d_Cs_append_6 : decode b_Cs_append 6 = .ok (.bipush 6, 2) := by decide +kernel
theorem d_Cs_append_8 : decode b_Cs_append 8 = .ok (.if_icmp .lt 5, 3) := by decide +kernel
theorem d_Cs_append_11 : decode b_Cs_append 11 = .ok (.iconst (-1), 1) := by decide +kernel
theorem d_Cs_append_12 : decode b_Cs_append 12 = .ok (.ireturn, 1) := by decide +kernel
theorem d_Cs_append_13 : decode b_Cs_append 13 = .ok (.iload_n 1, 1) := by decide +kernel
theorem d_Cs_append_14 : decode b_Cs_append 14 = .ok (.aload_n 0, 1) := by decide +kernel
theorem d_Cs_append_15 : decode b_Cs_append 15 = .ok (.getfield 9, 3) := by decide +kernel
theorem d_Cs_append_18 : decode b_Cs_append 18 = .ok (.iload_n 1, 1) := by decide +kernel
theorem d_Cs_append_19 : decode b_Cs_append 19 = .ok (.iaload, 1) := by decide +kernel
theorem d_Cs_append_20 : decode b_Cs_append 20 = .ok (.invokestatic 30, 3) := by decide +kernel
theorem d_Cs_append_23 : decode b_Cs_append 23 = .ok (.istore 5, 2) := by decide +kernel
theorem d_Cs_append_25 : decode b_Cs_append 25 = .ok (.aload_n 0, 1) := by decide +kernel
theorem d_Cs_append_26 : decode b_Cs_append 26 = .ok (.getfield 15, 3) := by decide +kernel
theorem d_Cs_append_29 : decode b_Cs_append 29 = .ok (.iload 5, 2) := by decide +kernel
theorem d_Cs_append_31 : decode b_Cs_append 31 = .ok (.iload_n 2, 1) := by decide +kernel
theorem d_Cs_append_32 : decode b_Cs_append 32 = .ok (.iastore, 1) := by decide +kernel
theorem d_Cs_append_33 : decode b_Cs_append 33 = .ok (.aload_n 0, 1) := by decide +kernel
theorem d_Cs_append_34 : decode b_Cs_append 34 = .ok (.getfield 18, 3) := by decide +kernel
theorem d_Cs_append_37 : decode b_Cs_append 37 = .ok (.iload 5, 2) := by decide +kernel
theorem d_Cs_append_39 : decode b_Cs_append 39 = .ok (.iload_n 3, 1) := by decide +kernel
theorem d_Cs_append_40 : decode b_Cs_append 40 = .ok (.iastore, 1) := by decide +kernel
theorem d_Cs_append_41 : decode b_Cs_append 41 = .ok (.aload_n 0, 1) := by decide +kernel
theorem d_Cs_append_42 : decode b_Cs_append 42 = .ok (.getfield 21, 3) := by decide +kernel
theorem d_Cs_append_45 : decode b_Cs_append 45 = .ok (.iload 5, 2) := by decide +kernel
theorem d_Cs_append_47 : decode b_Cs_append 47 = .ok (.iload 4, 2) := by decide +kernel
theorem d_Cs_append_49 : decode b_Cs_append 49 = .ok (.iastore, 1) := by decide +kernel
theorem d_Cs_append_50 : decode b_Cs_append 50 = .ok (.aload_n 0, 1) := by decide +kernel
theorem d_Cs_append_51 : decode b_Cs_append 51 = .ok (.getfield 9, 3) := by decide +kernel
theorem d_Cs_append_54 : decode b_Cs_append 54 = .ok (.iload_n 1, 1) := by decide +kernel
theorem d_Cs_append_55 : decode b_Cs_append 55 = .ok (.dup2, 1) := by decide +kernel
theorem d_Cs_append_56 : decode b_Cs_append 56 = .ok (.iaload, 1) := by decide +kernel
theorem d_Cs_append_57 : decode b_Cs_append 57 = .ok (.iconst 1, 1) := by decide +kernel
theorem d_Cs_append_58 : decode b_Cs_append 58 = .ok (.iadd, 1) := by decide +kernel
theorem d_Cs_append_59 : decode b_Cs_append 59 = .ok (.iastore, 1) := by decide +kernel
theorem d_Cs_append_60 : decode b_Cs_append 60 = .ok (.aload_n 0, 1) := by decide +kernel
theorem d_Cs_append_61 : decode b_Cs_append 61 = .ok (.getfield 9, 3) := by decide +kernel
theorem d_Cs_append_64 : decode b_Cs_append 64 = .ok (.iload_n 1, 1) := by decide +kernel
theorem d_Cs_append_65 : decode b_Cs_append 65 = .ok (.iaload, 1) := by decide +kernel
theorem d_Cs_append_66 : decode b_Cs_append 66 = .ok (.ireturn, 1) := by decide +kernel
theorem d_Cs_channelAt_0 : decode b_Cs_channelAt 0 = .ok (.aload_n 0, 1) := by decide +kernel
theorem d_Cs_channelAt_1 : decode b_Cs_channelAt 1 = .ok (.getfield 15, 3) := by decide +kernel
theorem d_Cs_channelAt_4 : decode b_Cs_channelAt 4 = .ok (.iload_n 1, 1) := by decide +kernel
theorem d_Cs_channelAt_5 : decode b_Cs_channelAt 5 = .ok (.iaload, 1) := by decide +kernel
theorem d_Cs_channelAt_6 : decode b_Cs_channelAt 6 = .ok (.ireturn, 1) := by decide +kernel
theorem d_Cs_wayAt_0 : decode b_Cs_wayAt 0 = .ok (.aload_n 0, 1) := by decide +kernel
theorem d_Cs_wayAt_1 : decode b_Cs_wayAt 1 = .ok (.getfield 18, 3) := by decide +kernel
theorem d_Cs_wayAt_4 : decode b_Cs_wayAt 4 = .ok (.iload_n 1, 1) := by decide +kernel
theorem d_Cs_wayAt_5 : decode b_Cs_wayAt 5 = .ok (.iaload, 1) := by decide +kernel
theorem d_Cs_wayAt_6 : decode b_Cs_wayAt 6 = .ok (.ireturn, 1) := by decide +kernel
theorem d_Cs_valueAt_0 : decode b_Cs_valueAt 0 = .ok (.aload_n 0, 1) := by decide +kernel
theorem d_Cs_valueAt_1 : decode b_Cs_valueAt 1 = .ok (.getfield 21, 3) := by decide +kernel
theorem d_Cs_valueAt_4 : decode b_Cs_valueAt 4 = .ok (.iload_n 1, 1) := by decide +kernel
theorem d_Cs_valueAt_5 : decode b_Cs_valueAt 5 = .ok (.iaload, 1) := by decide +kernel
theorem d_Cs_valueAt_6 : decode b_Cs_valueAt 6 = .ok (.ireturn, 1) := by decide +kernel
theorem d_Cs_firstAt_0 : decode b_Cs_firstAt 0 = .ok (.iconst 0, 1) := by decide +kernel
theorem d_Cs_firstAt_1 : decode b_Cs_firstAt 1 = .ok (.istore 4, 2) := by decide +kernel
theorem d_Cs_firstAt_3 : decode b_Cs_firstAt 3 = .ok (.iload 4, 2) := by decide +kernel
theorem d_Cs_firstAt_5 : decode b_Cs_firstAt 5 = .ok (.aload_n 0, 1) := by decide +kernel
theorem d_Cs_firstAt_6 : decode b_Cs_firstAt 6 = .ok (.getfield 9, 3) := by decide +kernel
theorem d_Cs_firstAt_9 : decode b_Cs_firstAt 9 = .ok (.iload_n 1, 1) := by decide +kernel
theorem d_Cs_firstAt_10 : decode b_Cs_firstAt 10 = .ok (.iaload, 1) := by decide +kernel
theorem d_Cs_firstAt_11 : decode b_Cs_firstAt 11 = .ok (.if_icmp .ge 47, 3) := by decide +kernel
theorem d_Cs_firstAt_14 : decode b_Cs_firstAt 14 = .ok (.iload_n 1, 1) := by decide +kernel
theorem d_Cs_firstAt_15 : decode b_Cs_firstAt 15 = .ok (.iload 4, 2) := by decide +kernel
theorem d_Cs_firstAt_17 : decode b_Cs_firstAt 17 = .ok (.invokestatic 30, 3) := by decide +kernel
theorem d_Cs_firstAt_20 : decode b_Cs_firstAt 20 = .ok (.istore 5, 2) := by decide +kernel
theorem d_Cs_firstAt_22 : decode b_Cs_firstAt 22 = .ok (.aload_n 0, 1) := by decide +kernel
theorem d_Cs_firstAt_23 : decode b_Cs_firstAt 23 = .ok (.getfield 15, 3) := by decide +kernel
theorem d_Cs_firstAt_26 : decode b_Cs_firstAt 26 = .ok (.iload 5, 2) := by decide +kernel
theorem d_Cs_firstAt_28 : decode b_Cs_firstAt 28 = .ok (.iaload, 1) := by decide +kernel
theorem d_Cs_firstAt_29 : decode b_Cs_firstAt 29 = .ok (.iload_n 2, 1) := by decide +kernel
theorem d_Cs_firstAt_30 : decode b_Cs_firstAt 30 = .ok (.if_icmp .ne 22, 3) := by decide +kernel
theorem d_Cs_firstAt_33 : decode b_Cs_firstAt 33 = .ok (.iload_n 3, 1) := by decide +kernel
theorem d_Cs_firstAt_34 : decode b_Cs_firstAt 34 = .ok (.iconst 2, 1) := by decide +kernel
theorem d_Cs_firstAt_35 : decode b_Cs_firstAt 35 = .ok (.if_icmp .eq 14, 3) := by decide +kernel
theorem d_Cs_firstAt_38 : decode b_Cs_firstAt 38 = .ok (.aload_n 0, 1) := by decide +kernel
theorem d_Cs_firstAt_39 : decode b_Cs_firstAt 39 = .ok (.getfield 18, 3) := by decide +kernel
theorem d_Cs_firstAt_42 : decode b_Cs_firstAt 42 = .ok (.iload 5, 2) := by decide +kernel
theorem d_Cs_firstAt_44 : decode b_Cs_firstAt 44 = .ok (.iaload, 1) := by decide +kernel
theorem d_Cs_firstAt_45 : decode b_Cs_firstAt 45 = .ok (.iload_n 3, 1) := by decide +kernel
theorem d_Cs_firstAt_46 : decode b_Cs_firstAt 46 = .ok (.if_icmp .ne 6, 3) := by decide +kernel
theorem d_Cs_firstAt_49 : decode b_Cs_firstAt 49 = .ok (.iload 5, 2) := by decide +kernel
theorem d_Cs_firstAt_51 : decode b_Cs_firstAt 51 = .ok (.ireturn, 1) := by decide +kernel
theorem d_Cs_firstAt_52 : decode b_Cs_firstAt 52 = .ok (.iinc 4 1, 3) := by decide +kernel
theorem d_Cs_firstAt_55 : decode b_Cs_firstAt 55 = .ok (.goto (-52), 3) := by decide +kernel
theorem d_Cs_firstAt_58 : decode b_Cs_firstAt 58 = .ok (.iconst (-1), 1) := by decide +kernel
theorem d_Cs_firstAt_59 : decode b_Cs_firstAt 59 = .ok (.ireturn, 1) := by decide +kernel
theorem d_Ch_init_0 : decode b_Ch_init 0 = .ok (.aload_n 0, 1) := by decide +kernel
theorem d_Ch_init_1 : decode b_Ch_init 1 = .ok (.invokespecial 3, 3) := by decide +kernel
theorem d_Ch_init_4 : decode b_Ch_init 4 = .ok (.aload_n 0, 1) := by decide +kernel
theorem d_Ch_init_5 : decode b_Ch_init 5 = .ok (.bipush 40, 2) := by decide +kernel
theorem d_Ch_init_7 : decode b_Ch_init 7 = .ok (.newarray .int, 2) := by decide +kernel
theorem d_Ch_init_9 : decode b_Ch_init 9 = .ok (.putfield 9, 3) := by decide +kernel
theorem d_Ch_init_12 : decode b_Ch_init 12 = .ok (.aload_n 0, 1) := by decide +kernel
theorem d_Ch_init_13 : decode b_Ch_init 13 = .ok (.bipush 40, 2) := by decide +kernel
theorem d_Ch_init_15 : decode b_Ch_init 15 = .ok (.newarray .int, 2) := by decide +kernel
theorem d_Ch_init_17 : decode b_Ch_init 17 = .ok (.putfield 15, 3) := by decide +kernel
theorem d_Ch_init_20 : decode b_Ch_init 20 = .ok (.aload_n 0, 1) := by decide +kernel
theorem d_Ch_init_21 : decode b_Ch_init 21 = .ok (.bipush 40, 2) := by decide +kernel
theorem d_Ch_init_23 : decode b_Ch_init 23 = .ok (.newarray .boolean, 2) := by decide +kernel
theorem d_Ch_init_25 : decode b_Ch_init 25 = .ok (.putfield 18, 3) := by decide +kernel
theorem d_Ch_init_28 : decode b_Ch_init 28 = .ok (.aload_n 0, 1) := by decide +kernel
theorem d_Ch_init_29 : decode b_Ch_init 29 = .ok (.sipush 320, 3) := by decide +kernel
theorem d_Ch_init_32 : decode b_Ch_init 32 = .ok (.newarray .int, 2) := by decide +kernel
theorem d_Ch_init_34 : decode b_Ch_init 34 = .ok (.putfield 22, 3) := by decide +kernel
theorem d_Ch_init_37 : decode b_Ch_init 37 = .ok (.return_, 1) := by decide +kernel
theorem d_Ch_forgetAll_0 : decode b_Ch_forgetAll 0 = .ok (.aload_n 0, 1) := by decide +kernel
theorem d_Ch_forgetAll_1 : decode b_Ch_forgetAll 1 = .ok (.iconst 0, 1) := by decide +kernel
theorem d_Ch_forgetAll_2 : decode b_Ch_forgetAll 2 = .ok (.putfield 25, 3) := by decide +kernel
theorem d_Ch_forgetAll_5 : decode b_Ch_forgetAll 5 = .ok (.return_, 1) := by decide +kernel
theorem d_Ch_number_0 : decode b_Ch_number 0 = .ok (.aload_n 0, 1) := by decide +kernel
theorem d_Ch_number_1 : decode b_Ch_number 1 = .ok (.getfield 25, 3) := by decide +kernel
theorem d_Ch_number_4 : decode b_Ch_number 4 = .ok (.ireturn, 1) := by decide +kernel
theorem d_Ch_has_0 : decode b_Ch_has 0 = .ok (.iload_n 1, 1) := by decide +kernel
theorem d_Ch_has_1 : decode b_Ch_has 1 = .ok (.ifCond .lt 15, 3) := by decide +kernel
theorem d_Ch_has_4 : decode b_Ch_has 4 = .ok (.iload_n 1, 1) := by decide +kernel
theorem d_Ch_has_5 : decode b_Ch_has 5 = .ok (.aload_n 0, 1) := by decide +kernel
theorem d_Ch_has_6 : decode b_Ch_has 6 = .ok (.getfield 25, 3) := by decide +kernel
theorem d_Ch_has_9 : decode b_Ch_has 9 = .ok (.if_icmp .ge 7, 3) := by decide +kernel
theorem d_Ch_has_12 : decode b_Ch_has 12 = .ok (.iconst 1, 1) := by decide +kernel
theorem d_Ch_has_13 : decode b_Ch_has 13 = .ok (.goto 4, 3) := by decide +kernel
theorem d_Ch_has_16 : decode b_Ch_has 16 = .ok (.iconst 0, 1) := by decide +kernel
theorem d_Ch_has_17 : decode b_Ch_has 17 = .ok (.ireturn, 1) := by decide +kernel
theorem d_Ch_open_0 : decode b_Ch_open 0 = .ok (.aload_n 0, 1) := by decide +kernel
theorem d_Ch_open_1 : decode b_Ch_open 1 = .ok (.getfield 25, 3) := by decide +kernel
theorem d_Ch_open_4 : decode b_Ch_open 4 = .ok (.bipush 40, 2) := by decide +kernel
theorem d_Ch_open_6 : decode b_Ch_open 6 = .ok (.if_icmp .lt 5, 3) := by decide +kernel
theorem d_Ch_open_9 : decode b_Ch_open 9 = .ok (.iconst (-1), 1) := by decide +kernel
theorem d_Ch_open_10 : decode b_Ch_open 10 = .ok (.ireturn, 1) := by decide +kernel
theorem d_Ch_open_11 : decode b_Ch_open 11 = .ok (.aload_n 0, 1) := by decide +kernel
theorem d_Ch_open_12 : decode b_Ch_open 12 = .ok (.getfield 25, 3) := by decide +kernel
theorem d_Ch_open_15 : decode b_Ch_open 15 = .ok (.istore_n 2, 1) := by decide +kernel
theorem d_Ch_open_16 : decode b_Ch_open 16 = .ok (.aload_n 0, 1) := by decide +kernel
theorem d_Ch_open_17 : decode b_Ch_open 17 = .ok (.getfield 9, 3) := by decide +kernel
theorem d_Ch_open_20 : decode b_Ch_open 20 = .ok (.iload_n 2, 1) := by decide +kernel
theorem d_Ch_open_21 : decode b_Ch_open 21 = .ok (.iload_n 1, 1) := by decide +kernel
theorem d_Ch_open_22 : decode b_Ch_open 22 = .ok (.iastore, 1) := by decide +kernel
theorem d_Ch_open_23 : decode b_Ch_open 23 = .ok (.aload_n 0, 1) := by decide +kernel
theorem d_Ch_open_24 : decode b_Ch_open 24 = .ok (.getfield 15, 3) := by decide +kernel
theorem d_Ch_open_27 : decode b_Ch_open 27 = .ok (.iload_n 2, 1) := by decide +kernel
theorem d_Ch_open_28 : decode b_Ch_open 28 = .ok (.iconst 0, 1) := by decide +kernel
theorem d_Ch_open_29 : decode b_Ch_open 29 = .ok (.iastore, 1) := by decide +kernel
theorem d_Ch_open_30 : decode b_Ch_open 30 = .ok (.aload_n 0, 1) := by decide +kernel
theorem d_Ch_open_31 : decode b_Ch_open 31 = .ok (.getfield 18, 3) := by decide +kernel
theorem d_Ch_open_34 : decode b_Ch_open 34 = .ok (.iload_n 2, 1) := by decide +kernel
theorem d_Ch_open_35 : decode b_Ch_open 35 = .ok (.iconst 0, 1) := by decide +kernel
theorem d_Ch_open_36 : decode b_Ch_open 36 = .ok (.bastore, 1) := by decide +kernel
theorem d_Ch_open_37 : decode b_Ch_open 37 = .ok (.aload_n 0, 1) := by decide +kernel
theorem d_Ch_open_38 : decode b_Ch_open 38 = .ok (.dup, 1) := by decide +kernel
theorem d_Ch_open_39 : decode b_Ch_open 39 = .ok (.getfield 25, 3) := by decide +kernel
theorem d_Ch_open_42 : decode b_Ch_open 42 = .ok (.iconst 1, 1) := by decide +kernel
theorem d_Ch_open_43 : decode b_Ch_open 43 = .ok (.iadd, 1) := by decide +kernel
theorem d_Ch_open_44 : decode b_Ch_open 44 = .ok (.putfield 25, 3) := by decide +kernel
theorem d_Ch_open_47 : decode b_Ch_open 47 = .ok (.iload_n 2, 1) := by decide +kernel
theorem d_Ch_open_48 : decode b_Ch_open 48 = .ok (.ireturn, 1) := by decide +kernel
theorem d_Ch_shut_0 : decode b_Ch_shut 0 = .ok (.aload_n 0, 1) := by decide +kernel
theorem d_Ch_shut_1 : decode b_Ch_shut 1 = .ok (.getfield 18, 3) := by decide +kernel
theorem d_Ch_shut_4 : decode b_Ch_shut 4 = .ok (.iload_n 1, 1) := by decide +kernel
theorem d_Ch_shut_5 : decode b_Ch_shut 5 = .ok (.iconst 1, 1) := by decide +kernel
theorem d_Ch_shut_6 : decode b_Ch_shut 6 = .ok (.bastore, 1) := by decide +kernel
theorem d_Ch_shut_7 : decode b_Ch_shut 7 = .ok (.return_, 1) := by decide +kernel
theorem d_Ch_isShut_0 : decode b_Ch_isShut 0 = .ok (.aload_n 0, 1) := by decide +kernel
theorem d_Ch_isShut_1 : decode b_Ch_isShut 1 = .ok (.getfield 18, 3) := by decide +kernel
theorem d_Ch_isShut_4 : decode b_Ch_isShut 4 = .ok (.iload_n 1, 1) := by decide +kernel
theorem d_Ch_isShut_5 : decode b_Ch_isShut 5 = .ok (.baload, 1) := by decide +kernel
theorem d_Ch_isShut_6 : decode b_Ch_isShut 6 = .ok (.ireturn, 1) := by decide +kernel
theorem d_Ch_roomOf_0 : decode b_Ch_roomOf 0 = .ok (.aload_n 0, 1) := by decide +kernel
theorem d_Ch_roomOf_1 : decode b_Ch_roomOf 1 = .ok (.getfield 9, 3) := by decide +kernel
theorem d_Ch_roomOf_4 : decode b_Ch_roomOf 4 = .ok (.iload_n 1, 1) := by decide +kernel
theorem d_Ch_roomOf_5 : decode b_Ch_roomOf 5 = .ok (.iaload, 1) := by decide +kernel
theorem d_Ch_roomOf_6 : decode b_Ch_roomOf 6 = .ok (.ireturn, 1) := by decide +kernel
theorem d_Ch_held_0 : decode b_Ch_held 0 = .ok (.aload_n 0, 1) := by decide +kernel
theorem d_Ch_held_1 : decode b_Ch_held 1 = .ok (.getfield 15, 3) := by decide +kernel
theorem d_Ch_held_4 : decode b_Ch_held 4 = .ok (.iload_n 1, 1) := by decide +kernel
theorem d_Ch_held_5 : decode b_Ch_held 5 = .ok (.iaload, 1) := by decide +kernel
theorem d_Ch_held_6 : decode b_Ch_held 6 = .ok (.ireturn, 1) := by decide +kernel
theorem d_Ch_hasSpace_0 : decode b_Ch_hasSpace 0 = .ok (.aload_n 0, 1) := by decide +kernel
theorem d_Ch_hasSpace_1 : decode b_Ch_hasSpace 1 = .ok (.getfield 15, 3) := by decide +kernel
theorem d_Ch_hasSpace_4 : decode b_Ch_hasSpace 4 = .ok (.iload_n 1, 1) := by decide +kernel
theorem d_Ch_hasSpace_5 : decode b_Ch_hasSpace 5 = .ok (.iaload, 1) := by decide +kernel
theorem d_Ch_hasSpace_6 : decode b_Ch_hasSpace 6 = .ok (.aload_n 0, 1) := by decide +kernel
theorem d_Ch_hasSpace_7 : decode b_Ch_hasSpace 7 = .ok (.getfield 9, 3) := by decide +kernel
theorem d_Ch_hasSpace_10 : decode b_Ch_hasSpace 10 = .ok (.iload_n 1, 1) := by decide +kernel
theorem d_Ch_hasSpace_11 : decode b_Ch_hasSpace 11 = .ok (.iaload, 1) := by decide +kernel
theorem d_Ch_hasSpace_12 : decode b_Ch_hasSpace 12 = .ok (.if_icmp .ge 7, 3) := by decide +kernel
theorem d_Ch_hasSpace_15 : decode b_Ch_hasSpace 15 = .ok (.iconst 1, 1) := by decide +kernel
theorem d_Ch_hasSpace_16 : decode b_Ch_hasSpace 16 = .ok (.goto 4, 3) := by decide +kernel
theorem d_Ch_hasSpace_19 : decode b_Ch_hasSpace 19 = .ok (.iconst 0, 1) := by decide +kernel
theorem d_Ch_hasSpace_20 : decode b_Ch_hasSpace 20 = .ok (.ireturn, 1) := by decide +kernel
theorem d_Ch_valueAt_0 : decode b_Ch_valueAt 0 = .ok (.iload_n 2, 1) := by decide +kernel
theorem d_Ch_valueAt_1 : decode b_Ch_valueAt 1 = .ok (.aload_n 0, 1) := by decide +kernel
theorem d_Ch_valueAt_2 : decode b_Ch_valueAt 2 = .ok (.getfield 15, 3) := by decide +kernel
theorem d_Ch_valueAt_5 : decode b_Ch_valueAt 5 = .ok (.iload_n 1, 1) := by decide +kernel
theorem d_Ch_valueAt_6 : decode b_Ch_valueAt 6 = .ok (.iaload, 1) := by decide +kernel
theorem d_Ch_valueAt_7 : decode b_Ch_valueAt 7 = .ok (.if_icmp .ge 17, 3) := by decide +kernel
theorem d_Ch_valueAt_10 : decode b_Ch_valueAt 10 = .ok (.aload_n 0, 1) := by decide +kernel
theorem d_Ch_valueAt_11 : decode b_Ch_valueAt 11 = .ok (.getfield 22, 3) := by decide +kernel
theorem d_Ch_valueAt_14 : decode b_Ch_valueAt 14 = .ok (.iload_n 1, 1) := by decide +kernel
theorem d_Ch_valueAt_15 : decode b_Ch_valueAt 15 = .ok (.bipush 8, 2) := by decide +kernel
theorem d_Ch_valueAt_17 : decode b_Ch_valueAt 17 = .ok (.imul, 1) := by decide +kernel
theorem d_Ch_valueAt_18 : decode b_Ch_valueAt 18 = .ok (.iload_n 2, 1) := by decide +kernel
theorem d_Ch_valueAt_19 : decode b_Ch_valueAt 19 = .ok (.iadd, 1) := by decide +kernel
theorem d_Ch_valueAt_20 : decode b_Ch_valueAt 20 = .ok (.iaload, 1) := by decide +kernel
theorem d_Ch_valueAt_21 : decode b_Ch_valueAt 21 = .ok (.goto 4, 3) := by decide +kernel
theorem d_Ch_valueAt_24 : decode b_Ch_valueAt 24 = .ok (.iconst 0, 1) := by decide +kernel
theorem d_Ch_valueAt_25 : decode b_Ch_valueAt 25 = .ok (.ireturn, 1) := by decide +kernel
theorem d_Ch_put_0 : decode b_Ch_put 0 = .ok (.aload_n 0, 1) := by decide +kernel
theorem d_Ch_put_1 : decode b_Ch_put 1 = .ok (.iload_n 1, 1) := by decide +kernel
theorem d_Ch_put_2 : decode b_Ch_put 2 = .ok (.invokevirtual 29, 3) := by decide +kernel
theorem d_Ch_put_5 : decode b_Ch_put 5 = .ok (.ifCond .ne 5, 3) := by decide +kernel
theorem d_Ch_put_8 : decode b_Ch_put 8 = .ok (.iconst 0, 1) := by decide +kernel
theorem d_Ch_put_9 : decode b_Ch_put 9 = .ok (.ireturn, 1) := by decide +kernel
theorem d_Ch_put_10 : decode b_Ch_put 10 = .ok (.aload_n 0, 1) := by decide +kernel
theorem d_Ch_put_11 : decode b_Ch_put 11 = .ok (.getfield 22, 3) := by decide +kernel
theorem d_Ch_put_14 : decode b_Ch_put 14 = .ok (.iload_n 1, 1) := by decide +kernel
theorem d_Ch_put_15 : decode b_Ch_put 15 = .ok (.bipush 8, 2) := by decide +kernel
theorem d_Ch_put_17 : decode b_Ch_put 17 = .ok (.imul, 1) := by decide +kernel
theorem d_Ch_put_18 : decode b_Ch_put 18 = .ok (.aload_n 0, 1) := by decide +kernel
theorem d_Ch_put_19 : decode b_Ch_put 19 = .ok (.getfield 15, 3) := by decide +kernel
theorem d_Ch_put_22 : decode b_Ch_put 22 = .ok (.iload_n 1, 1) := by decide +kernel
theorem d_Ch_put_23 : decode b_Ch_put 23 = .ok (.iaload, 1) := by decide +kernel
theorem d_Ch_put_24 : decode b_Ch_put 24 = .ok (.iadd, 1) := by decide +kernel
theorem d_Ch_put_25 : decode b_Ch_put 25 = .ok (.iload_n 2, 1) := by decide +kernel
theorem d_Ch_put_26 : decode b_Ch_put 26 = .ok (.iastore, 1) := by decide +kernel
theorem d_Ch_put_27 : decode b_Ch_put 27 = .ok (.aload_n 0, 1) := by decide +kernel
theorem d_Ch_put_28 : decode b_Ch_put 28 = .ok (.getfield 15, 3) := by decide +kernel
theorem d_Ch_put_31 : decode b_Ch_put 31 = .ok (.iload_n 1, 1) := by decide +kernel
theorem d_Ch_put_32 : decode b_Ch_put 32 = .ok (.dup2, 1) := by decide +kernel
theorem d_Ch_put_33 : decode b_Ch_put 33 = .ok (.iaload, 1) := by decide +kernel
theorem d_Ch_put_34 : decode b_Ch_put 34 = .ok (.iconst 1, 1) := by decide +kernel
theorem d_Ch_put_35 : decode b_Ch_put 35 = .ok (.iadd, 1) := by decide +kernel
theorem d_Ch_put_36 : decode b_Ch_put 36 = .ok (.iastore, 1) := by decide +kernel
theorem d_Ch_put_37 : decode b_Ch_put 37 = .ok (.iconst 1, 1) := by decide +kernel
theorem d_Ch_put_38 : decode b_Ch_put 38 = .ok (.ireturn, 1) := by decide +kernel
theorem d_Ch_takeFirst_0 : decode b_Ch_takeFirst 0 = .ok (.aload_n 0, 1) := by decide +kernel
theorem d_Ch_takeFirst_1 : decode b_Ch_takeFirst 1 = .ok (.getfield 15, 3) := by decide +kernel
theorem d_Ch_takeFirst_4 : decode b_Ch_takeFirst 4 = .ok (.iload_n 1, 1) := by decide +kernel
theorem d_Ch_takeFirst_5 : decode b_Ch_takeFirst 5 = .ok (.iaload, 1) := by decide +kernel
theorem d_Ch_takeFirst_6 : decode b_Ch_takeFirst 6 = .ok (.ifCond .gt 5, 3) := by decide +kernel
theorem d_Ch_takeFirst_9 : decode b_Ch_takeFirst 9 = .ok (.iconst 0, 1) := by decide +kernel
theorem d_Ch_takeFirst_10 : decode b_Ch_takeFirst 10 = .ok (.ireturn, 1) := by decide +kernel
theorem d_Ch_takeFirst_11 : decode b_Ch_takeFirst 11 = .ok (.iload_n 1, 1) := by decide +kernel
theorem d_Ch_takeFirst_12 : decode b_Ch_takeFirst 12 = .ok (.bipush 8, 2) := by decide +kernel
theorem d_Ch_takeFirst_14 : decode b_Ch_takeFirst 14 = .ok (.imul, 1) := by decide +kernel
theorem d_Ch_takeFirst_15 : decode b_Ch_takeFirst 15 = .ok (.istore_n 2, 1) := by decide +kernel
theorem d_Ch_takeFirst_16 : decode b_Ch_takeFirst 16 = .ok (.aload_n 0, 1) := by decide +kernel
theorem d_Ch_takeFirst_17 : decode b_Ch_takeFirst 17 = .ok (.getfield 22, 3) := by decide +kernel
theorem d_Ch_takeFirst_20 : decode b_Ch_takeFirst 20 = .ok (.iload_n 2, 1) := by decide +kernel
theorem d_Ch_takeFirst_21 : decode b_Ch_takeFirst 21 = .ok (.iaload, 1) := by decide +kernel
theorem d_Ch_takeFirst_22 : decode b_Ch_takeFirst 22 = .ok (.istore_n 3, 1) := by decide +kernel
theorem d_Ch_takeFirst_23 : decode b_Ch_takeFirst 23 = .ok (.aload_n 0, 1) := by decide +kernel
theorem d_Ch_takeFirst_24 : decode b_Ch_takeFirst 24 = .ok (.getfield 15, 3) := by decide +kernel
theorem d_Ch_takeFirst_27 : decode b_Ch_takeFirst 27 = .ok (.iload_n 1, 1) := by decide +kernel
theorem d_Ch_takeFirst_28 : decode b_Ch_takeFirst 28 = .ok (.dup2, 1) := by decide +kernel
theorem d_Ch_takeFirst_29 : decode b_Ch_takeFirst 29 = .ok (.iaload, 1) := by decide +kernel
theorem d_Ch_takeFirst_30 : decode b_Ch_takeFirst 30 = .ok (.iconst 1, 1) := by decide +kernel
theorem d_Ch_takeFirst_31 : decode b_Ch_takeFirst 31 = .ok (.isub, 1) := by decide +kernel
theorem d_Ch_takeFirst_32 : decode b_Ch_takeFirst 32 = .ok (.iastore, 1) := by decide +kernel
theorem d_Ch_takeFirst_33 : decode b_Ch_takeFirst 33 = .ok (.aload_n 0, 1) := by decide +kernel
theorem d_Ch_takeFirst_34 : decode b_Ch_takeFirst 34 = .ok (.getfield 22, 3) := by decide +kernel
theorem d_Ch_takeFirst_37 : decode b_Ch_takeFirst 37 = .ok (.iload_n 2, 1) := by decide +kernel
theorem d_Ch_takeFirst_38 : decode b_Ch_takeFirst 38 = .ok (.iconst 1, 1) := by decide +kernel
theorem d_Ch_takeFirst_39 : decode b_Ch_takeFirst 39 = .ok (.iadd, 1) := by decide +kernel
theorem d_Ch_takeFirst_40 : decode b_Ch_takeFirst 40 = .ok (.aload_n 0, 1) := by decide +kernel
theorem d_Ch_takeFirst_41 : decode b_Ch_takeFirst 41 = .ok (.getfield 22, 3) := by decide +kernel
theorem d_Ch_takeFirst_44 : decode b_Ch_takeFirst 44 = .ok (.iload_n 2, 1) := by decide +kernel
theorem d_Ch_takeFirst_45 : decode b_Ch_takeFirst 45 = .ok (.aload_n 0, 1) := by decide +kernel
theorem d_Ch_takeFirst_46 : decode b_Ch_takeFirst 46 = .ok (.getfield 15, 3) := by decide +kernel
theorem d_Ch_takeFirst_49 : decode b_Ch_takeFirst 49 = .ok (.iload_n 1, 1) := by decide +kernel
theorem d_Ch_takeFirst_50 : decode b_Ch_takeFirst 50 = .ok (.iaload, 1) := by decide +kernel
theorem d_Ch_takeFirst_51 : decode b_Ch_takeFirst 51 = .ok (.invokestatic 33, 3) := by decide +kernel
theorem d_Ch_takeFirst_54 : decode b_Ch_takeFirst 54 = .ok (.iload_n 3, 1) := by decide +kernel
theorem d_Ch_takeFirst_55 : decode b_Ch_takeFirst 55 = .ok (.ireturn, 1) := by decide +kernel
theorem d_Ln_init_0 : decode b_Ln_init 0 = .ok (.aload_n 0, 1) := by decide +kernel
theorem d_Ln_init_1 : decode b_Ln_init 1 = .ok (.invokespecial 3, 3) := by decide +kernel
theorem d_Ln_init_4 : decode b_Ln_init 4 = .ok (.aload_n 0, 1) := by decide +kernel
theorem d_Ln_init_5 : decode b_Ln_init 5 = .ok (.bipush 16, 2) := by decide +kernel
theorem d_Ln_init_7 : decode b_Ln_init 7 = .ok (.newarray .int, 2) := by decide +kernel
theorem d_Ln_init_9 : decode b_Ln_init 9 = .ok (.putfield 9, 3) := by decide +kernel
theorem d_Ln_init_12 : decode b_Ln_init 12 = .ok (.return_, 1) := by decide +kernel
theorem d_Ln_empty_0 : decode b_Ln_empty 0 = .ok (.aload_n 0, 1) := by decide +kernel
theorem d_Ln_empty_1 : decode b_Ln_empty 1 = .ok (.iconst 0, 1) := by decide +kernel
theorem d_Ln_empty_2 : decode b_Ln_empty 2 = .ok (.putfield 15, 3) := by decide +kernel
theorem d_Ln_empty_5 : decode b_Ln_empty 5 = .ok (.return_, 1) := by decide +kernel
theorem d_Ln_length_0 : decode b_Ln_length 0 = .ok (.aload_n 0, 1) := by decide +kernel
theorem d_Ln_length_1 : decode b_Ln_length 1 = .ok (.getfield 15, 3) := by decide +kernel
theorem d_Ln_length_4 : decode b_Ln_length 4 = .ok (.ireturn, 1) := by decide +kernel
theorem d_Ln_memberAt_0 : decode b_Ln_memberAt 0 = .ok (.aload_n 0, 1) := by decide +kernel
theorem d_Ln_memberAt_1 : decode b_Ln_memberAt 1 = .ok (.getfield 9, 3) := by decide +kernel
theorem d_Ln_memberAt_4 : decode b_Ln_memberAt 4 = .ok (.iload_n 1, 1) := by decide +kernel
theorem d_Ln_memberAt_5 : decode b_Ln_memberAt 5 = .ok (.iaload, 1) := by decide +kernel
theorem d_Ln_memberAt_6 : decode b_Ln_memberAt 6 = .ok (.ireturn, 1) := by decide +kernel
theorem d_Ln_join_0 : decode b_Ln_join 0 = .ok (.aload_n 0, 1) := by decide +kernel
theorem d_Ln_join_1 : decode b_Ln_join 1 = .ok (.getfield 15, 3) := by decide +kernel
theorem d_Ln_join_4 : decode b_Ln_join 4 = .ok (.bipush 16, 2) := by decide +kernel
theorem d_Ln_join_6 : decode b_Ln_join 6 = .ok (.if_icmp .ge 23, 3) := by decide +kernel
theorem d_Ln_join_9 : decode b_Ln_join 9 = .ok (.aload_n 0, 1) := by decide +kernel
theorem d_Ln_join_10 : decode b_Ln_join 10 = .ok (.getfield 9, 3) := by decide +kernel
theorem d_Ln_join_13 : decode b_Ln_join 13 = .ok (.aload_n 0, 1) := by decide +kernel
theorem d_Ln_join_14 : decode b_Ln_join 14 = .ok (.getfield 15, 3) := by decide +kernel
theorem d_Ln_join_17 : decode b_Ln_join 17 = .ok (.iload_n 1, 1) := by decide +kernel
theorem d_Ln_join_18 : decode b_Ln_join 18 = .ok (.iastore, 1) := by decide +kernel
theorem d_Ln_join_19 : decode b_Ln_join 19 = .ok (.aload_n 0, 1) := by decide +kernel
theorem d_Ln_join_20 : decode b_Ln_join 20 = .ok (.dup, 1) := by decide +kernel
theorem d_Ln_join_21 : decode b_Ln_join 21 = .ok (.getfield 15, 3) := by decide +kernel
theorem d_Ln_join_24 : decode b_Ln_join 24 = .ok (.iconst 1, 1) := by decide +kernel
theorem d_Ln_join_25 : decode b_Ln_join 25 = .ok (.iadd, 1) := by decide +kernel
theorem d_Ln_join_26 : decode b_Ln_join 26 = .ok (.putfield 15, 3) := by decide +kernel
theorem d_Ln_join_29 : decode b_Ln_join 29 = .ok (.return_, 1) := by decide +kernel
theorem d_Ln_leave_0 : decode b_Ln_leave 0 = .ok (.iconst 0, 1) := by decide +kernel
theorem d_Ln_leave_1 : decode b_Ln_leave 1 = .ok (.istore_n 2, 1) := by decide +kernel
theorem d_Ln_leave_2 : decode b_Ln_leave 2 = .ok (.iconst 0, 1) := by decide +kernel
theorem d_Ln_leave_3 : decode b_Ln_leave 3 = .ok (.istore_n 3, 1) := by decide +kernel
theorem d_Ln_leave_4 : decode b_Ln_leave 4 = .ok (.iload_n 3, 1) := by decide +kernel
theorem d_Ln_leave_5 : decode b_Ln_leave 5 = .ok (.aload_n 0, 1) := by decide +kernel
theorem d_Ln_leave_6 : decode b_Ln_leave 6 = .ok (.getfield 15, 3) := by decide +kernel
theorem d_Ln_leave_9 : decode b_Ln_leave 9 = .ok (.if_icmp .ge 34, 3) := by decide +kernel
theorem d_Ln_leave_12 : decode b_Ln_leave 12 = .ok (.aload_n 0, 1) := by decide +kernel
theorem d_Ln_leave_13 : decode b_Ln_leave 13 = .ok (.getfield 9, 3) := by decide +kernel
theorem d_Ln_leave_16 : decode b_Ln_leave 16 = .ok (.iload_n 3, 1) := by decide +kernel
theorem d_Ln_leave_17 : decode b_Ln_leave 17 = .ok (.iaload, 1) := by decide +kernel
theorem d_Ln_leave_18 : decode b_Ln_leave 18 = .ok (.iload_n 1, 1) := by decide +kernel
theorem d_Ln_leave_19 : decode b_Ln_leave 19 = .ok (.if_icmp .eq 18, 3) := by decide +kernel
theorem d_Ln_leave_22 : decode b_Ln_leave 22 = .ok (.aload_n 0, 1) := by decide +kernel
theorem d_Ln_leave_23 : decode b_Ln_leave 23 = .ok (.getfield 9, 3) := by decide +kernel
theorem d_Ln_leave_26 : decode b_Ln_leave 26 = .ok (.iload_n 2, 1) := by decide +kernel
theorem d_Ln_leave_27 : decode b_Ln_leave 27 = .ok (.aload_n 0, 1) := by decide +kernel
theorem d_Ln_leave_28 : decode b_Ln_leave 28 = .ok (.getfield 9, 3) := by decide +kernel
theorem d_Ln_leave_31 : decode b_Ln_leave 31 = .ok (.iload_n 3, 1) := by decide +kernel
theorem d_Ln_leave_32 : decode b_Ln_leave 32 = .ok (.iaload, 1) := by decide +kernel
theorem d_Ln_leave_33 : decode b_Ln_leave 33 = .ok (.iastore, 1) := by decide +kernel
theorem d_Ln_leave_34 : decode b_Ln_leave 34 = .ok (.iinc 2 1, 3) := by decide +kernel
theorem d_Ln_leave_37 : decode b_Ln_leave 37 = .ok (.iinc 3 1, 3) := by decide +kernel
theorem d_Ln_leave_40 : decode b_Ln_leave 40 = .ok (.goto (-36), 3) := by decide +kernel
theorem d_Ln_leave_43 : decode b_Ln_leave 43 = .ok (.aload_n 0, 1) := by decide +kernel
theorem d_Ln_leave_44 : decode b_Ln_leave 44 = .ok (.iload_n 2, 1) := by decide +kernel
theorem d_Ln_leave_45 : decode b_Ln_leave 45 = .ok (.putfield 15, 3) := by decide +kernel
theorem d_Ln_leave_48 : decode b_Ln_leave 48 = .ok (.return_, 1) := by decide +kernel
theorem d_Ar_fill_0 : decode b_Ar_fill 0 = .ok (.iconst 0, 1) := by decide +kernel
theorem d_Ar_fill_1 : decode b_Ar_fill 1 = .ok (.istore_n 2, 1) := by decide +kernel
theorem d_Ar_fill_2 : decode b_Ar_fill 2 = .ok (.aload_n 0, 1) := by decide +kernel
theorem d_Ar_fill_3 : decode b_Ar_fill 3 = .ok (.arraylength, 1) := by decide +kernel
theorem d_Ar_fill_4 : decode b_Ar_fill 4 = .ok (.istore_n 3, 1) := by decide +kernel
theorem d_Ar_fill_5 : decode b_Ar_fill 5 = .ok (.iload_n 2, 1) := by decide +kernel
theorem d_Ar_fill_6 : decode b_Ar_fill 6 = .ok (.iload_n 3, 1) := by decide +kernel
theorem d_Ar_fill_7 : decode b_Ar_fill 7 = .ok (.if_icmp .ge 13, 3) := by decide +kernel
theorem d_Ar_fill_10 : decode b_Ar_fill 10 = .ok (.aload_n 0, 1) := by decide +kernel
theorem d_Ar_fill_11 : decode b_Ar_fill 11 = .ok (.iload_n 2, 1) := by decide +kernel
theorem d_Ar_fill_12 : decode b_Ar_fill 12 = .ok (.iload_n 1, 1) := by decide +kernel
theorem d_Ar_fill_13 : decode b_Ar_fill 13 = .ok (.iastore, 1) := by decide +kernel
theorem d_Ar_fill_14 : decode b_Ar_fill 14 = .ok (.iinc 2 1, 3) := by decide +kernel
theorem d_Ar_fill_17 : decode b_Ar_fill 17 = .ok (.goto (-12), 3) := by decide +kernel
theorem d_Ar_fill_20 : decode b_Ar_fill 20 = .ok (.return_, 1) := by decide +kernel
