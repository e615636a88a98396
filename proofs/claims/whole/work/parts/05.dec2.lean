theorem d_Dk_init_0 : decode b_Dk_init 0 = .ok (.aload_n 0, 1) := by decide +kernel
theorem d_Dk_init_1 : decode b_Dk_init 1 = .ok (.invokespecial 1, 3) := by decide +kernel
theorem d_Dk_init_4 : decode b_Dk_init 4 = .ok (.aload_n 0, 1) := by decide +kernel
theorem d_Dk_init_5 : decode b_Dk_init 5 = .ok (.new 7, 3) := by decide +kernel
theorem d_Dk_init_8 : decode b_Dk_init 8 = .ok (.dup, 1) := by decide +kernel
theorem d_Dk_init_9 : decode b_Dk_init 9 = .ok (.invokespecial 9, 3) := by decide +kernel
theorem d_Dk_init_12 : decode b_Dk_init 12 = .ok (.putfield 10, 3) := by decide +kernel
theorem d_Dk_init_15 : decode b_Dk_init 15 = .ok (.aload_n 0, 1) := by decide +kernel
theorem d_Dk_init_16 : decode b_Dk_init 16 = .ok (.new 16, 3) := by decide +kernel
theorem d_Dk_init_19 : decode b_Dk_init 19 = .ok (.dup, 1) := by decide +kernel
theorem d_Dk_init_20 : decode b_Dk_init 20 = .ok (.invokespecial 18, 3) := by decide +kernel
theorem d_Dk_init_23 : decode b_Dk_init 23 = .ok (.putfield 19, 3) := by decide +kernel
theorem d_Dk_init_26 : decode b_Dk_init 26 = .ok (.aload_n 0, 1) := by decide +kernel
theorem d_Dk_init_27 : decode b_Dk_init 27 = .ok (.new 23, 3) := by decide +kernel
theorem d_Dk_init_30 : decode b_Dk_init 30 = .ok (.dup, 1) := by decide +kernel
theorem d_Dk_init_31 : decode b_Dk_init 31 = .ok (.invokespecial 25, 3) := by decide +kernel
theorem d_Dk_init_34 : decode b_Dk_init 34 = .ok (.putfield 26, 3) := by decide +kernel
theorem d_Dk_init_37 : decode b_Dk_init 37 = .ok (.aload_n 0, 1) := by decide +kernel
theorem d_Dk_init_38 : decode b_Dk_init 38 = .ok (.bipush 16, 2) := by decide +kernel
theorem d_Dk_init_40 : decode b_Dk_init 40 = .ok (.newarray .int, 2) := by decide +kernel
theorem d_Dk_init_42 : decode b_Dk_init 42 = .ok (.putfield 30, 3) := by decide +kernel
theorem d_Dk_init_45 : decode b_Dk_init 45 = .ok (.aload_n 0, 1) := by decide +kernel
theorem d_Dk_init_46 : decode b_Dk_init 46 = .ok (.bipush 16, 2) := by decide +kernel
theorem d_Dk_init_48 : decode b_Dk_init 48 = .ok (.newarray .int, 2) := by decide +kernel
theorem d_Dk_init_50 : decode b_Dk_init 50 = .ok (.putfield 34, 3) := by decide +kernel
theorem d_Dk_init_53 : decode b_Dk_init 53 = .ok (.aload_n 0, 1) := by decide +kernel
theorem d_Dk_init_54 : decode b_Dk_init 54 = .ok (.bipush 16, 2) := by decide +kernel
theorem d_Dk_init_56 : decode b_Dk_init 56 = .ok (.newarray .int, 2) := by decide +kernel
theorem d_Dk_init_58 : decode b_Dk_init 58 = .ok (.putfield 37, 3) := by decide +kernel
theorem d_Dk_init_61 : decode b_Dk_init 61 = .ok (.aload_n 0, 1) := by decide +kernel
theorem d_Dk_init_62 : decode b_Dk_init 62 = .ok (.bipush 16, 2) := by decide +kernel
theorem d_Dk_init_64 : decode b_Dk_init 64 = .ok (.newarray .int, 2) := by decide +kernel
theorem d_Dk_init_66 : decode b_Dk_init 66 = .ok (.putfield 40, 3) := by decide +kernel
theorem d_Dk_init_69 : decode b_Dk_init 69 = .ok (.aload_n 0, 1) := by decide +kernel
theorem d_Dk_init_70 : decode b_Dk_init 70 = .ok (.invokevirtual 43, 3) := by decide +kernel
theorem d_Dk_init_73 : decode b_Dk_init 73 = .ok (.return_, 1) := by decide +kernel
theorem d_Dk_make_0 : decode b_Dk_make 0 = .ok (.iload_n 1, 1) := by decide +kernel
theorem d_Dk_make_1 : decode b_Dk_make 1 = .ok (.ifCond .lt 9, 3) := by decide +kernel
theorem d_Dk_make_4 : decode b_Dk_make 4 = .ok (.iload_n 1, 1) := by decide +kernel
theorem d_Dk_make_5 : decode b_Dk_make 5 = .ok (.bipush 8, 2) := by decide +kernel
theorem d_Dk_make_7 : decode b_Dk_make 7 = .ok (.if_icmp .le 5, 3) := by decide +kernel
theorem d_Dk_make_10 : decode b_Dk_make 10 = .ok (.iconst (-1), 1) := by decide +kernel
theorem d_Dk_make_11 : decode b_Dk_make 11 = .ok (.ireturn, 1) := by decide +kernel
theorem d_Dk_make_12 : decode b_Dk_make 12 = .ok (.aload_n 0, 1) := by decide +kernel
theorem d_Dk_make_13 : decode b_Dk_make 13 = .ok (.getfield 10, 3) := by decide +kernel
theorem d_Dk_make_16 : decode b_Dk_make 16 = .ok (.iload_n 1, 1) := by decide +kernel
theorem d_Dk_make_17 : decode b_Dk_make 17 = .ok (.invokevirtual 46, 3) := by decide +kernel
theorem d_Dk_make_20 : decode b_Dk_make 20 = .ok (.ireturn, 1) := by decide +kernel
theorem d_Dk_send_0 : decode b_Dk_send 0 = .ok (.aload_n 0, 1) := by decide +kernel
theorem d_Dk_send_1 : decode b_Dk_send 1 = .ok (.iload_n 1, 1) := by decide +kernel
theorem d_Dk_send_2 : decode b_Dk_send 2 = .ok (.invokevirtual 50, 3) := by decide +kernel
theorem d_Dk_send_5 : decode b_Dk_send 5 = .ok (.ifCond .eq 14, 3) := by decide +kernel
theorem d_Dk_send_8 : decode b_Dk_send 8 = .ok (.aload_n 0, 1) := by decide +kernel
theorem d_Dk_send_9 : decode b_Dk_send 9 = .ok (.getfield 10, 3) := by decide +kernel
theorem d_Dk_send_12 : decode b_Dk_send 12 = .ok (.iload_n 2, 1) := by decide +kernel
theorem d_Dk_send_13 : decode b_Dk_send 13 = .ok (.invokevirtual 54, 3) := by decide +kernel
theorem d_Dk_send_16 : decode b_Dk_send 16 = .ok (.ifCond .ne 5, 3) := by decide +kernel
theorem d_Dk_send_19 : decode b_Dk_send 19 = .ok (.iconst (-1), 1) := by decide +kernel
theorem d_Dk_send_20 : decode b_Dk_send 20 = .ok (.ireturn, 1) := by decide +kernel
theorem d_Dk_send_21 : decode b_Dk_send 21 = .ok (.aload_n 0, 1) := by decide +kernel
theorem d_Dk_send_22 : decode b_Dk_send 22 = .ok (.iload_n 1, 1) := by decide +kernel
theorem d_Dk_send_23 : decode b_Dk_send 23 = .ok (.invokevirtual 57, 3) := by decide +kernel
theorem d_Dk_send_26 : decode b_Dk_send 26 = .ok (.aload_n 0, 1) := by decide +kernel
theorem d_Dk_send_27 : decode b_Dk_send 27 = .ok (.iload_n 1, 1) := by decide +kernel
theorem d_Dk_send_28 : decode b_Dk_send 28 = .ok (.iload_n 2, 1) := by decide +kernel
theorem d_Dk_send_29 : decode b_Dk_send 29 = .ok (.iload_n 3, 1) := by decide +kernel
theorem d_Dk_send_30 : decode b_Dk_send 30 = .ok (.invokevirtual 61, 3) := by decide +kernel
theorem d_Dk_send_33 : decode b_Dk_send 33 = .ok (.istore 4, 2) := by decide +kernel
theorem d_Dk_send_35 : decode b_Dk_send 35 = .ok (.iload 4, 2) := by decide +kernel
theorem d_Dk_send_37 : decode b_Dk_send 37 = .ok (.iconst 2, 1) := by decide +kernel
theorem d_Dk_send_38 : decode b_Dk_send 38 = .ok (.if_icmp .ne 21, 3) := by decide +kernel
theorem d_Dk_send_41 : decode b_Dk_send 41 = .ok (.aload_n 0, 1) := by decide +kernel
theorem d_Dk_send_42 : decode b_Dk_send 42 = .ok (.getfield 19, 3) := by decide +kernel
theorem d_Dk_send_45 : decode b_Dk_send 45 = .ok (.iload_n 1, 1) := by decide +kernel
theorem d_Dk_send_46 : decode b_Dk_send 46 = .ok (.iload_n 2, 1) := by decide +kernel
theorem d_Dk_send_47 : decode b_Dk_send 47 = .ok (.iconst 0, 1) := by decide +kernel
theorem d_Dk_send_48 : decode b_Dk_send 48 = .ok (.iload_n 3, 1) := by decide +kernel
theorem d_Dk_send_49 : decode b_Dk_send 49 = .ok (.invokevirtual 65, 3) := by decide +kernel
theorem d_Dk_send_52 : decode b_Dk_send 52 = .ok (.pop, 1) := by decide +kernel
theorem d_Dk_send_53 : decode b_Dk_send 53 = .ok (.aload_n 0, 1) := by decide +kernel
theorem d_Dk_send_54 : decode b_Dk_send 54 = .ok (.iload_n 1, 1) := by decide +kernel
theorem d_Dk_send_55 : decode b_Dk_send 55 = .ok (.iconst 1, 1) := by decide +kernel
theorem d_Dk_send_56 : decode b_Dk_send 56 = .ok (.invokevirtual 69, 3) := by decide +kernel
theorem d_Dk_send_59 : decode b_Dk_send 59 = .ok (.iload 4, 2) := by decide +kernel
theorem d_Dk_send_61 : decode b_Dk_send 61 = .ok (.ireturn, 1) := by decide +kernel
theorem d_Dk_receive_0 : decode b_Dk_receive 0 = .ok (.aload_n 0, 1) := by decide +kernel
theorem d_Dk_receive_1 : decode b_Dk_receive 1 = .ok (.iload_n 1, 1) := by decide +kernel
theorem d_Dk_receive_2 : decode b_Dk_receive 2 = .ok (.invokevirtual 50, 3) := by decide +kernel
theorem d_Dk_receive_5 : decode b_Dk_receive 5 = .ok (.ifCond .eq 14, 3) := by decide +kernel
theorem d_Dk_receive_8 : decode b_Dk_receive 8 = .ok (.aload_n 0, 1) := by decide +kernel
theorem d_Dk_receive_9 : decode b_Dk_receive 9 = .ok (.getfield 10, 3) := by decide +kernel
theorem d_Dk_receive_12 : decode b_Dk_receive 12 = .ok (.iload_n 2, 1) := by decide +kernel
theorem d_Dk_receive_13 : decode b_Dk_receive 13 = .ok (.invokevirtual 54, 3) := by decide +kernel
theorem d_Dk_receive_16 : decode b_Dk_receive 16 = .ok (.ifCond .ne 5, 3) := by decide +kernel
theorem d_Dk_receive_19 : decode b_Dk_receive 19 = .ok (.iconst (-1), 1) := by decide +kernel
theorem d_Dk_receive_20 : decode b_Dk_receive 20 = .ok (.ireturn, 1) := by decide +kernel
theorem d_Dk_receive_21 : decode b_Dk_receive 21 = .ok (.aload_n 0, 1) := by decide +kernel
theorem d_Dk_receive_22 : decode b_Dk_receive 22 = .ok (.iload_n 1, 1) := by decide +kernel
theorem d_Dk_receive_23 : decode b_Dk_receive 23 = .ok (.invokevirtual 57, 3) := by decide +kernel
theorem d_Dk_receive_26 : decode b_Dk_receive 26 = .ok (.aload_n 0, 1) := by decide +kernel
theorem d_Dk_receive_27 : decode b_Dk_receive 27 = .ok (.iload_n 1, 1) := by decide +kernel
theorem d_Dk_receive_28 : decode b_Dk_receive 28 = .ok (.iload_n 2, 1) := by decide +kernel
theorem d_Dk_receive_29 : decode b_Dk_receive 29 = .ok (.invokevirtual 73, 3) := by decide +kernel
theorem d_Dk_receive_32 : decode b_Dk_receive 32 = .ok (.istore_n 3, 1) := by decide +kernel
theorem d_Dk_receive_33 : decode b_Dk_receive 33 = .ok (.iload_n 3, 1) := by decide +kernel
theorem d_Dk_receive_34 : decode b_Dk_receive 34 = .ok (.iconst 2, 1) := by decide +kernel
theorem d_Dk_receive_35 : decode b_Dk_receive 35 = .ok (.if_icmp .ne 21, 3) := by decide +kernel
theorem d_Dk_receive_38 : decode b_Dk_receive 38 = .ok (.aload_n 0, 1) := by decide +kernel
theorem d_Dk_receive_39 : decode b_Dk_receive 39 = .ok (.getfield 19, 3) := by decide +kernel
theorem d_Dk_receive_42 : decode b_Dk_receive 42 = .ok (.iload_n 1, 1) := by decide +kernel
theorem d_Dk_receive_43 : decode b_Dk_receive 43 = .ok (.iload_n 2, 1) := by decide +kernel
theorem d_Dk_receive_44 : decode b_Dk_receive 44 = .ok (.iconst 1, 1) := by decide +kernel
theorem d_Dk_receive_45 : decode b_Dk_receive 45 = .ok (.iconst 0, 1) := by decide +kernel
theorem d_Dk_receive_46 : decode b_Dk_receive 46 = .ok (.invokevirtual 65, 3) := by decide +kernel
theorem d_Dk_receive_49 : decode b_Dk_receive 49 = .ok (.pop, 1) := by decide +kernel
theorem d_Dk_receive_50 : decode b_Dk_receive 50 = .ok (.aload_n 0, 1) := by decide +kernel
theorem d_Dk_receive_51 : decode b_Dk_receive 51 = .ok (.iload_n 1, 1) := by decide +kernel
theorem d_Dk_receive_52 : decode b_Dk_receive 52 = .ok (.iconst 2, 1) := by decide +kernel
theorem d_Dk_receive_53 : decode b_Dk_receive 53 = .ok (.invokevirtual 69, 3) := by decide +kernel
theorem d_Dk_receive_56 : decode b_Dk_receive 56 = .ok (.iload_n 3, 1) := by decide +kernel
theorem d_Dk_receive_57 : decode b_Dk_receive 57 = .ok (.ireturn, 1) := by decide +kernel
theorem d_Dk_add_0 : decode b_Dk_add 0 = .ok (.aload_n 0, 1) := by decide +kernel
theorem d_Dk_add_1 : decode b_Dk_add 1 = .ok (.iload_n 1, 1) := by decide +kernel
theorem d_Dk_add_2 : decode b_Dk_add 2 = .ok (.invokevirtual 50, 3) := by decide +kernel
theorem d_Dk_add_5 : decode b_Dk_add 5 = .ok (.ifCond .eq 21, 3) := by decide +kernel
theorem d_Dk_add_8 : decode b_Dk_add 8 = .ok (.aload_n 0, 1) := by decide +kernel
theorem d_Dk_add_9 : decode b_Dk_add 9 = .ok (.getfield 10, 3) := by decide +kernel
theorem d_Dk_add_12 : decode b_Dk_add 12 = .ok (.iload_n 2, 1) := by decide +kernel
theorem d_Dk_add_13 : decode b_Dk_add 13 = .ok (.invokevirtual 54, 3) := by decide +kernel
theorem d_Dk_add_16 : decode b_Dk_add 16 = .ok (.ifCond .eq 10, 3) := by decide +kernel
theorem d_Dk_add_19 : decode b_Dk_add 19 = .ok (.iload_n 3, 1) := by decide +kernel
theorem d_Dk_add_20 : decode b_Dk_add 20 = .ok (.invokestatic 77, 3) := by decide +kernel
theorem d_Dk_add_23 : decode b_Dk_add 23 = .ok (.ifCond .ne 5, 3) := by decide +kernel
theorem d_Dk_add_26 : decode b_Dk_add 26 = .ok (.iconst (-1), 1) := by decide +kernel
theorem d_Dk_add_27 : decode b_Dk_add 27 = .ok (.ireturn, 1) := by decide +kernel
theorem d_Dk_add_28 : decode b_Dk_add 28 = .ok (.aload_n 0, 1) := by decide +kernel
theorem d_Dk_add_29 : decode b_Dk_add 29 = .ok (.getfield 19, 3) := by decide +kernel
theorem d_Dk_add_32 : decode b_Dk_add 32 = .ok (.iload_n 1, 1) := by decide +kernel
theorem d_Dk_add_33 : decode b_Dk_add 33 = .ok (.iload_n 2, 1) := by decide +kernel
theorem d_Dk_add_34 : decode b_Dk_add 34 = .ok (.iload_n 3, 1) := by decide +kernel
theorem d_Dk_add_35 : decode b_Dk_add 35 = .ok (.iload 4, 2) := by decide +kernel
theorem d_Dk_add_37 : decode b_Dk_add 37 = .ok (.invokevirtual 65, 3) := by decide +kernel
theorem d_Dk_add_40 : decode b_Dk_add 40 = .ok (.ireturn, 1) := by decide +kernel
theorem d_Dk_choose_0 : decode b_Dk_choose 0 = .ok (.aload_n 0, 1) := by decide +kernel
theorem d_Dk_choose_1 : decode b_Dk_choose 1 = .ok (.iload_n 1, 1) := by decide +kernel
theorem d_Dk_choose_2 : decode b_Dk_choose 2 = .ok (.invokevirtual 50, 3) := by decide +kernel
theorem d_Dk_choose_5 : decode b_Dk_choose 5 = .ok (.ifCond .eq 7, 3) := by decide +kernel
theorem d_Dk_choose_8 : decode b_Dk_choose 8 = .ok (.iload_n 2, 1) := by decide +kernel
theorem d_Dk_choose_9 : decode b_Dk_choose 9 = .ok (.ifCond .ge 5, 3) := by decide +kernel
theorem d_Dk_choose_12 : decode b_Dk_choose 12 = .ok (.iconst (-1), 1) := by decide +kernel
theorem d_Dk_choose_13 : decode b_Dk_choose 13 = .ok (.ireturn, 1) := by decide +kernel
theorem d_Dk_choose_14 : decode b_Dk_choose 14 = .ok (.aload_n 0, 1) := by decide +kernel
theorem d_Dk_choose_15 : decode b_Dk_choose 15 = .ok (.iload_n 1, 1) := by decide +kernel
theorem d_Dk_choose_16 : decode b_Dk_choose 16 = .ok (.invokevirtual 80, 3) := by decide +kernel
theorem d_Dk_choose_19 : decode b_Dk_choose 19 = .ok (.istore 4, 2) := by decide +kernel
theorem d_Dk_choose_21 : decode b_Dk_choose 21 = .ok (.iload 4, 2) := by decide +kernel
theorem d_Dk_choose_23 : decode b_Dk_choose 23 = .ok (.ifCond .le 18, 3) := by decide +kernel
theorem d_Dk_choose_26 : decode b_Dk_choose 26 = .ok (.aload_n 0, 1) := by decide +kernel
theorem d_Dk_choose_27 : decode b_Dk_choose 27 = .ok (.iload_n 1, 1) := by decide +kernel
theorem d_Dk_choose_28 : decode b_Dk_choose 28 = .ok (.aload_n 0, 1) := by decide +kernel
theorem d_Dk_choose_29 : decode b_Dk_choose 29 = .ok (.iload_n 1, 1) := by decide +kernel
theorem d_Dk_choose_30 : decode b_Dk_choose 30 = .ok (.iload_n 2, 1) := by decide +kernel
theorem d_Dk_choose_31 : decode b_Dk_choose 31 = .ok (.iload 4, 2) := by decide +kernel
theorem d_Dk_choose_33 : decode b_Dk_choose 33 = .ok (.irem, 1) := by decide +kernel
theorem d_Dk_choose_34 : decode b_Dk_choose 34 = .ok (.invokevirtual 83, 3) := by decide +kernel
theorem d_Dk_choose_37 : decode b_Dk_choose 37 = .ok (.invokevirtual 86, 3) := by decide +kernel
theorem d_Dk_choose_40 : decode b_Dk_choose 40 = .ok (.ireturn, 1) := by decide +kernel
theorem d_Dk_choose_41 : decode b_Dk_choose 41 = .ok (.iload_n 3, 1) := by decide +kernel
theorem d_Dk_choose_42 : decode b_Dk_choose 42 = .ok (.ifCond .eq 19, 3) := by decide +kernel
theorem d_Dk_choose_45 : decode b_Dk_choose 45 = .ok (.aload_n 0, 1) := by decide +kernel
theorem d_Dk_choose_46 : decode b_Dk_choose 46 = .ok (.iload_n 1, 1) := by decide +kernel
theorem d_Dk_choose_47 : decode b_Dk_choose 47 = .ok (.invokevirtual 57, 3) := by decide +kernel
theorem d_Dk_choose_50 : decode b_Dk_choose 50 = .ok (.aload_n 0, 1) := by decide +kernel
theorem d_Dk_choose_51 : decode b_Dk_choose 51 = .ok (.getfield 40, 3) := by decide +kernel
theorem d_Dk_choose_54 : decode b_Dk_choose 54 = .ok (.iload_n 1, 1) := by decide +kernel
theorem d_Dk_choose_55 : decode b_Dk_choose 55 = .ok (.bipush 10, 2) := by decide +kernel
theorem d_Dk_choose_57 : decode b_Dk_choose 57 = .ok (.iastore, 1) := by decide +kernel
theorem d_Dk_choose_58 : decode b_Dk_choose 58 = .ok (.bipush 10, 2) := by decide +kernel
theorem d_Dk_choose_60 : decode b_Dk_choose 60 = .ok (.ireturn, 1) := by decide +kernel
theorem d_Dk_choose_61 : decode b_Dk_choose 61 = .ok (.aload_n 0, 1) := by decide +kernel
theorem d_Dk_choose_62 : decode b_Dk_choose 62 = .ok (.getfield 40, 3) := by decide +kernel
theorem d_Dk_choose_65 : decode b_Dk_choose 65 = .ok (.iload_n 1, 1) := by decide +kernel
theorem d_Dk_choose_66 : decode b_Dk_choose 66 = .ok (.iconst (-1), 1) := by decide +kernel
theorem d_Dk_choose_67 : decode b_Dk_choose 67 = .ok (.iastore, 1) := by decide +kernel
theorem d_Dk_choose_68 : decode b_Dk_choose 68 = .ok (.aload_n 0, 1) := by decide +kernel
theorem d_Dk_choose_69 : decode b_Dk_choose 69 = .ok (.iload_n 1, 1) := by decide +kernel
theorem d_Dk_choose_70 : decode b_Dk_choose 70 = .ok (.iconst 3, 1) := by decide +kernel
theorem d_Dk_choose_71 : decode b_Dk_choose 71 = .ok (.invokevirtual 69, 3) := by decide +kernel
theorem d_Dk_choose_74 : decode b_Dk_choose 74 = .ok (.bipush 11, 2) := by decide +kernel
theorem d_Dk_choose_76 : decode b_Dk_choose 76 = .ok (.ireturn, 1) := by decide +kernel
theorem d_Dk_close_0 : decode b_Dk_close 0 = .ok (.aload_n 0, 1) := by decide +kernel
theorem d_Dk_close_1 : decode b_Dk_close 1 = .ok (.getfield 10, 3) := by decide +kernel
theorem d_Dk_close_4 : decode b_Dk_close 4 = .ok (.iload_n 1, 1) := by decide +kernel
theorem d_Dk_close_5 : decode b_Dk_close 5 = .ok (.invokevirtual 54, 3) := by decide +kernel
theorem d_Dk_close_8 : decode b_Dk_close 8 = .ok (.ifCond .ne 5, 3) := by decide +kernel
theorem d_Dk_close_11 : decode b_Dk_close 11 = .ok (.iconst (-1), 1) := by decide +kernel
theorem d_Dk_close_12 : decode b_Dk_close 12 = .ok (.ireturn, 1) := by decide +kernel
theorem d_Dk_close_13 : decode b_Dk_close 13 = .ok (.aload_n 0, 1) := by decide +kernel
theorem d_Dk_close_14 : decode b_Dk_close 14 = .ok (.getfield 10, 3) := by decide +kernel
theorem d_Dk_close_17 : decode b_Dk_close 17 = .ok (.iload_n 1, 1) := by decide +kernel
theorem d_Dk_close_18 : decode b_Dk_close 18 = .ok (.invokevirtual 89, 3) := by decide +kernel
theorem d_Dk_close_21 : decode b_Dk_close 21 = .ok (.ifCond .eq 6, 3) := by decide +kernel
theorem d_Dk_close_24 : decode b_Dk_close 24 = .ok (.bipush (-2), 2) := by decide +kernel
theorem d_Dk_close_26 : decode b_Dk_close 26 = .ok (.ireturn, 1) := by decide +kernel
theorem d_Dk_close_27 : decode b_Dk_close 27 = .ok (.aload_n 0, 1) := by decide +kernel
theorem d_Dk_close_28 : decode b_Dk_close 28 = .ok (.getfield 10, 3) := by decide +kernel
theorem d_Dk_close_31 : decode b_Dk_close 31 = .ok (.iload_n 1, 1) := by decide +kernel
theorem d_Dk_close_32 : decode b_Dk_close 32 = .ok (.invokevirtual 92, 3) := by decide +kernel
theorem d_Dk_close_35 : decode b_Dk_close 35 = .ok (.iconst 0, 1) := by decide +kernel
theorem d_Dk_close_36 : decode b_Dk_close 36 = .ok (.istore_n 2, 1) := by decide +kernel
theorem d_Dk_close_37 : decode b_Dk_close 37 = .ok (.aload_n 0, 1) := by decide +kernel
theorem d_Dk_close_38 : decode b_Dk_close 38 = .ok (.iload_n 1, 1) := by decide +kernel
theorem d_Dk_close_39 : decode b_Dk_close 39 = .ok (.iconst 2, 1) := by decide +kernel
theorem d_Dk_close_40 : decode b_Dk_close 40 = .ok (.invokevirtual 95, 3) := by decide +kernel
theorem d_Dk_close_43 : decode b_Dk_close 43 = .ok (.istore_n 3, 1) := by decide +kernel
theorem d_Dk_close_44 : decode b_Dk_close 44 = .ok (.iload_n 3, 1) := by decide +kernel
theorem d_Dk_close_45 : decode b_Dk_close 45 = .ok (.iconst (-1), 1) := by decide +kernel
theorem d_Dk_close_46 : decode b_Dk_close 46 = .ok (.if_icmp .eq 27, 3) := by decide +kernel
theorem d_Dk_close_49 : decode b_Dk_close 49 = .ok (.iload_n 2, 1) := by decide +kernel
theorem d_Dk_close_50 : decode b_Dk_close 50 = .ok (.bipush 16, 2) := by decide +kernel
theorem d_Dk_close_52 : decode b_Dk_close 52 = .ok (.if_icmp .ge 21, 3) := by decide +kernel
theorem d_Dk_close_55 : decode b_Dk_close 55 = .ok (.aload_n 0, 1) := by decide +kernel
theorem d_Dk_close_56 : decode b_Dk_close 56 = .ok (.iload_n 3, 1) := by decide +kernel
theorem d_Dk_close_57 : decode b_Dk_close 57 = .ok (.invokevirtual 98, 3) := by decide +kernel
theorem d_Dk_close_60 : decode b_Dk_close 60 = .ok (.iinc 2 1, 3) := by decide +kernel
theorem d_Dk_close_63 : decode b_Dk_close 63 = .ok (.aload_n 0, 1) := by decide +kernel
theorem d_Dk_close_64 : decode b_Dk_close 64 = .ok (.iload_n 1, 1) := by decide +kernel
theorem d_Dk_close_65 : decode b_Dk_close 65 = .ok (.iconst 2, 1) := by decide +kernel
theorem d_Dk_close_66 : decode b_Dk_close 66 = .ok (.invokevirtual 95, 3) := by decide +kernel
theorem d_Dk_close_69 : decode b_Dk_close 69 = .ok (.istore_n 3, 1) := by decide +kernel
theorem d_Dk_close_70 : decode b_Dk_close 70 = .ok (.goto (-26), 3) := by decide +kernel
theorem d_Dk_close_73 : decode b_Dk_close 73 = .ok (.iload_n 2, 1) := by decide +kernel
theorem d_Dk_close_74 : decode b_Dk_close 74 = .ok (.ireturn, 1) := by decide +kernel
theorem d_Dk_state_0 : decode b_Dk_state 0 = .ok (.iload_n 1, 1) := by decide +kernel
theorem d_Dk_state_1 : decode b_Dk_state 1 = .ok (.invokestatic 101, 3) := by decide +kernel
theorem d_Dk_state_4 : decode b_Dk_state 4 = .ok (.ifCond .eq 12, 3) := by decide +kernel
theorem d_Dk_state_7 : decode b_Dk_state 7 = .ok (.aload_n 0, 1) := by decide +kernel
theorem d_Dk_state_8 : decode b_Dk_state 8 = .ok (.getfield 30, 3) := by decide +kernel
theorem d_Dk_state_11 : decode b_Dk_state 11 = .ok (.iload_n 1, 1) := by decide +kernel
theorem d_Dk_state_12 : decode b_Dk_state 12 = .ok (.iaload, 1) := by decide +kernel
theorem d_Dk_state_13 : decode b_Dk_state 13 = .ok (.goto 4, 3) := by decide +kernel
theorem d_Dk_state_16 : decode b_Dk_state 16 = .ok (.iconst (-1), 1) := by decide +kernel
theorem d_Dk_state_17 : decode b_Dk_state 17 = .ok (.ireturn, 1) := by decide +kernel
theorem d_Dk_got_0 : decode b_Dk_got 0 = .ok (.iload_n 1, 1) := by decide +kernel
theorem d_Dk_got_1 : decode b_Dk_got 1 = .ok (.invokestatic 101, 3) := by decide +kernel
theorem d_Dk_got_4 : decode b_Dk_got 4 = .ok (.ifCond .eq 12, 3) := by decide +kernel
theorem d_Dk_got_7 : decode b_Dk_got 7 = .ok (.aload_n 0, 1) := by decide +kernel
theorem d_Dk_got_8 : decode b_Dk_got 8 = .ok (.getfield 34, 3) := by decide +kernel
theorem d_Dk_got_11 : decode b_Dk_got 11 = .ok (.iload_n 1, 1) := by decide +kernel
theorem d_Dk_got_12 : decode b_Dk_got 12 = .ok (.iaload, 1) := by decide +kernel
theorem d_Dk_got_13 : decode b_Dk_got 13 = .ok (.goto 4, 3) := by decide +kernel
theorem d_Dk_got_16 : decode b_Dk_got 16 = .ok (.iconst 0, 1) := by decide +kernel
theorem d_Dk_got_17 : decode b_Dk_got 17 = .ok (.ireturn, 1) := by decide +kernel
theorem d_Dk_last_0 : decode b_Dk_last 0 = .ok (.iload_n 1, 1) := by decide +kernel
theorem d_Dk_last_1 : decode b_Dk_last 1 = .ok (.invokestatic 101, 3) := by decide +kernel
theorem d_Dk_last_4 : decode b_Dk_last 4 = .ok (.ifCond .eq 23, 3) := by decide +kernel
theorem d_Dk_last_7 : decode b_Dk_last 7 = .ok (.aload_n 0, 1) := by decide +kernel
theorem d_Dk_last_8 : decode b_Dk_last 8 = .ok (.getfield 37, 3) := by decide +kernel
theorem d_Dk_last_11 : decode b_Dk_last 11 = .ok (.iload_n 1, 1) := by decide +kernel
theorem d_Dk_last_12 : decode b_Dk_last 12 = .ok (.iaload, 1) := by decide +kernel
theorem d_Dk_last_13 : decode b_Dk_last 13 = .ok (.iconst 2, 1) := by decide +kernel
theorem d_Dk_last_14 : decode b_Dk_last 14 = .ok (.aload_n 0, 1) := by decide +kernel
theorem d_Dk_last_15 : decode b_Dk_last 15 = .ok (.getfield 40, 3) := by decide +kernel
theorem d_Dk_last_18 : decode b_Dk_last 18 = .ok (.iload_n 1, 1) := by decide +kernel
theorem d_Dk_last_19 : decode b_Dk_last 19 = .ok (.iaload, 1) := by decide +kernel
theorem d_Dk_last_20 : decode b_Dk_last 20 = .ok (.iconst 2, 1) := by decide +kernel
theorem d_Dk_last_21 : decode b_Dk_last 21 = .ok (.iadd, 1) := by decide +kernel
theorem d_Dk_last_22 : decode b_Dk_last 22 = .ok (.imul, 1) := by decide +kernel
theorem d_Dk_last_23 : decode b_Dk_last 23 = .ok (.iadd, 1) := by decide +kernel
theorem d_Dk_last_24 : decode b_Dk_last 24 = .ok (.goto 4, 3) := by decide +kernel
theorem d_Dk_last_27 : decode b_Dk_last 27 = .ok (.iconst (-1), 1) := by decide +kernel
theorem d_Dk_last_28 : decode b_Dk_last 28 = .ok (.ireturn, 1) := by decide +kernel
theorem d_Dk_waiting_0 : decode b_Dk_waiting 0 = .ok (.aload_n 0, 1) := by decide +kernel
theorem d_Dk_waiting_1 : decode b_Dk_waiting 1 = .ok (.getfield 10, 3) := by decide +kernel
theorem d_Dk_waiting_4 : decode b_Dk_waiting 4 = .ok (.iload_n 1, 1) := by decide +kernel
theorem d_Dk_waiting_5 : decode b_Dk_waiting 5 = .ok (.invokevirtual 54, 3) := by decide +kernel
theorem d_Dk_waiting_8 : decode b_Dk_waiting 8 = .ok (.ifCond .eq 10, 3) := by decide +kernel
theorem d_Dk_waiting_11 : decode b_Dk_waiting 11 = .ok (.iload_n 2, 1) := by decide +kernel
theorem d_Dk_waiting_12 : decode b_Dk_waiting 12 = .ok (.invokestatic 77, 3) := by decide +kernel
theorem d_Dk_waiting_15 : decode b_Dk_waiting 15 = .ok (.ifCond .ne 5, 3) := by decide +kernel
theorem d_Dk_waiting_18 : decode b_Dk_waiting 18 = .ok (.iconst (-1), 1) := by decide +kernel
theorem d_Dk_waiting_19 : decode b_Dk_waiting 19 = .ok (.ireturn, 1) := by decide +kernel
theorem d_Dk_waiting_20 : decode b_Dk_waiting 20 = .ok (.aload_n 0, 1) := by decide +kernel
theorem d_Dk_waiting_21 : decode b_Dk_waiting 21 = .ok (.iload_n 1, 1) := by decide +kernel
theorem d_Dk_waiting_22 : decode b_Dk_waiting 22 = .ok (.iload_n 2, 1) := by decide +kernel
theorem d_Dk_waiting_23 : decode b_Dk_waiting 23 = .ok (.iload_n 3, 1) := by decide +kernel
theorem d_Dk_waiting_24 : decode b_Dk_waiting 24 = .ok (.invokevirtual 104, 3) := by decide +kernel
theorem d_Dk_waiting_27 : decode b_Dk_waiting 27 = .ok (.istore 4, 2) := by decide +kernel
theorem d_Dk_waiting_29 : decode b_Dk_waiting 29 = .ok (.iload 4, 2) := by decide +kernel
theorem d_Dk_waiting_31 : decode b_Dk_waiting 31 = .ok (.iconst (-1), 1) := by decide +kernel
theorem d_Dk_waiting_32 : decode b_Dk_waiting 32 = .ok (.if_icmp .ne 7, 3) := by decide +kernel
theorem d_Dk_waiting_35 : decode b_Dk_waiting 35 = .ok (.iconst (-1), 1) := by decide +kernel
theorem d_Dk_waiting_36 : decode b_Dk_waiting 36 = .ok (.goto 8, 3) := by decide +kernel
theorem d_Dk_waiting_39 : decode b_Dk_waiting 39 = .ok (.iload 4, 2) := by decide +kernel
theorem d_Dk_waiting_41 : decode b_Dk_waiting 41 = .ok (.invokestatic 107, 3) := by decide +kernel
theorem d_Dk_waiting_44 : decode b_Dk_waiting 44 = .ok (.ireturn, 1) := by decide +kernel
theorem d_Dk_channel_0 : decode b_Dk_channel 0 = .ok (.aload_n 0, 1) := by decide +kernel
theorem d_Dk_channel_1 : decode b_Dk_channel 1 = .ok (.getfield 10, 3) := by decide +kernel
theorem d_Dk_channel_4 : decode b_Dk_channel 4 = .ok (.iload_n 1, 1) := by decide +kernel
theorem d_Dk_channel_5 : decode b_Dk_channel 5 = .ok (.invokevirtual 54, 3) := by decide +kernel
theorem d_Dk_channel_8 : decode b_Dk_channel 8 = .ok (.ifCond .ne 5, 3) := by decide +kernel
theorem d_Dk_channel_11 : decode b_Dk_channel 11 = .ok (.iconst (-1), 1) := by decide +kernel
theorem d_Dk_channel_12 : decode b_Dk_channel 12 = .ok (.ireturn, 1) := by decide +kernel
theorem d_Dk_channel_13 : decode b_Dk_channel 13 = .ok (.iload_n 2, 1) := by decide +kernel
theorem d_Dk_channel_14 : decode b_Dk_channel 14 = .ok (.tableswitch 61 0 2 #[26, 35, 44], 26) := by decide +kernel
theorem d_Dk_channel_40 : decode b_Dk_channel 40 = .ok (.aload_n 0, 1) := by decide +kernel
theorem d_Dk_channel_41 : decode b_Dk_channel 41 = .ok (.getfield 10, 3) := by decide +kernel
theorem d_Dk_channel_44 : decode b_Dk_channel 44 = .ok (.iload_n 1, 1) := by decide +kernel
theorem d_Dk_channel_45 : decode b_Dk_channel 45 = .ok (.invokevirtual 110, 3) := by decide +kernel
theorem d_Dk_channel_48 : decode b_Dk_channel 48 = .ok (.ireturn, 1) := by decide +kernel
theorem d_Dk_channel_49 : decode b_Dk_channel 49 = .ok (.aload_n 0, 1) := by decide +kernel
theorem d_Dk_channel_50 : decode b_Dk_channel 50 = .ok (.getfield 10, 3) := by decide +kernel
theorem d_Dk_channel_53 : decode b_Dk_channel 53 = .ok (.iload_n 1, 1) := by decide +kernel
theorem d_Dk_channel_54 : decode b_Dk_channel 54 = .ok (.invokevirtual 113, 3) := by decide +kernel
theorem d_Dk_channel_57 : decode b_Dk_channel 57 = .ok (.ireturn, 1) := by decide +kernel
theorem d_Dk_channel_58 : decode b_Dk_channel 58 = .ok (.aload_n 0, 1) := by decide +kernel
theorem d_Dk_channel_59 : decode b_Dk_channel 59 = .ok (.getfield 10, 3) := by decide +kernel
theorem d_Dk_channel_62 : decode b_Dk_channel 62 = .ok (.iload_n 1, 1) := by decide +kernel
theorem d_Dk_channel_63 : decode b_Dk_channel 63 = .ok (.invokevirtual 89, 3) := by decide +kernel
theorem d_Dk_channel_66 : decode b_Dk_channel 66 = .ok (.ifCond .eq 7, 3) := by decide +kernel
theorem d_Dk_channel_69 : decode b_Dk_channel 69 = .ok (.iconst 1, 1) := by decide +kernel
theorem d_Dk_channel_70 : decode b_Dk_channel 70 = .ok (.goto 4, 3) := by decide +kernel
theorem d_Dk_channel_73 : decode b_Dk_channel 73 = .ok (.iconst 0, 1) := by decide +kernel
theorem d_Dk_channel_74 : decode b_Dk_channel 74 = .ok (.ireturn, 1) := by decide +kernel
theorem d_Dk_channel_75 : decode b_Dk_channel 75 = .ok (.iload_n 2, 1) := by decide +kernel
theorem d_Dk_channel_76 : decode b_Dk_channel 76 = .ok (.iconst 3, 1) := by decide +kernel
theorem d_Dk_channel_77 : decode b_Dk_channel 77 = .ok (.if_icmp .lt 23, 3) := by decide +kernel
theorem d_Dk_channel_80 : decode b_Dk_channel 80 = .ok (.iload_n 2, 1) := by decide +kernel
theorem d_Dk_channel_81 : decode b_Dk_channel 81 = .ok (.bipush 11, 2) := by decide +kernel
theorem d_Dk_channel_83 : decode b_Dk_channel 83 = .ok (.if_icmp .ge 17, 3) := by decide +kernel
theorem d_Dk_channel_86 : decode b_Dk_channel 86 = .ok (.aload_n 0, 1) := by decide +kernel
theorem d_Dk_channel_87 : decode b_Dk_channel 87 = .ok (.getfield 10, 3) := by decide +kernel
theorem d_Dk_channel_90 : decode b_Dk_channel 90 = .ok (.iload_n 1, 1) := by decide +kernel
theorem d_Dk_channel_91 : decode b_Dk_channel 91 = .ok (.iload_n 2, 1) := by decide +kernel
theorem d_Dk_channel_92 : decode b_Dk_channel 92 = .ok (.iconst 3, 1) := by decide +kernel
theorem d_Dk_channel_93 : decode b_Dk_channel 93 = .ok (.isub, 1) := by decide +kernel
theorem d_Dk_channel_94 : decode b_Dk_channel 94 = .ok (.invokevirtual 116, 3) := by decide +kernel
theorem d_Dk_channel_97 : decode b_Dk_channel 97 = .ok (.goto 4, 3) := by decide +kernel
theorem d_Dk_channel_100 : decode b_Dk_channel 100 = .ok (.iconst (-1), 1) := by decide +kernel
theorem d_Dk_channel_101 : decode b_Dk_channel 101 = .ok (.ireturn, 1) := by decide +kernel
theorem d_Dk_count_0 : decode b_Dk_count 0 = .ok (.iload_n 1, 1) := by decide +kernel
theorem d_Dk_count_1 : decode b_Dk_count 1 = .ok (.tableswitch 57 0 3 #[31, 39, 47, 52], 31) := by decide +kernel
theorem d_Dk_count_32 : decode b_Dk_count 32 = .ok (.aload_n 0, 1) := by decide +kernel
theorem d_Dk_count_33 : decode b_Dk_count 33 = .ok (.getfield 10, 3) := by decide +kernel
theorem d_Dk_count_36 : decode b_Dk_count 36 = .ok (.invokevirtual 119, 3) := by decide +kernel
theorem d_Dk_count_39 : decode b_Dk_count 39 = .ok (.ireturn, 1) := by decide +kernel
theorem d_Dk_count_40 : decode b_Dk_count 40 = .ok (.aload_n 0, 1) := by decide +kernel
theorem d_Dk_count_41 : decode b_Dk_count 41 = .ok (.getfield 26, 3) := by decide +kernel
theorem d_Dk_count_44 : decode b_Dk_count 44 = .ok (.invokevirtual 123, 3) := by decide +kernel
theorem d_Dk_count_47 : decode b_Dk_count 47 = .ok (.ireturn, 1) := by decide +kernel
theorem d_Dk_count_48 : decode b_Dk_count 48 = .ok (.aload_n 0, 1) := by decide +kernel
theorem d_Dk_count_49 : decode b_Dk_count 49 = .ok (.getfield 126, 3) := by decide +kernel
theorem d_Dk_count_52 : decode b_Dk_count 52 = .ok (.ireturn, 1) := by decide +kernel
theorem d_Dk_count_53 : decode b_Dk_count 53 = .ok (.aload_n 0, 1) := by decide +kernel
theorem d_Dk_count_54 : decode b_Dk_count 54 = .ok (.getfield 130, 3) := by decide +kernel
theorem d_Dk_count_57 : decode b_Dk_count 57 = .ok (.ireturn, 1) := by decide +kernel
theorem d_Dk_count_58 : decode b_Dk_count 58 = .ok (.iconst (-1), 1) := by decide +kernel
theorem d_Dk_count_59 : decode b_Dk_count 59 = .ok (.ireturn, 1) := by decide +kernel
theorem d_Dk_clear_0 : decode b_Dk_clear 0 = .ok (.aload_n 0, 1) := by decide +kernel
theorem d_Dk_clear_1 : decode b_Dk_clear 1 = .ok (.getfield 10, 3) := by decide +kernel
theorem d_Dk_clear_4 : decode b_Dk_clear 4 = .ok (.invokevirtual 119, 3) := by decide +kernel
theorem d_Dk_clear_7 : decode b_Dk_clear 7 = .ok (.istore_n 1, 1) := by decide +kernel
theorem d_Dk_clear_8 : decode b_Dk_clear 8 = .ok (.aload_n 0, 1) := by decide +kernel
theorem d_Dk_clear_9 : decode b_Dk_clear 9 = .ok (.invokevirtual 43, 3) := by decide +kernel
theorem d_Dk_clear_12 : decode b_Dk_clear 12 = .ok (.iload_n 1, 1) := by decide +kernel
theorem d_Dk_clear_13 : decode b_Dk_clear 13 = .ok (.ireturn, 1) := by decide +kernel
theorem d_Dk_startAfresh_0 : decode b_Dk_startAfresh 0 = .ok (.aload_n 0, 1) := by decide +kernel
theorem d_Dk_startAfresh_1 : decode b_Dk_startAfresh 1 = .ok (.getfield 10, 3) := by decide +kernel
theorem d_Dk_startAfresh_4 : decode b_Dk_startAfresh 4 = .ok (.invokevirtual 133, 3) := by decide +kernel
theorem d_Dk_startAfresh_7 : decode b_Dk_startAfresh 7 = .ok (.aload_n 0, 1) := by decide +kernel
theorem d_Dk_startAfresh_8 : decode b_Dk_startAfresh 8 = .ok (.getfield 19, 3) := by decide +kernel
theorem d_Dk_startAfresh_11 : decode b_Dk_startAfresh 11 = .ok (.invokevirtual 136, 3) := by decide +kernel
theorem d_Dk_startAfresh_14 : decode b_Dk_startAfresh 14 = .ok (.aload_n 0, 1) := by decide +kernel
theorem d_Dk_startAfresh_15 : decode b_Dk_startAfresh 15 = .ok (.getfield 26, 3) := by decide +kernel
theorem d_Dk_startAfresh_18 : decode b_Dk_startAfresh 18 = .ok (.invokevirtual 137, 3) := by decide +kernel
theorem d_Dk_startAfresh_21 : decode b_Dk_startAfresh 21 = .ok (.aload_n 0, 1) := by decide +kernel
theorem d_Dk_startAfresh_22 : decode b_Dk_startAfresh 22 = .ok (.getfield 30, 3) := by decide +kernel
theorem d_Dk_startAfresh_25 : decode b_Dk_startAfresh 25 = .ok (.iconst 0, 1) := by decide +kernel
theorem d_Dk_startAfresh_26 : decode b_Dk_startAfresh 26 = .ok (.invokestatic 140, 3) := by decide +kernel
theorem d_Dk_startAfresh_29 : decode b_Dk_startAfresh 29 = .ok (.aload_n 0, 1) := by decide +kernel
theorem d_Dk_startAfresh_30 : decode b_Dk_startAfresh 30 = .ok (.getfield 34, 3) := by decide +kernel
theorem d_Dk_startAfresh_33 : decode b_Dk_startAfresh 33 = .ok (.iconst 0, 1) := by decide +kernel
theorem d_Dk_startAfresh_34 : decode b_Dk_startAfresh 34 = .ok (.invokestatic 140, 3) := by decide +kernel
theorem d_Dk_startAfresh_37 : decode b_Dk_startAfresh 37 = .ok (.aload_n 0, 1) := by decide +kernel
theorem d_Dk_startAfresh_38 : decode b_Dk_startAfresh 38 = .ok (.getfield 37, 3) := by decide +kernel
theorem d_Dk_startAfresh_41 : decode b_Dk_startAfresh 41 = .ok (.iconst 0, 1) := by decide +kernel
theorem d_Dk_startAfresh_42 : decode b_Dk_startAfresh 42 = .ok (.invokestatic 140, 3) := by decide +kernel
theorem d_Dk_startAfresh_45 : decode b_Dk_startAfresh 45 = .ok (.aload_n 0, 1) := by decide +kernel
theorem d_Dk_startAfresh_46 : decode b_Dk_startAfresh 46 = .ok (.getfield 40, 3) := by decide +kernel
theorem d_Dk_startAfresh_49 : decode b_Dk_startAfresh 49 = .ok (.iconst (-1), 1) := by decide +kernel
theorem d_Dk_startAfresh_50 : decode b_Dk_startAfresh 50 = .ok (.invokestatic 140, 3) := by decide +kernel
theorem d_Dk_startAfresh_53 : decode b_Dk_startAfresh 53 = .ok (.aload_n 0, 1) := by decide +kernel
theorem d_Dk_startAfresh_54 : decode b_Dk_startAfresh 54 = .ok (.iconst 0, 1) := by decide +kernel
theorem d_Dk_startAfresh_55 : decode b_Dk_startAfresh 55 = .ok (.putfield 126, 3) := by decide +kernel
theorem d_Dk_startAfresh_58 : decode b_Dk_startAfresh 58 = .ok (.aload_n 0, 1) := by decide +kernel
theorem d_Dk_startAfresh_59 : decode b_Dk_startAfresh 59 = .ok (.iconst 0, 1) := by decide +kernel
theorem d_Dk_startAfresh_60 : decode b_Dk_startAfresh 60 = .ok (.putfield 130, 3) := by decide +kernel
theorem d_Dk_startAfresh_63 : decode b_Dk_startAfresh 63 = .ok (.return_, 1) := by decide +kernel
theorem d_Dk_isRoutine_0 : decode b_Dk_isRoutine 0 = .ok (.iload_n 0, 1) := by decide +kernel
theorem d_Dk_isRoutine_1 : decode b_Dk_isRoutine 1 = .ok (.ifCond .lt 13, 3) := by decide +kernel
theorem d_Dk_isRoutine_4 : decode b_Dk_isRoutine 4 = .ok (.iload_n 0, 1) := by decide +kernel
theorem d_Dk_isRoutine_5 : decode b_Dk_isRoutine 5 = .ok (.bipush 16, 2) := by decide +kernel
theorem d_Dk_isRoutine_7 : decode b_Dk_isRoutine 7 = .ok (.if_icmp .ge 7, 3) := by decide +kernel
theorem d_Dk_isRoutine_10 : decode b_Dk_isRoutine 10 = .ok (.iconst 1, 1) := by decide +kernel
theorem d_Dk_isRoutine_11 : decode b_Dk_isRoutine 11 = .ok (.goto 4, 3) := by decide +kernel
theorem d_Dk_isRoutine_14 : decode b_Dk_isRoutine 14 = .ok (.iconst 0, 1) := by decide +kernel
theorem d_Dk_isRoutine_15 : decode b_Dk_isRoutine 15 = .ok (.ireturn, 1) := by decide +kernel
theorem d_Dk_isWay_0 : decode b_Dk_isWay 0 = .ok (.iload_n 0, 1) := by decide +kernel
theorem d_Dk_isWay_1 : decode b_Dk_isWay 1 = .ok (.ifCond .eq 8, 3) := by decide +kernel
theorem d_Dk_isWay_4 : decode b_Dk_isWay 4 = .ok (.iload_n 0, 1) := by decide +kernel
theorem d_Dk_isWay_5 : decode b_Dk_isWay 5 = .ok (.iconst 1, 1) := by decide +kernel
theorem d_Dk_isWay_6 : decode b_Dk_isWay 6 = .ok (.if_icmp .ne 7, 3) := by decide +kernel
theorem d_Dk_isWay_9 : decode b_Dk_isWay 9 = .ok (.iconst 1, 1) := by decide +kernel
theorem d_Dk_isWay_10 : decode b_Dk_isWay 10 = .ok (.goto 4, 3) := by decide +kernel
theorem d_Dk_isWay_13 : decode b_Dk_isWay 13 = .ok (.iconst 0, 1) := by decide +kernel
theorem d_Dk_isWay_14 : decode b_Dk_isWay 14 = .ok (.ireturn, 1) := by decide +kernel
theorem d_Dk_isReady_0 : decode b_Dk_isReady 0 = .ok (.iload_n 1, 1) := by decide +kernel
theorem d_Dk_isReady_1 : decode b_Dk_isReady 1 = .ok (.invokestatic 101, 3) := by decide +kernel
theorem d_Dk_isReady_4 : decode b_Dk_isReady 4 = .ok (.ifCond .eq 26, 3) := by decide +kernel
theorem d_Dk_isReady_7 : decode b_Dk_isReady 7 = .ok (.aload_n 0, 1) := by decide +kernel
theorem d_Dk_isReady_8 : decode b_Dk_isReady 8 = .ok (.getfield 30, 3) := by decide +kernel
theorem d_Dk_isReady_11 : decode b_Dk_isReady 11 = .ok (.iload_n 1, 1) := by decide +kernel
theorem d_Dk_isReady_12 : decode b_Dk_isReady 12 = .ok (.iaload, 1) := by decide +kernel
theorem d_Dk_isReady_13 : decode b_Dk_isReady 13 = .ok (.ifCond .eq 13, 3) := by decide +kernel
theorem d_Dk_isReady_16 : decode b_Dk_isReady 16 = .ok (.aload_n 0, 1) := by decide +kernel
theorem d_Dk_isReady_17 : decode b_Dk_isReady 17 = .ok (.getfield 30, 3) := by decide +kernel
theorem d_Dk_isReady_20 : decode b_Dk_isReady 20 = .ok (.iload_n 1, 1) := by decide +kernel
theorem d_Dk_isReady_21 : decode b_Dk_isReady 21 = .ok (.iaload, 1) := by decide +kernel
theorem d_Dk_isReady_22 : decode b_Dk_isReady 22 = .ok (.iconst 4, 1) := by decide +kernel
theorem d_Dk_isReady_23 : decode b_Dk_isReady 23 = .ok (.if_icmp .ne 7, 3) := by decide +kernel
theorem d_Dk_isReady_26 : decode b_Dk_isReady 26 = .ok (.iconst 1, 1) := by decide +kernel
theorem d_Dk_isReady_27 : decode b_Dk_isReady 27 = .ok (.goto 4, 3) := by decide +kernel
theorem d_Dk_isReady_30 : decode b_Dk_isReady 30 = .ok (.iconst 0, 1) := by decide +kernel
theorem d_Dk_isReady_31 : decode b_Dk_isReady 31 = .ok (.ireturn, 1) := by decide +kernel
theorem d_Dk_makeReady_0 : decode b_Dk_makeReady 0 = .ok (.aload_n 0, 1) := by decide +kernel
theorem d_Dk_makeReady_1 : decode b_Dk_makeReady 1 = .ok (.getfield 30, 3) := by decide +kernel
theorem d_Dk_makeReady_4 : decode b_Dk_makeReady 4 = .ok (.iload_n 1, 1) := by decide +kernel
theorem d_Dk_makeReady_5 : decode b_Dk_makeReady 5 = .ok (.iconst 0, 1) := by decide +kernel
theorem d_Dk_makeReady_6 : decode b_Dk_makeReady 6 = .ok (.iastore, 1) := by decide +kernel
theorem d_Dk_makeReady_7 : decode b_Dk_makeReady 7 = .ok (.aload_n 0, 1) := by decide +kernel
theorem d_Dk_makeReady_8 : decode b_Dk_makeReady 8 = .ok (.getfield 19, 3) := by decide +kernel
theorem d_Dk_makeReady_11 : decode b_Dk_makeReady 11 = .ok (.iload_n 1, 1) := by decide +kernel
theorem d_Dk_makeReady_12 : decode b_Dk_makeReady 12 = .ok (.invokevirtual 146, 3) := by decide +kernel
theorem d_Dk_makeReady_15 : decode b_Dk_makeReady 15 = .ok (.return_, 1) := by decide +kernel
theorem d_Dk_startWaiting_0 : decode b_Dk_startWaiting 0 = .ok (.aload_n 0, 1) := by decide +kernel
theorem d_Dk_startWaiting_1 : decode b_Dk_startWaiting 1 = .ok (.getfield 30, 3) := by decide +kernel
theorem d_Dk_startWaiting_4 : decode b_Dk_startWaiting 4 = .ok (.iload_n 1, 1) := by decide +kernel
theorem d_Dk_startWaiting_5 : decode b_Dk_startWaiting 5 = .ok (.iload_n 2, 1) := by decide +kernel
theorem d_Dk_startWaiting_6 : decode b_Dk_startWaiting 6 = .ok (.iastore, 1) := by decide +kernel
theorem d_Dk_startWaiting_7 : decode b_Dk_startWaiting 7 = .ok (.aload_n 0, 1) := by decide +kernel
theorem d_Dk_startWaiting_8 : decode b_Dk_startWaiting 8 = .ok (.getfield 26, 3) := by decide +kernel
theorem d_Dk_startWaiting_11 : decode b_Dk_startWaiting 11 = .ok (.iload_n 1, 1) := by decide +kernel
theorem d_Dk_startWaiting_12 : decode b_Dk_startWaiting 12 = .ok (.invokevirtual 149, 3) := by decide +kernel
theorem d_Dk_startWaiting_15 : decode b_Dk_startWaiting 15 = .ok (.return_, 1) := by decide +kernel
theorem d_Dk_trySend_0 : decode b_Dk_trySend 0 = .ok (.aload_n 0, 1) := by decide +kernel
theorem d_Dk_trySend_1 : decode b_Dk_trySend 1 = .ok (.getfield 10, 3) := by decide +kernel
theorem d_Dk_trySend_4 : decode b_Dk_trySend 4 = .ok (.iload_n 2, 1) := by decide +kernel
theorem d_Dk_trySend_5 : decode b_Dk_trySend 5 = .ok (.invokevirtual 89, 3) := by decide +kernel
theorem d_Dk_trySend_8 : decode b_Dk_trySend 8 = .ok (.ifCond .eq 10, 3) := by decide +kernel
theorem d_Dk_trySend_11 : decode b_Dk_trySend 11 = .ok (.aload_n 0, 1) := by decide +kernel
theorem d_Dk_trySend_12 : decode b_Dk_trySend 12 = .ok (.iload_n 1, 1) := by decide +kernel
theorem d_Dk_trySend_13 : decode b_Dk_trySend 13 = .ok (.invokevirtual 152, 3) := by decide +kernel
theorem d_Dk_trySend_16 : decode b_Dk_trySend 16 = .ok (.iconst 3, 1) := by decide +kernel
theorem d_Dk_trySend_17 : decode b_Dk_trySend 17 = .ok (.ireturn, 1) := by decide +kernel
theorem d_Dk_trySend_18 : decode b_Dk_trySend 18 = .ok (.aload_n 0, 1) := by decide +kernel
theorem d_Dk_trySend_19 : decode b_Dk_trySend 19 = .ok (.iload_n 2, 1) := by decide +kernel
theorem d_Dk_trySend_20 : decode b_Dk_trySend 20 = .ok (.iconst 1, 1) := by decide +kernel
theorem d_Dk_trySend_21 : decode b_Dk_trySend 21 = .ok (.invokevirtual 95, 3) := by decide +kernel
theorem d_Dk_trySend_24 : decode b_Dk_trySend 24 = .ok (.istore 4, 2) := by decide +kernel
theorem d_Dk_trySend_26 : decode b_Dk_trySend 26 = .ok (.iload 4, 2) := by decide +kernel
theorem d_Dk_trySend_28 : decode b_Dk_trySend 28 = .ok (.iconst (-1), 1) := by decide +kernel
theorem d_Dk_trySend_29 : decode b_Dk_trySend 29 = .ok (.if_icmp .eq 32, 3) := by decide +kernel
theorem d_Dk_trySend_32 : decode b_Dk_trySend 32 = .ok (.aload_n 0, 1) := by decide +kernel
theorem d_Dk_trySend_33 : decode b_Dk_trySend 33 = .ok (.dup, 1) := by decide +kernel
theorem d_Dk_trySend_34 : decode b_Dk_trySend 34 = .ok (.getfield 126, 3) := by decide +kernel
theorem d_Dk_trySend_37 : decode b_Dk_trySend 37 = .ok (.iconst 1, 1) := by decide +kernel
theorem d_Dk_trySend_38 : decode b_Dk_trySend 38 = .ok (.iadd, 1) := by decide +kernel
theorem d_Dk_trySend_39 : decode b_Dk_trySend 39 = .ok (.putfield 126, 3) := by decide +kernel
theorem d_Dk_trySend_42 : decode b_Dk_trySend 42 = .ok (.aload_n 0, 1) := by decide +kernel
theorem d_Dk_trySend_43 : decode b_Dk_trySend 43 = .ok (.iload 4, 2) := by decide +kernel
theorem d_Dk_trySend_45 : decode b_Dk_trySend 45 = .ok (.invokevirtual 155, 3) := by decide +kernel
theorem d_Dk_trySend_48 : decode b_Dk_trySend 48 = .ok (.aload_n 0, 1) := by decide +kernel
theorem d_Dk_trySend_49 : decode b_Dk_trySend 49 = .ok (.iload 4, 2) := by decide +kernel
theorem d_Dk_trySend_51 : decode b_Dk_trySend 51 = .ok (.invokestatic 107, 3) := by decide +kernel
theorem d_Dk_trySend_54 : decode b_Dk_trySend 54 = .ok (.iload_n 3, 1) := by decide +kernel
theorem d_Dk_trySend_55 : decode b_Dk_trySend 55 = .ok (.iconst 1, 1) := by decide +kernel
theorem d_Dk_trySend_56 : decode b_Dk_trySend 56 = .ok (.invokevirtual 158, 3) := by decide +kernel
theorem d_Dk_trySend_59 : decode b_Dk_trySend 59 = .ok (.iconst 1, 1) := by decide +kernel
theorem d_Dk_trySend_60 : decode b_Dk_trySend 60 = .ok (.ireturn, 1) := by decide +kernel
theorem d_Dk_trySend_61 : decode b_Dk_trySend 61 = .ok (.aload_n 0, 1) := by decide +kernel
theorem d_Dk_trySend_62 : decode b_Dk_trySend 62 = .ok (.getfield 10, 3) := by decide +kernel
theorem d_Dk_trySend_65 : decode b_Dk_trySend 65 = .ok (.iload_n 2, 1) := by decide +kernel
theorem d_Dk_trySend_66 : decode b_Dk_trySend 66 = .ok (.iload_n 3, 1) := by decide +kernel
theorem d_Dk_trySend_67 : decode b_Dk_trySend 67 = .ok (.invokevirtual 162, 3) := by decide +kernel
theorem d_Dk_trySend_70 : decode b_Dk_trySend 70 = .ok (.ifCond .eq 7, 3) := by decide +kernel
theorem d_Dk_trySend_73 : decode b_Dk_trySend 73 = .ok (.iconst 1, 1) := by decide +kernel
theorem d_Dk_trySend_74 : decode b_Dk_trySend 74 = .ok (.goto 4, 3) := by decide +kernel
theorem d_Dk_trySend_77 : decode b_Dk_trySend 77 = .ok (.iconst 2, 1) := by decide +kernel
theorem d_Dk_trySend_78 : decode b_Dk_trySend 78 = .ok (.ireturn, 1) := by decide +kernel
theorem d_Dk_tryReceive_0 : decode b_Dk_tryReceive 0 = .ok (.aload_n 0, 1) := by decide +kernel
theorem d_Dk_tryReceive_1 : decode b_Dk_tryReceive 1 = .ok (.iload_n 2, 1) := by decide +kernel
theorem d_Dk_tryReceive_2 : decode b_Dk_tryReceive 2 = .ok (.iconst 0, 1) := by decide +kernel
theorem d_Dk_tryReceive_3 : decode b_Dk_tryReceive 3 = .ok (.invokevirtual 95, 3) := by decide +kernel
theorem d_Dk_tryReceive_6 : decode b_Dk_tryReceive 6 = .ok (.istore_n 3, 1) := by decide +kernel
theorem d_Dk_tryReceive_7 : decode b_Dk_tryReceive 7 = .ok (.aload_n 0, 1) := by decide +kernel
theorem d_Dk_tryReceive_8 : decode b_Dk_tryReceive 8 = .ok (.getfield 10, 3) := by decide +kernel
theorem d_Dk_tryReceive_11 : decode b_Dk_tryReceive 11 = .ok (.iload_n 2, 1) := by decide +kernel
theorem d_Dk_tryReceive_12 : decode b_Dk_tryReceive 12 = .ok (.invokevirtual 110, 3) := by decide +kernel
theorem d_Dk_tryReceive_15 : decode b_Dk_tryReceive 15 = .ok (.ifCond .le 38, 3) := by decide +kernel
theorem d_Dk_tryReceive_18 : decode b_Dk_tryReceive 18 = .ok (.aload_n 0, 1) := by decide +kernel
theorem d_Dk_tryReceive_19 : decode b_Dk_tryReceive 19 = .ok (.iload_n 1, 1) := by decide +kernel
theorem d_Dk_tryReceive_20 : decode b_Dk_tryReceive 20 = .ok (.aload_n 0, 1) := by decide +kernel
theorem d_Dk_tryReceive_21 : decode b_Dk_tryReceive 21 = .ok (.getfield 10, 3) := by decide +kernel
theorem d_Dk_tryReceive_24 : decode b_Dk_tryReceive 24 = .ok (.iload_n 2, 1) := by decide +kernel
theorem d_Dk_tryReceive_25 : decode b_Dk_tryReceive 25 = .ok (.invokevirtual 166, 3) := by decide +kernel
theorem d_Dk_tryReceive_28 : decode b_Dk_tryReceive 28 = .ok (.iconst 1, 1) := by decide +kernel
theorem d_Dk_tryReceive_29 : decode b_Dk_tryReceive 29 = .ok (.invokevirtual 158, 3) := by decide +kernel
theorem d_Dk_tryReceive_32 : decode b_Dk_tryReceive 32 = .ok (.iload_n 3, 1) := by decide +kernel
theorem d_Dk_tryReceive_33 : decode b_Dk_tryReceive 33 = .ok (.iconst (-1), 1) := by decide +kernel
theorem d_Dk_tryReceive_34 : decode b_Dk_tryReceive 34 = .ok (.if_icmp .eq 17, 3) := by decide +kernel
theorem d_Dk_tryReceive_37 : decode b_Dk_tryReceive 37 = .ok (.aload_n 0, 1) := by decide +kernel
theorem d_Dk_tryReceive_38 : decode b_Dk_tryReceive 38 = .ok (.getfield 10, 3) := by decide +kernel
theorem d_Dk_tryReceive_41 : decode b_Dk_tryReceive 41 = .ok (.iload_n 2, 1) := by decide +kernel
theorem d_Dk_tryReceive_42 : decode b_Dk_tryReceive 42 = .ok (.aload_n 0, 1) := by decide +kernel
theorem d_Dk_tryReceive_43 : decode b_Dk_tryReceive 43 = .ok (.iload_n 3, 1) := by decide +kernel
theorem d_Dk_tryReceive_44 : decode b_Dk_tryReceive 44 = .ok (.invokevirtual 169, 3) := by decide +kernel
theorem d_Dk_tryReceive_47 : decode b_Dk_tryReceive 47 = .ok (.invokevirtual 162, 3) := by decide +kernel
theorem d_Dk_tryReceive_50 : decode b_Dk_tryReceive 50 = .ok (.pop, 1) := by decide +kernel
theorem d_Dk_tryReceive_51 : decode b_Dk_tryReceive 51 = .ok (.iconst 1, 1) := by decide +kernel
theorem d_Dk_tryReceive_52 : decode b_Dk_tryReceive 52 = .ok (.ireturn, 1) := by decide +kernel
theorem d_Dk_tryReceive_53 : decode b_Dk_tryReceive 53 = .ok (.iload_n 3, 1) := by decide +kernel
theorem d_Dk_tryReceive_54 : decode b_Dk_tryReceive 54 = .ok (.iconst (-1), 1) := by decide +kernel
theorem d_Dk_tryReceive_55 : decode b_Dk_tryReceive 55 = .ok (.if_icmp .eq 16, 3) := by decide +kernel
theorem d_Dk_tryReceive_58 : decode b_Dk_tryReceive 58 = .ok (.aload_n 0, 1) := by decide +kernel
theorem d_Dk_tryReceive_59 : decode b_Dk_tryReceive 59 = .ok (.iload_n 1, 1) := by decide +kernel
theorem d_Dk_tryReceive_60 : decode b_Dk_tryReceive 60 = .ok (.aload_n 0, 1) := by decide +kernel
theorem d_Dk_tryReceive_61 : decode b_Dk_tryReceive 61 = .ok (.iload_n 3, 1) := by decide +kernel
theorem d_Dk_tryReceive_62 : decode b_Dk_tryReceive 62 = .ok (.invokevirtual 169, 3) := by decide +kernel
theorem d_Dk_tryReceive_65 : decode b_Dk_tryReceive 65 = .ok (.iconst 1, 1) := by decide +kernel
theorem d_Dk_tryReceive_66 : decode b_Dk_tryReceive 66 = .ok (.invokevirtual 158, 3) := by decide +kernel
theorem d_Dk_tryReceive_69 : decode b_Dk_tryReceive 69 = .ok (.iconst 1, 1) := by decide +kernel
theorem d_Dk_tryReceive_70 : decode b_Dk_tryReceive 70 = .ok (.ireturn, 1) := by decide +kernel
theorem d_Dk_tryReceive_71 : decode b_Dk_tryReceive 71 = .ok (.aload_n 0, 1) := by decide +kernel
theorem d_Dk_tryReceive_72 : decode b_Dk_tryReceive 72 = .ok (.getfield 10, 3) := by decide +kernel
theorem d_Dk_tryReceive_75 : decode b_Dk_tryReceive 75 = .ok (.iload_n 2, 1) := by decide +kernel
theorem d_Dk_tryReceive_76 : decode b_Dk_tryReceive 76 = .ok (.invokevirtual 89, 3) := by decide +kernel
theorem d_Dk_tryReceive_79 : decode b_Dk_tryReceive 79 = .ok (.ifCond .eq 12, 3) := by decide +kernel
theorem d_Dk_tryReceive_82 : decode b_Dk_tryReceive 82 = .ok (.aload_n 0, 1) := by decide +kernel
theorem d_Dk_tryReceive_83 : decode b_Dk_tryReceive 83 = .ok (.iload_n 1, 1) := by decide +kernel
theorem d_Dk_tryReceive_84 : decode b_Dk_tryReceive 84 = .ok (.iconst 0, 1) := by decide +kernel
theorem d_Dk_tryReceive_85 : decode b_Dk_tryReceive 85 = .ok (.iconst 0, 1) := by decide +kernel
theorem d_Dk_tryReceive_86 : decode b_Dk_tryReceive 86 = .ok (.invokevirtual 158, 3) := by decide +kernel
theorem d_Dk_tryReceive_89 : decode b_Dk_tryReceive 89 = .ok (.iconst 1, 1) := by decide +kernel
theorem d_Dk_tryReceive_90 : decode b_Dk_tryReceive 90 = .ok (.ireturn, 1) := by decide +kernel
theorem d_Dk_tryReceive_91 : decode b_Dk_tryReceive 91 = .ok (.iconst 2, 1) := by decide +kernel
theorem d_Dk_tryReceive_92 : decode b_Dk_tryReceive 92 = .ok (.ireturn, 1) := by decide +kernel
theorem d_Dk_takeFromSender_0 : decode b_Dk_takeFromSender 0 = .ok (.aload_n 0, 1) := by decide +kernel
theorem d_Dk_takeFromSender_1 : decode b_Dk_takeFromSender 1 = .ok (.getfield 19, 3) := by decide +kernel
theorem d_Dk_takeFromSender_4 : decode b_Dk_takeFromSender 4 = .ok (.iload_n 1, 1) := by decide +kernel
theorem d_Dk_takeFromSender_5 : decode b_Dk_takeFromSender 5 = .ok (.invokevirtual 172, 3) := by decide +kernel
theorem d_Dk_takeFromSender_8 : decode b_Dk_takeFromSender 8 = .ok (.istore_n 2, 1) := by decide +kernel
theorem d_Dk_takeFromSender_9 : decode b_Dk_takeFromSender 9 = .ok (.aload_n 0, 1) := by decide +kernel
theorem d_Dk_takeFromSender_10 : decode b_Dk_takeFromSender 10 = .ok (.dup, 1) := by decide +kernel
theorem d_Dk_takeFromSender_11 : decode b_Dk_takeFromSender 11 = .ok (.getfield 126, 3) := by decide +kernel
theorem d_Dk_takeFromSender_14 : decode b_Dk_takeFromSender 14 = .ok (.iconst 1, 1) := by decide +kernel
theorem d_Dk_takeFromSender_15 : decode b_Dk_takeFromSender 15 = .ok (.iadd, 1) := by decide +kernel
theorem d_Dk_takeFromSender_16 : decode b_Dk_takeFromSender 16 = .ok (.putfield 126, 3) := by decide +kernel
theorem d_Dk_takeFromSender_19 : decode b_Dk_takeFromSender 19 = .ok (.aload_n 0, 1) := by decide +kernel
theorem d_Dk_takeFromSender_20 : decode b_Dk_takeFromSender 20 = .ok (.iload_n 1, 1) := by decide +kernel
theorem d_Dk_takeFromSender_21 : decode b_Dk_takeFromSender 21 = .ok (.invokevirtual 155, 3) := by decide +kernel
theorem d_Dk_takeFromSender_24 : decode b_Dk_takeFromSender 24 = .ok (.iload_n 2, 1) := by decide +kernel
theorem d_Dk_takeFromSender_25 : decode b_Dk_takeFromSender 25 = .ok (.ireturn, 1) := by decide +kernel
theorem d_Dk_hand_0 : decode b_Dk_hand 0 = .ok (.aload_n 0, 1) := by decide +kernel
theorem d_Dk_hand_1 : decode b_Dk_hand 1 = .ok (.getfield 34, 3) := by decide +kernel
theorem d_Dk_hand_4 : decode b_Dk_hand 4 = .ok (.iload_n 1, 1) := by decide +kernel
theorem d_Dk_hand_5 : decode b_Dk_hand 5 = .ok (.iload_n 2, 1) := by decide +kernel
theorem d_Dk_hand_6 : decode b_Dk_hand 6 = .ok (.iastore, 1) := by decide +kernel
theorem d_Dk_hand_7 : decode b_Dk_hand 7 = .ok (.aload_n 0, 1) := by decide +kernel
theorem d_Dk_hand_8 : decode b_Dk_hand 8 = .ok (.getfield 37, 3) := by decide +kernel
theorem d_Dk_hand_11 : decode b_Dk_hand 11 = .ok (.iload_n 1, 1) := by decide +kernel
theorem d_Dk_hand_12 : decode b_Dk_hand 12 = .ok (.iload_n 3, 1) := by decide +kernel
theorem d_Dk_hand_13 : decode b_Dk_hand 13 = .ok (.iastore, 1) := by decide +kernel
theorem d_Dk_hand_14 : decode b_Dk_hand 14 = .ok (.return_, 1) := by decide +kernel
theorem d_Dk_sufferFault_0 : decode b_Dk_sufferFault 0 = .ok (.aload_n 0, 1) := by decide +kernel
theorem d_Dk_sufferFault_1 : decode b_Dk_sufferFault 1 = .ok (.getfield 30, 3) := by decide +kernel
theorem d_Dk_sufferFault_4 : decode b_Dk_sufferFault 4 = .ok (.iload_n 1, 1) := by decide +kernel
theorem d_Dk_sufferFault_5 : decode b_Dk_sufferFault 5 = .ok (.iconst 4, 1) := by decide +kernel
theorem d_Dk_sufferFault_6 : decode b_Dk_sufferFault 6 = .ok (.iastore, 1) := by decide +kernel
theorem d_Dk_sufferFault_7 : decode b_Dk_sufferFault 7 = .ok (.aload_n 0, 1) := by decide +kernel
theorem d_Dk_sufferFault_8 : decode b_Dk_sufferFault 8 = .ok (.dup, 1) := by decide +kernel
theorem d_Dk_sufferFault_9 : decode b_Dk_sufferFault 9 = .ok (.getfield 130, 3) := by decide +kernel
theorem d_Dk_sufferFault_12 : decode b_Dk_sufferFault 12 = .ok (.iconst 1, 1) := by decide +kernel
theorem d_Dk_sufferFault_13 : decode b_Dk_sufferFault 13 = .ok (.iadd, 1) := by decide +kernel
theorem d_Dk_sufferFault_14 : decode b_Dk_sufferFault 14 = .ok (.putfield 130, 3) := by decide +kernel
theorem d_Dk_sufferFault_17 : decode b_Dk_sufferFault 17 = .ok (.return_, 1) := by decide +kernel
theorem d_Dk_endWait_0 : decode b_Dk_endWait 0 = .ok (.iload_n 1, 1) := by decide +kernel
theorem d_Dk_endWait_1 : decode b_Dk_endWait 1 = .ok (.invokestatic 107, 3) := by decide +kernel
theorem d_Dk_endWait_4 : decode b_Dk_endWait 4 = .ok (.istore_n 2, 1) := by decide +kernel
theorem d_Dk_endWait_5 : decode b_Dk_endWait 5 = .ok (.aload_n 0, 1) := by decide +kernel
theorem d_Dk_endWait_6 : decode b_Dk_endWait 6 = .ok (.getfield 30, 3) := by decide +kernel
theorem d_Dk_endWait_9 : decode b_Dk_endWait 9 = .ok (.iload_n 2, 1) := by decide +kernel
theorem d_Dk_endWait_10 : decode b_Dk_endWait 10 = .ok (.iaload, 1) := by decide +kernel
theorem d_Dk_endWait_11 : decode b_Dk_endWait 11 = .ok (.iconst 3, 1) := by decide +kernel
theorem d_Dk_endWait_12 : decode b_Dk_endWait 12 = .ok (.if_icmp .ne 13, 3) := by decide +kernel
theorem d_Dk_endWait_15 : decode b_Dk_endWait 15 = .ok (.aload_n 0, 1) := by decide +kernel
theorem d_Dk_endWait_16 : decode b_Dk_endWait 16 = .ok (.getfield 40, 3) := by decide +kernel
theorem d_Dk_endWait_19 : decode b_Dk_endWait 19 = .ok (.iload_n 2, 1) := by decide +kernel
theorem d_Dk_endWait_20 : decode b_Dk_endWait 20 = .ok (.iload_n 1, 1) := by decide +kernel
theorem d_Dk_endWait_21 : decode b_Dk_endWait 21 = .ok (.invokestatic 174, 3) := by decide +kernel
theorem d_Dk_endWait_24 : decode b_Dk_endWait 24 = .ok (.iastore, 1) := by decide +kernel
theorem d_Dk_endWait_25 : decode b_Dk_endWait 25 = .ok (.aload_n 0, 1) := by decide +kernel
theorem d_Dk_endWait_26 : decode b_Dk_endWait 26 = .ok (.getfield 26, 3) := by decide +kernel
theorem d_Dk_endWait_29 : decode b_Dk_endWait 29 = .ok (.iload_n 2, 1) := by decide +kernel
theorem d_Dk_endWait_30 : decode b_Dk_endWait 30 = .ok (.invokevirtual 177, 3) := by decide +kernel
theorem d_Dk_endWait_33 : decode b_Dk_endWait 33 = .ok (.aload_n 0, 1) := by decide +kernel
theorem d_Dk_endWait_34 : decode b_Dk_endWait 34 = .ok (.iload_n 2, 1) := by decide +kernel
theorem d_Dk_endWait_35 : decode b_Dk_endWait 35 = .ok (.invokevirtual 57, 3) := by decide +kernel
theorem d_Dk_endWait_38 : decode b_Dk_endWait 38 = .ok (.return_, 1) := by decide +kernel
theorem d_Dk_wakeAtShutChannel_0 : decode b_Dk_wakeAtShutChannel 0 = .ok (.iload_n 1, 1) := by decide +kernel
theorem d_Dk_wakeAtShutChannel_1 : decode b_Dk_wakeAtShutChannel 1 = .ok (.invokestatic 107, 3) := by decide +kernel
theorem d_Dk_wakeAtShutChannel_4 : decode b_Dk_wakeAtShutChannel 4 = .ok (.istore_n 2, 1) := by decide +kernel
theorem d_Dk_wakeAtShutChannel_5 : decode b_Dk_wakeAtShutChannel 5 = .ok (.aload_n 0, 1) := by decide +kernel
theorem d_Dk_wakeAtShutChannel_6 : decode b_Dk_wakeAtShutChannel 6 = .ok (.getfield 19, 3) := by decide +kernel
theorem d_Dk_wakeAtShutChannel_9 : decode b_Dk_wakeAtShutChannel 9 = .ok (.iload_n 1, 1) := by decide +kernel
theorem d_Dk_wakeAtShutChannel_10 : decode b_Dk_wakeAtShutChannel 10 = .ok (.invokevirtual 180, 3) := by decide +kernel
theorem d_Dk_wakeAtShutChannel_13 : decode b_Dk_wakeAtShutChannel 13 = .ok (.istore_n 3, 1) := by decide +kernel
theorem d_Dk_wakeAtShutChannel_14 : decode b_Dk_wakeAtShutChannel 14 = .ok (.aload_n 0, 1) := by decide +kernel
theorem d_Dk_wakeAtShutChannel_15 : decode b_Dk_wakeAtShutChannel 15 = .ok (.iload_n 1, 1) := by decide +kernel
theorem d_Dk_wakeAtShutChannel_16 : decode b_Dk_wakeAtShutChannel 16 = .ok (.invokevirtual 155, 3) := by decide +kernel
theorem d_Dk_wakeAtShutChannel_19 : decode b_Dk_wakeAtShutChannel 19 = .ok (.iload_n 3, 1) := by decide +kernel
theorem d_Dk_wakeAtShutChannel_20 : decode b_Dk_wakeAtShutChannel 20 = .ok (.ifCond .ne 11, 3) := by decide +kernel
theorem d_Dk_wakeAtShutChannel_23 : decode b_Dk_wakeAtShutChannel 23 = .ok (.aload_n 0, 1) := by decide +kernel
theorem d_Dk_wakeAtShutChannel_24 : decode b_Dk_wakeAtShutChannel 24 = .ok (.iload_n 2, 1) := by decide +kernel
theorem d_Dk_wakeAtShutChannel_25 : decode b_Dk_wakeAtShutChannel 25 = .ok (.invokevirtual 152, 3) := by decide +kernel
theorem d_Dk_wakeAtShutChannel_28 : decode b_Dk_wakeAtShutChannel 28 = .ok (.goto 10, 3) := by decide +kernel
theorem d_Dk_wakeAtShutChannel_31 : decode b_Dk_wakeAtShutChannel 31 = .ok (.aload_n 0, 1) := by decide +kernel
theorem d_Dk_wakeAtShutChannel_32 : decode b_Dk_wakeAtShutChannel 32 = .ok (.iload_n 2, 1) := by decide +kernel
theorem d_Dk_wakeAtShutChannel_33 : decode b_Dk_wakeAtShutChannel 33 = .ok (.iconst 0, 1) := by decide +kernel
theorem d_Dk_wakeAtShutChannel_34 : decode b_Dk_wakeAtShutChannel 34 = .ok (.iconst 0, 1) := by decide +kernel
theorem d_Dk_wakeAtShutChannel_35 : decode b_Dk_wakeAtShutChannel 35 = .ok (.invokevirtual 158, 3) := by decide +kernel
theorem d_Dk_wakeAtShutChannel_38 : decode b_Dk_wakeAtShutChannel 38 = .ok (.return_, 1) := by decide +kernel
theorem d_Dk_doCase_0 : decode b_Dk_doCase 0 = .ok (.iload_n 2, 1) := by decide +kernel
theorem d_Dk_doCase_1 : decode b_Dk_doCase 1 = .ok (.iconst (-1), 1) := by decide +kernel
theorem d_Dk_doCase_2 : decode b_Dk_doCase 2 = .ok (.if_icmp .ne 5, 3) := by decide +kernel
theorem d_Dk_doCase_5 : decode b_Dk_doCase 5 = .ok (.iconst (-1), 1) := by decide +kernel
theorem d_Dk_doCase_6 : decode b_Dk_doCase 6 = .ok (.ireturn, 1) := by decide +kernel
theorem d_Dk_doCase_7 : decode b_Dk_doCase 7 = .ok (.aload_n 0, 1) := by decide +kernel
theorem d_Dk_doCase_8 : decode b_Dk_doCase 8 = .ok (.getfield 19, 3) := by decide +kernel
theorem d_Dk_doCase_11 : decode b_Dk_doCase 11 = .ok (.iload_n 2, 1) := by decide +kernel
theorem d_Dk_doCase_12 : decode b_Dk_doCase 12 = .ok (.invokevirtual 183, 3) := by decide +kernel
theorem d_Dk_doCase_15 : decode b_Dk_doCase 15 = .ok (.istore_n 3, 1) := by decide +kernel
theorem d_Dk_doCase_16 : decode b_Dk_doCase 16 = .ok (.aload_n 0, 1) := by decide +kernel
theorem d_Dk_doCase_17 : decode b_Dk_doCase 17 = .ok (.getfield 19, 3) := by decide +kernel
theorem d_Dk_doCase_20 : decode b_Dk_doCase 20 = .ok (.iload_n 2, 1) := by decide +kernel
theorem d_Dk_doCase_21 : decode b_Dk_doCase 21 = .ok (.invokevirtual 180, 3) := by decide +kernel
theorem d_Dk_doCase_24 : decode b_Dk_doCase 24 = .ok (.istore 4, 2) := by decide +kernel
theorem d_Dk_doCase_26 : decode b_Dk_doCase 26 = .ok (.aload_n 0, 1) := by decide +kernel
theorem d_Dk_doCase_27 : decode b_Dk_doCase 27 = .ok (.getfield 19, 3) := by decide +kernel
theorem d_Dk_doCase_30 : decode b_Dk_doCase 30 = .ok (.iload_n 2, 1) := by decide +kernel
theorem d_Dk_doCase_31 : decode b_Dk_doCase 31 = .ok (.invokevirtual 172, 3) := by decide +kernel
theorem d_Dk_doCase_34 : decode b_Dk_doCase 34 = .ok (.istore 5, 2) := by decide +kernel
theorem d_Dk_doCase_36 : decode b_Dk_doCase 36 = .ok (.aload_n 0, 1) := by decide +kernel
theorem d_Dk_doCase_37 : decode b_Dk_doCase 37 = .ok (.iload_n 1, 1) := by decide +kernel
theorem d_Dk_doCase_38 : decode b_Dk_doCase 38 = .ok (.invokevirtual 57, 3) := by decide +kernel
theorem d_Dk_doCase_41 : decode b_Dk_doCase 41 = .ok (.aload_n 0, 1) := by decide +kernel
theorem d_Dk_doCase_42 : decode b_Dk_doCase 42 = .ok (.getfield 40, 3) := by decide +kernel
theorem d_Dk_doCase_45 : decode b_Dk_doCase 45 = .ok (.iload_n 1, 1) := by decide +kernel
theorem d_Dk_doCase_46 : decode b_Dk_doCase 46 = .ok (.iload_n 2, 1) := by decide +kernel
theorem d_Dk_doCase_47 : decode b_Dk_doCase 47 = .ok (.invokestatic 174, 3) := by decide +kernel
theorem d_Dk_doCase_50 : decode b_Dk_doCase 50 = .ok (.iastore, 1) := by decide +kernel
theorem d_Dk_doCase_51 : decode b_Dk_doCase 51 = .ok (.iload 4, 2) := by decide +kernel
theorem d_Dk_doCase_53 : decode b_Dk_doCase 53 = .ok (.ifCond .ne 14, 3) := by decide +kernel
theorem d_Dk_doCase_56 : decode b_Dk_doCase 56 = .ok (.aload_n 0, 1) := by decide +kernel
theorem d_Dk_doCase_57 : decode b_Dk_doCase 57 = .ok (.iload_n 1, 1) := by decide +kernel
theorem d_Dk_doCase_58 : decode b_Dk_doCase 58 = .ok (.iload_n 3, 1) := by decide +kernel
theorem d_Dk_doCase_59 : decode b_Dk_doCase 59 = .ok (.iload 5, 2) := by decide +kernel
theorem d_Dk_doCase_61 : decode b_Dk_doCase 61 = .ok (.invokevirtual 61, 3) := by decide +kernel
theorem d_Dk_doCase_64 : decode b_Dk_doCase 64 = .ok (.goto 9, 3) := by decide +kernel
theorem d_Dk_doCase_67 : decode b_Dk_doCase 67 = .ok (.aload_n 0, 1) := by decide +kernel
theorem d_Dk_doCase_68 : decode b_Dk_doCase 68 = .ok (.iload_n 1, 1) := by decide +kernel
theorem d_Dk_doCase_69 : decode b_Dk_doCase 69 = .ok (.iload_n 3, 1) := by decide +kernel
theorem d_Dk_doCase_70 : decode b_Dk_doCase 70 = .ok (.invokevirtual 73, 3) := by decide +kernel
theorem d_Dk_doCase_73 : decode b_Dk_doCase 73 = .ok (.istore 6, 2) := by decide +kernel
theorem d_Dk_doCase_75 : decode b_Dk_doCase 75 = .ok (.iload 6, 2) := by decide +kernel
theorem d_Dk_doCase_77 : decode b_Dk_doCase 77 = .ok (.iconst 3, 1) := by decide +kernel
theorem d_Dk_doCase_78 : decode b_Dk_doCase 78 = .ok (.if_icmp .ne 8, 3) := by decide +kernel
theorem d_Dk_doCase_81 : decode b_Dk_doCase 81 = .ok (.bipush 12, 2) := by decide +kernel
theorem d_Dk_doCase_83 : decode b_Dk_doCase 83 = .ok (.goto 7, 3) := by decide +kernel
theorem d_Dk_doCase_86 : decode b_Dk_doCase 86 = .ok (.iload_n 2, 1) := by decide +kernel
theorem d_Dk_doCase_87 : decode b_Dk_doCase 87 = .ok (.invokestatic 174, 3) := by decide +kernel
theorem d_Dk_doCase_90 : decode b_Dk_doCase 90 = .ok (.ireturn, 1) := by decide +kernel
theorem d_Dk_countPossible_0 : decode b_Dk_countPossible 0 = .ok (.iconst 0, 1) := by decide +kernel
theorem d_Dk_countPossible_1 : decode b_Dk_countPossible 1 = .ok (.istore_n 2, 1) := by decide +kernel
theorem d_Dk_countPossible_2 : decode b_Dk_countPossible 2 = .ok (.iconst 0, 1) := by decide +kernel
theorem d_Dk_countPossible_3 : decode b_Dk_countPossible 3 = .ok (.istore_n 3, 1) := by decide +kernel
theorem d_Dk_countPossible_4 : decode b_Dk_countPossible 4 = .ok (.iload_n 3, 1) := by decide +kernel
theorem d_Dk_countPossible_5 : decode b_Dk_countPossible 5 = .ok (.aload_n 0, 1) := by decide +kernel
theorem d_Dk_countPossible_6 : decode b_Dk_countPossible 6 = .ok (.getfield 19, 3) := by decide +kernel
theorem d_Dk_countPossible_9 : decode b_Dk_countPossible 9 = .ok (.iload_n 1, 1) := by decide +kernel
theorem d_Dk_countPossible_10 : decode b_Dk_countPossible 10 = .ok (.invokevirtual 186, 3) := by decide +kernel
theorem d_Dk_countPossible_13 : decode b_Dk_countPossible 13 = .ok (.if_icmp .ge 24, 3) := by decide +kernel
theorem d_Dk_countPossible_16 : decode b_Dk_countPossible 16 = .ok (.aload_n 0, 1) := by decide +kernel
theorem d_Dk_countPossible_17 : decode b_Dk_countPossible 17 = .ok (.iload_n 1, 1) := by decide +kernel
theorem d_Dk_countPossible_18 : decode b_Dk_countPossible 18 = .ok (.iload_n 3, 1) := by decide +kernel
theorem d_Dk_countPossible_19 : decode b_Dk_countPossible 19 = .ok (.invokestatic 189, 3) := by decide +kernel
theorem d_Dk_countPossible_22 : decode b_Dk_countPossible 22 = .ok (.invokevirtual 192, 3) := by decide +kernel
theorem d_Dk_countPossible_25 : decode b_Dk_countPossible 25 = .ok (.ifCond .eq 6, 3) := by decide +kernel
theorem d_Dk_countPossible_28 : decode b_Dk_countPossible 28 = .ok (.iinc 2 1, 3) := by decide +kernel
theorem d_Dk_countPossible_31 : decode b_Dk_countPossible 31 = .ok (.iinc 3 1, 3) := by decide +kernel
theorem d_Dk_countPossible_34 : decode b_Dk_countPossible 34 = .ok (.goto (-30), 3) := by decide +kernel
theorem d_Dk_countPossible_37 : decode b_Dk_countPossible 37 = .ok (.iload_n 2, 1) := by decide +kernel
theorem d_Dk_countPossible_38 : decode b_Dk_countPossible 38 = .ok (.ireturn, 1) := by decide +kernel
theorem d_Dk_findPossible_0 : decode b_Dk_findPossible 0 = .ok (.iconst 0, 1) := by decide +kernel
theorem d_Dk_findPossible_1 : decode b_Dk_findPossible 1 = .ok (.istore_n 3, 1) := by decide +kernel
theorem d_Dk_findPossible_2 : decode b_Dk_findPossible 2 = .ok (.iconst 0, 1) := by decide +kernel
theorem d_Dk_findPossible_3 : decode b_Dk_findPossible 3 = .ok (.istore 4, 2) := by decide +kernel
theorem d_Dk_findPossible_5 : decode b_Dk_findPossible 5 = .ok (.iload 4, 2) := by decide +kernel
theorem d_Dk_findPossible_7 : decode b_Dk_findPossible 7 = .ok (.aload_n 0, 1) := by decide +kernel
theorem d_Dk_findPossible_8 : decode b_Dk_findPossible 8 = .ok (.getfield 19, 3) := by decide +kernel
theorem d_Dk_findPossible_11 : decode b_Dk_findPossible 11 = .ok (.iload_n 1, 1) := by decide +kernel
theorem d_Dk_findPossible_12 : decode b_Dk_findPossible 12 = .ok (.invokevirtual 186, 3) := by decide +kernel
theorem d_Dk_findPossible_15 : decode b_Dk_findPossible 15 = .ok (.if_icmp .ge 37, 3) := by decide +kernel
theorem d_Dk_findPossible_18 : decode b_Dk_findPossible 18 = .ok (.iload_n 1, 1) := by decide +kernel
theorem d_Dk_findPossible_19 : decode b_Dk_findPossible 19 = .ok (.iload 4, 2) := by decide +kernel
theorem d_Dk_findPossible_21 : decode b_Dk_findPossible 21 = .ok (.invokestatic 189, 3) := by decide +kernel
theorem d_Dk_findPossible_24 : decode b_Dk_findPossible 24 = .ok (.istore 5, 2) := by decide +kernel
theorem d_Dk_findPossible_26 : decode b_Dk_findPossible 26 = .ok (.aload_n 0, 1) := by decide +kernel
theorem d_Dk_findPossible_27 : decode b_Dk_findPossible 27 = .ok (.iload 5, 2) := by decide +kernel
theorem d_Dk_findPossible_29 : decode b_Dk_findPossible 29 = .ok (.invokevirtual 192, 3) := by decide +kernel
theorem d_Dk_findPossible_32 : decode b_Dk_findPossible 32 = .ok (.ifCond .eq 14, 3) := by decide +kernel
theorem d_Dk_findPossible_35 : decode b_Dk_findPossible 35 = .ok (.iload_n 3, 1) := by decide +kernel
theorem d_Dk_findPossible_36 : decode b_Dk_findPossible 36 = .ok (.iload_n 2, 1) := by decide +kernel
theorem d_Dk_findPossible_37 : decode b_Dk_findPossible 37 = .ok (.if_icmp .ne 6, 3) := by decide +kernel
theorem d_Dk_findPossible_40 : decode b_Dk_findPossible 40 = .ok (.iload 5, 2) := by decide +kernel
theorem d_Dk_findPossible_42 : decode b_Dk_findPossible 42 = .ok (.ireturn, 1) := by decide +kernel
theorem d_Dk_findPossible_43 : decode b_Dk_findPossible 43 = .ok (.iinc 3 1, 3) := by decide +kernel
theorem d_Dk_findPossible_46 : decode b_Dk_findPossible 46 = .ok (.iinc 4 1, 3) := by decide +kernel
theorem d_Dk_findPossible_49 : decode b_Dk_findPossible 49 = .ok (.goto (-44), 3) := by decide +kernel
theorem d_Dk_findPossible_52 : decode b_Dk_findPossible 52 = .ok (.iconst (-1), 1) := by decide +kernel
theorem d_Dk_findPossible_53 : decode b_Dk_findPossible 53 = .ok (.ireturn, 1) := by decide +kernel
theorem d_Dk_isPossible_0 : decode b_Dk_isPossible 0 = .ok (.aload_n 0, 1) := by decide +kernel
theorem d_Dk_isPossible_1 : decode b_Dk_isPossible 1 = .ok (.getfield 19, 3) := by decide +kernel
theorem d_Dk_isPossible_4 : decode b_Dk_isPossible 4 = .ok (.iload_n 1, 1) := by decide +kernel
theorem d_Dk_isPossible_5 : decode b_Dk_isPossible 5 = .ok (.invokevirtual 183, 3) := by decide +kernel
theorem d_Dk_isPossible_8 : decode b_Dk_isPossible 8 = .ok (.istore_n 2, 1) := by decide +kernel
theorem d_Dk_isPossible_9 : decode b_Dk_isPossible 9 = .ok (.aload_n 0, 1) := by decide +kernel
theorem d_Dk_isPossible_10 : decode b_Dk_isPossible 10 = .ok (.getfield 10, 3) := by decide +kernel
theorem d_Dk_isPossible_13 : decode b_Dk_isPossible 13 = .ok (.iload_n 2, 1) := by decide +kernel
theorem d_Dk_isPossible_14 : decode b_Dk_isPossible 14 = .ok (.invokevirtual 89, 3) := by decide +kernel
theorem d_Dk_isPossible_17 : decode b_Dk_isPossible 17 = .ok (.ifCond .eq 5, 3) := by decide +kernel
theorem d_Dk_isPossible_20 : decode b_Dk_isPossible 20 = .ok (.iconst 1, 1) := by decide +kernel
theorem d_Dk_isPossible_21 : decode b_Dk_isPossible 21 = .ok (.ireturn, 1) := by decide +kernel
theorem d_Dk_isPossible_22 : decode b_Dk_isPossible 22 = .ok (.aload_n 0, 1) := by decide +kernel
theorem d_Dk_isPossible_23 : decode b_Dk_isPossible 23 = .ok (.getfield 19, 3) := by decide +kernel
theorem d_Dk_isPossible_26 : decode b_Dk_isPossible 26 = .ok (.iload_n 1, 1) := by decide +kernel
theorem d_Dk_isPossible_27 : decode b_Dk_isPossible 27 = .ok (.invokevirtual 180, 3) := by decide +kernel
theorem d_Dk_isPossible_30 : decode b_Dk_isPossible 30 = .ok (.ifCond .ne 30, 3) := by decide +kernel
theorem d_Dk_isPossible_33 : decode b_Dk_isPossible 33 = .ok (.aload_n 0, 1) := by decide +kernel
theorem d_Dk_isPossible_34 : decode b_Dk_isPossible 34 = .ok (.getfield 10, 3) := by decide +kernel
theorem d_Dk_isPossible_37 : decode b_Dk_isPossible 37 = .ok (.iload_n 2, 1) := by decide +kernel
theorem d_Dk_isPossible_38 : decode b_Dk_isPossible 38 = .ok (.invokevirtual 195, 3) := by decide +kernel
theorem d_Dk_isPossible_41 : decode b_Dk_isPossible 41 = .ok (.ifCond .ne 13, 3) := by decide +kernel
theorem d_Dk_isPossible_44 : decode b_Dk_isPossible 44 = .ok (.aload_n 0, 1) := by decide +kernel
theorem d_Dk_isPossible_45 : decode b_Dk_isPossible 45 = .ok (.iload_n 2, 1) := by decide +kernel
theorem d_Dk_isPossible_46 : decode b_Dk_isPossible 46 = .ok (.iconst 1, 1) := by decide +kernel
theorem d_Dk_isPossible_47 : decode b_Dk_isPossible 47 = .ok (.invokevirtual 95, 3) := by decide +kernel
theorem d_Dk_isPossible_50 : decode b_Dk_isPossible 50 = .ok (.iconst (-1), 1) := by decide +kernel
theorem d_Dk_isPossible_51 : decode b_Dk_isPossible 51 = .ok (.if_icmp .eq 7, 3) := by decide +kernel
theorem d_Dk_isPossible_54 : decode b_Dk_isPossible 54 = .ok (.iconst 1, 1) := by decide +kernel
theorem d_Dk_isPossible_55 : decode b_Dk_isPossible 55 = .ok (.goto 4, 3) := by decide +kernel
theorem d_Dk_isPossible_58 : decode b_Dk_isPossible 58 = .ok (.iconst 0, 1) := by decide +kernel
theorem d_Dk_isPossible_59 : decode b_Dk_isPossible 59 = .ok (.ireturn, 1) := by decide +kernel
theorem d_Dk_isPossible_60 : decode b_Dk_isPossible 60 = .ok (.aload_n 0, 1) := by decide +kernel
theorem d_Dk_isPossible_61 : decode b_Dk_isPossible 61 = .ok (.getfield 10, 3) := by decide +kernel
theorem d_Dk_isPossible_64 : decode b_Dk_isPossible 64 = .ok (.iload_n 2, 1) := by decide +kernel
theorem d_Dk_isPossible_65 : decode b_Dk_isPossible 65 = .ok (.invokevirtual 110, 3) := by decide +kernel
theorem d_Dk_isPossible_68 : decode b_Dk_isPossible 68 = .ok (.ifCond .gt 13, 3) := by decide +kernel
theorem d_Dk_isPossible_71 : decode b_Dk_isPossible 71 = .ok (.aload_n 0, 1) := by decide +kernel
theorem d_Dk_isPossible_72 : decode b_Dk_isPossible 72 = .ok (.iload_n 2, 1) := by decide +kernel
theorem d_Dk_isPossible_73 : decode b_Dk_isPossible 73 = .ok (.iconst 0, 1) := by decide +kernel
theorem d_Dk_isPossible_74 : decode b_Dk_isPossible 74 = .ok (.invokevirtual 95, 3) := by decide +kernel
theorem d_Dk_isPossible_77 : decode b_Dk_isPossible 77 = .ok (.iconst (-1), 1) := by decide +kernel
theorem d_Dk_isPossible_78 : decode b_Dk_isPossible 78 = .ok (.if_icmp .eq 7, 3) := by decide +kernel
theorem d_Dk_isPossible_81 : decode b_Dk_isPossible 81 = .ok (.iconst 1, 1) := by decide +kernel
theorem d_Dk_isPossible_82 : decode b_Dk_isPossible 82 = .ok (.goto 4, 3) := by decide +kernel
theorem d_Dk_isPossible_85 : decode b_Dk_isPossible 85 = .ok (.iconst 0, 1) := by decide +kernel
theorem d_Dk_isPossible_86 : decode b_Dk_isPossible 86 = .ok (.ireturn, 1) := by decide +kernel
theorem d_Dk_firstWaiting_0 : decode b_Dk_firstWaiting 0 = .ok (.aload_n 0, 1) := by decide +kernel
theorem d_Dk_firstWaiting_1 : decode b_Dk_firstWaiting 1 = .ok (.iload_n 1, 1) := by decide +kernel
theorem d_Dk_firstWaiting_2 : decode b_Dk_firstWaiting 2 = .ok (.iload_n 2, 1) := by decide +kernel
theorem d_Dk_firstWaiting_3 : decode b_Dk_firstWaiting 3 = .ok (.iconst 0, 1) := by decide +kernel
theorem d_Dk_firstWaiting_4 : decode b_Dk_firstWaiting 4 = .ok (.invokevirtual 104, 3) := by decide +kernel
theorem d_Dk_firstWaiting_7 : decode b_Dk_firstWaiting 7 = .ok (.ireturn, 1) := by decide +kernel
theorem d_Dk_findWaiting_0 : decode b_Dk_findWaiting 0 = .ok (.iconst 0, 1) := by decide +kernel
theorem d_Dk_findWaiting_1 : decode b_Dk_findWaiting 1 = .ok (.istore 4, 2) := by decide +kernel
theorem d_Dk_findWaiting_3 : decode b_Dk_findWaiting 3 = .ok (.iconst 0, 1) := by decide +kernel
theorem d_Dk_findWaiting_4 : decode b_Dk_findWaiting 4 = .ok (.istore 5, 2) := by decide +kernel
theorem d_Dk_findWaiting_6 : decode b_Dk_findWaiting 6 = .ok (.iload 5, 2) := by decide +kernel
theorem d_Dk_findWaiting_8 : decode b_Dk_findWaiting 8 = .ok (.aload_n 0, 1) := by decide +kernel
theorem d_Dk_findWaiting_9 : decode b_Dk_findWaiting 9 = .ok (.getfield 26, 3) := by decide +kernel
theorem d_Dk_findWaiting_12 : decode b_Dk_findWaiting 12 = .ok (.invokevirtual 123, 3) := by decide +kernel
theorem d_Dk_findWaiting_15 : decode b_Dk_findWaiting 15 = .ok (.if_icmp .ge 47, 3) := by decide +kernel
theorem d_Dk_findWaiting_18 : decode b_Dk_findWaiting 18 = .ok (.aload_n 0, 1) := by decide +kernel
theorem d_Dk_findWaiting_19 : decode b_Dk_findWaiting 19 = .ok (.getfield 19, 3) := by decide +kernel
theorem d_Dk_findWaiting_22 : decode b_Dk_findWaiting 22 = .ok (.aload_n 0, 1) := by decide +kernel
theorem d_Dk_findWaiting_23 : decode b_Dk_findWaiting 23 = .ok (.getfield 26, 3) := by decide +kernel
theorem d_Dk_findWaiting_26 : decode b_Dk_findWaiting 26 = .ok (.iload 5, 2) := by decide +kernel
theorem d_Dk_findWaiting_28 : decode b_Dk_findWaiting 28 = .ok (.invokevirtual 198, 3) := by decide +kernel
theorem d_Dk_findWaiting_31 : decode b_Dk_findWaiting 31 = .ok (.iload_n 1, 1) := by decide +kernel
theorem d_Dk_findWaiting_32 : decode b_Dk_findWaiting 32 = .ok (.iload_n 2, 1) := by decide +kernel
theorem d_Dk_findWaiting_33 : decode b_Dk_findWaiting 33 = .ok (.invokevirtual 201, 3) := by decide +kernel
theorem d_Dk_findWaiting_36 : decode b_Dk_findWaiting 36 = .ok (.istore 6, 2) := by decide +kernel
theorem d_Dk_findWaiting_38 : decode b_Dk_findWaiting 38 = .ok (.iload 6, 2) := by decide +kernel
theorem d_Dk_findWaiting_40 : decode b_Dk_findWaiting 40 = .ok (.iconst (-1), 1) := by decide +kernel
theorem d_Dk_findWaiting_41 : decode b_Dk_findWaiting 41 = .ok (.if_icmp .eq 15, 3) := by decide +kernel
theorem d_Dk_findWaiting_44 : decode b_Dk_findWaiting 44 = .ok (.iload 4, 2) := by decide +kernel
theorem d_Dk_findWaiting_46 : decode b_Dk_findWaiting 46 = .ok (.iload_n 3, 1) := by decide +kernel
theorem d_Dk_findWaiting_47 : decode b_Dk_findWaiting 47 = .ok (.if_icmp .ne 6, 3) := by decide +kernel
theorem d_Dk_findWaiting_50 : decode b_Dk_findWaiting 50 = .ok (.iload 6, 2) := by decide +kernel
theorem d_Dk_findWaiting_52 : decode b_Dk_findWaiting 52 = .ok (.ireturn, 1) := by decide +kernel
theorem d_Dk_findWaiting_53 : decode b_Dk_findWaiting 53 = .ok (.iinc 4 1, 3) := by decide +kernel
theorem d_Dk_findWaiting_56 : decode b_Dk_findWaiting 56 = .ok (.iinc 5 1, 3) := by decide +kernel
theorem d_Dk_findWaiting_59 : decode b_Dk_findWaiting 59 = .ok (.goto (-53), 3) := by decide +kernel
theorem d_Dk_findWaiting_62 : decode b_Dk_findWaiting 62 = .ok (.iconst (-1), 1) := by decide +kernel
theorem d_Dk_findWaiting_63 : decode b_Dk_findWaiting 63 = .ok (.ireturn, 1) := by decide +kernel
