theorem dX0_init_0 : decode cX0_init 0 = .ok (.aload_n 0, 1) := by decide +kernel
theorem dX0_init_1 : decode cX0_init 1 = .ok (.invokespecial 3, 3) := by decide +kernel
theorem dX0_init_4 : decode cX0_init 4 = .ok (.aload_n 0, 1) := by decide +kernel
theorem dX0_init_5 : decode cX0_init 5 = .ok (.aload_n 1, 1) := by decide +kernel
theorem dX0_init_6 : decode cX0_init 6 = .ok (.putfield 9, 3) := by decide +kernel
theorem dX0_init_9 : decode cX0_init 9 = .ok (.aload_n 0, 1) := by decide +kernel
theorem dX0_init_10 : decode cX0_init 10 = .ok (.new 15, 3) := by decide +kernel
theorem dX0_init_13 : decode cX0_init 13 = .ok (.dup, 1) := by decide +kernel
theorem dX0_init_14 : decode cX0_init 14 = .ok (.invokespecial 17, 3) := by decide +kernel
theorem dX0_init_17 : decode cX0_init 17 = .ok (.putfield 18, 3) := by decide +kernel
theorem dX0_init_20 : decode cX0_init 20 = .ok (.aload_n 0, 1) := by decide +kernel
theorem dX0_init_21 : decode cX0_init 21 = .ok (.new 15, 3) := by decide +kernel
theorem dX0_init_24 : decode cX0_init 24 = .ok (.dup, 1) := by decide +kernel
theorem dX0_init_25 : decode cX0_init 25 = .ok (.invokespecial 17, 3) := by decide +kernel
theorem dX0_init_28 : decode cX0_init 28 = .ok (.putfield 22, 3) := by decide +kernel
theorem dX0_init_31 : decode cX0_init 31 = .ok (.return_, 1) := by decide +kernel
theorem dX0_begin_0 : decode cX0_begin 0 = .ok (.aload_n 0, 1) := by decide +kernel
theorem dX0_begin_1 : decode cX0_begin 1 = .ok (.getfield 18, 3) := by decide +kernel
theorem dX0_begin_4 : decode cX0_begin 4 = .ok (.invokevirtual 25, 3) := by decide +kernel
theorem dX0_begin_7 : decode cX0_begin 7 = .ok (.return_, 1) := by decide +kernel
theorem dX0_add_0 : decode cX0_add 0 = .ok (.aload_n 0, 1) := by decide +kernel
theorem dX0_add_1 : decode cX0_add 1 = .ok (.getfield 18, 3) := by decide +kernel
theorem dX0_add_4 : decode cX0_add 4 = .ok (.iconst 0, 1) := by decide +kernel
theorem dX0_add_5 : decode cX0_add 5 = .ok (.invokevirtual 28, 3) := by decide +kernel
theorem dX0_add_8 : decode cX0_add 8 = .ok (.istore_n 3, 1) := by decide +kernel
theorem dX0_add_9 : decode cX0_add 9 = .ok (.aload_n 0, 1) := by decide +kernel
theorem dX0_add_10 : decode cX0_add 10 = .ok (.getfield 18, 3) := by decide +kernel
theorem dX0_add_13 : decode cX0_add 13 = .ok (.iconst 0, 1) := by decide +kernel
theorem dX0_add_14 : decode cX0_add 14 = .ok (.iload_n 3, 1) := by decide +kernel
theorem dX0_add_15 : decode cX0_add 15 = .ok (.iconst 1, 1) := by decide +kernel
theorem dX0_add_16 : decode cX0_add 16 = .ok (.iadd, 1) := by decide +kernel
theorem dX0_add_17 : decode cX0_add 17 = .ok (.invokevirtual 32, 3) := by decide +kernel
theorem dX0_add_20 : decode cX0_add 20 = .ok (.aload_n 0, 1) := by decide +kernel
theorem dX0_add_21 : decode cX0_add 21 = .ok (.getfield 18, 3) := by decide +kernel
theorem dX0_add_24 : decode cX0_add 24 = .ok (.iload_n 3, 1) := by decide +kernel
theorem dX0_add_25 : decode cX0_add 25 = .ok (.iconst 1, 1) := by decide +kernel
theorem dX0_add_26 : decode cX0_add 26 = .ok (.iadd, 1) := by decide +kernel
theorem dX0_add_27 : decode cX0_add 27 = .ok (.iload_n 2, 1) := by decide +kernel
theorem dX0_add_28 : decode cX0_add 28 = .ok (.invokevirtual 32, 3) := by decide +kernel
theorem dX0_add_31 : decode cX0_add 31 = .ok (.aload_n 0, 1) := by decide +kernel
theorem dX0_add_32 : decode cX0_add 32 = .ok (.getfield 9, 3) := by decide +kernel
theorem dX0_add_35 : decode cX0_add 35 = .ok (.iconst 2, 1) := by decide +kernel
theorem dX0_add_36 : decode cX0_add 36 = .ok (.iload_n 3, 1) := by decide +kernel
theorem dX0_add_37 : decode cX0_add 37 = .ok (.iadd, 1) := by decide +kernel
theorem dX0_add_38 : decode cX0_add 38 = .ok (.aload_n 1, 1) := by decide +kernel
theorem dX0_add_39 : decode cX0_add 39 = .ok (.invokevirtual 36, 3) := by decide +kernel
theorem dX0_add_42 : decode cX0_add 42 = .ok (.ireturn, 1) := by decide +kernel
theorem dX0_finish_0 : decode cX0_finish 0 = .ok (.aload_n 0, 1) := by decide +kernel
theorem dX0_finish_1 : decode cX0_finish 1 = .ok (.getfield 9, 3) := by decide +kernel
theorem dX0_finish_4 : decode cX0_finish 4 = .ok (.iconst 1, 1) := by decide +kernel
theorem dX0_finish_5 : decode cX0_finish 5 = .ok (.aload_n 0, 1) := by decide +kernel
theorem dX0_finish_6 : decode cX0_finish 6 = .ok (.getfield 18, 3) := by decide +kernel
theorem dX0_finish_9 : decode cX0_finish 9 = .ok (.invokevirtual 36, 3) := by decide +kernel
theorem dX0_finish_12 : decode cX0_finish 12 = .ok (.ifCond .eq 14, 3) := by decide +kernel
theorem dX0_finish_15 : decode cX0_finish 15 = .ok (.aload_n 0, 1) := by decide +kernel
theorem dX0_finish_16 : decode cX0_finish 16 = .ok (.invokevirtual 42, 3) := by decide +kernel
theorem dX0_finish_19 : decode cX0_finish 19 = .ok (.ifCond .eq 7, 3) := by decide +kernel
theorem dX0_finish_22 : decode cX0_finish 22 = .ok (.iconst 1, 1) := by decide +kernel
theorem dX0_finish_23 : decode cX0_finish 23 = .ok (.goto 4, 3) := by decide +kernel
theorem dX0_finish_26 : decode cX0_finish 26 = .ok (.iconst 0, 1) := by decide +kernel
theorem dX0_finish_27 : decode cX0_finish 27 = .ok (.ireturn, 1) := by decide +kernel
theorem dX0_settle_0 : decode cX0_settle 0 = .ok (.aload_n 0, 1) := by decide +kernel
theorem dX0_settle_1 : decode cX0_settle 1 = .ok (.getfield 9, 3) := by decide +kernel
theorem dX0_settle_4 : decode cX0_settle 4 = .ok (.iconst 1, 1) := by decide +kernel
theorem dX0_settle_5 : decode cX0_settle 5 = .ok (.iconst 0, 1) := by decide +kernel
theorem dX0_settle_6 : decode cX0_settle 6 = .ok (.invokevirtual 46, 3) := by decide +kernel
theorem dX0_settle_9 : decode cX0_settle 9 = .ok (.istore_n 1, 1) := by decide +kernel
theorem dX0_settle_10 : decode cX0_settle 10 = .ok (.iconst 0, 1) := by decide +kernel
theorem dX0_settle_11 : decode cX0_settle 11 = .ok (.istore_n 2, 1) := by decide +kernel
theorem dX0_settle_12 : decode cX0_settle 12 = .ok (.iload_n 2, 1) := by decide +kernel
theorem dX0_settle_13 : decode cX0_settle 13 = .ok (.iload_n 1, 1) := by decide +kernel
theorem dX0_settle_14 : decode cX0_settle 14 = .ok (.if_icmp .ge 50, 3) := by decide +kernel
theorem dX0_settle_17 : decode cX0_settle 17 = .ok (.aload_n 0, 1) := by decide +kernel
theorem dX0_settle_18 : decode cX0_settle 18 = .ok (.getfield 9, 3) := by decide +kernel
theorem dX0_settle_21 : decode cX0_settle 21 = .ok (.iconst 2, 1) := by decide +kernel
theorem dX0_settle_22 : decode cX0_settle 22 = .ok (.iload_n 2, 1) := by decide +kernel
theorem dX0_settle_23 : decode cX0_settle 23 = .ok (.iadd, 1) := by decide +kernel
theorem dX0_settle_24 : decode cX0_settle 24 = .ok (.aload_n 0, 1) := by decide +kernel
theorem dX0_settle_25 : decode cX0_settle 25 = .ok (.getfield 22, 3) := by decide +kernel
theorem dX0_settle_28 : decode cX0_settle 28 = .ok (.invokevirtual 50, 3) := by decide +kernel
theorem dX0_settle_31 : decode cX0_settle 31 = .ok (.aload_n 0, 1) := by decide +kernel
theorem dX0_settle_32 : decode cX0_settle 32 = .ok (.getfield 9, 3) := by decide +kernel
theorem dX0_settle_35 : decode cX0_settle 35 = .ok (.aload_n 0, 1) := by decide +kernel
theorem dX0_settle_36 : decode cX0_settle 36 = .ok (.getfield 9, 3) := by decide +kernel
theorem dX0_settle_39 : decode cX0_settle 39 = .ok (.iconst 1, 1) := by decide +kernel
theorem dX0_settle_40 : decode cX0_settle 40 = .ok (.iconst 1, 1) := by decide +kernel
theorem dX0_settle_41 : decode cX0_settle 41 = .ok (.iload_n 2, 1) := by decide +kernel
theorem dX0_settle_42 : decode cX0_settle 42 = .ok (.iadd, 1) := by decide +kernel
theorem dX0_settle_43 : decode cX0_settle 43 = .ok (.invokevirtual 46, 3) := by decide +kernel
theorem dX0_settle_46 : decode cX0_settle 46 = .ok (.aload_n 0, 1) := by decide +kernel
theorem dX0_settle_47 : decode cX0_settle 47 = .ok (.getfield 22, 3) := by decide +kernel
theorem dX0_settle_50 : decode cX0_settle 50 = .ok (.invokevirtual 36, 3) := by decide +kernel
theorem dX0_settle_53 : decode cX0_settle 53 = .ok (.ifCond .ne 5, 3) := by decide +kernel
theorem dX0_settle_56 : decode cX0_settle 56 = .ok (.iconst 0, 1) := by decide +kernel
theorem dX0_settle_57 : decode cX0_settle 57 = .ok (.ireturn, 1) := by decide +kernel
theorem dX0_settle_58 : decode cX0_settle 58 = .ok (.iinc 2 1, 3) := by decide +kernel
theorem dX0_settle_61 : decode cX0_settle 61 = .ok (.goto (-49), 3) := by decide +kernel
theorem dX0_settle_64 : decode cX0_settle 64 = .ok (.aload_n 0, 1) := by decide +kernel
theorem dX0_settle_65 : decode cX0_settle 65 = .ok (.getfield 18, 3) := by decide +kernel
theorem dX0_settle_68 : decode cX0_settle 68 = .ok (.invokevirtual 25, 3) := by decide +kernel
theorem dX0_settle_71 : decode cX0_settle 71 = .ok (.aload_n 0, 1) := by decide +kernel
theorem dX0_settle_72 : decode cX0_settle 72 = .ok (.getfield 9, 3) := by decide +kernel
theorem dX0_settle_75 : decode cX0_settle 75 = .ok (.iconst 1, 1) := by decide +kernel
theorem dX0_settle_76 : decode cX0_settle 76 = .ok (.aload_n 0, 1) := by decide +kernel
theorem dX0_settle_77 : decode cX0_settle 77 = .ok (.getfield 18, 3) := by decide +kernel
theorem dX0_settle_80 : decode cX0_settle 80 = .ok (.invokevirtual 36, 3) := by decide +kernel
theorem dX0_settle_83 : decode cX0_settle 83 = .ok (.ireturn, 1) := by decide +kernel
theorem dX1_init_0 : decode cX1_init 0 = .ok (.aload_n 0, 1) := by decide +kernel
theorem dX1_init_1 : decode cX1_init 1 = .ok (.invokespecial 3, 3) := by decide +kernel
theorem dX1_init_4 : decode cX1_init 4 = .ok (.aload_n 0, 1) := by decide +kernel
theorem dX1_init_5 : decode cX1_init 5 = .ok (.ldc 9, 2) := by decide +kernel
theorem dX1_init_7 : decode cX1_init 7 = .ok (.newarray .int, 2) := by decide +kernel
theorem dX1_init_9 : decode cX1_init 9 = .ok (.putfield 10, 3) := by decide +kernel
theorem dX1_init_12 : decode cX1_init 12 = .ok (.aload_n 0, 1) := by decide +kernel
theorem dX1_init_13 : decode cX1_init 13 = .ok (.sipush 255, 3) := by decide +kernel
theorem dX1_init_16 : decode cX1_init 16 = .ok (.newarray .int, 2) := by decide +kernel
theorem dX1_init_18 : decode cX1_init 18 = .ok (.putfield 16, 3) := by decide +kernel
theorem dX1_init_21 : decode cX1_init 21 = .ok (.return_, 1) := by decide +kernel
theorem dX1_wipe_0 : decode cX1_wipe 0 = .ok (.aload_n 0, 1) := by decide +kernel
theorem dX1_wipe_1 : decode cX1_wipe 1 = .ok (.iload_n 1, 1) := by decide +kernel
theorem dX1_wipe_2 : decode cX1_wipe 2 = .ok (.putfield 19, 3) := by decide +kernel
theorem dX1_wipe_5 : decode cX1_wipe 5 = .ok (.aload_n 0, 1) := by decide +kernel
theorem dX1_wipe_6 : decode cX1_wipe 6 = .ok (.iload_n 2, 1) := by decide +kernel
theorem dX1_wipe_7 : decode cX1_wipe 7 = .ok (.putfield 23, 3) := by decide +kernel
theorem dX1_wipe_10 : decode cX1_wipe 10 = .ok (.aload_n 0, 1) := by decide +kernel
theorem dX1_wipe_11 : decode cX1_wipe 11 = .ok (.iconst 0, 1) := by decide +kernel
theorem dX1_wipe_12 : decode cX1_wipe 12 = .ok (.putfield 26, 3) := by decide +kernel
theorem dX1_wipe_15 : decode cX1_wipe 15 = .ok (.aload_n 0, 1) := by decide +kernel
theorem dX1_wipe_16 : decode cX1_wipe 16 = .ok (.iconst (-1), 1) := by decide +kernel
theorem dX1_wipe_17 : decode cX1_wipe 17 = .ok (.invokevirtual 29, 3) := by decide +kernel
theorem dX1_wipe_20 : decode cX1_wipe 20 = .ok (.aload_n 0, 1) := by decide +kernel
theorem dX1_wipe_21 : decode cX1_wipe 21 = .ok (.iconst 1, 1) := by decide +kernel
theorem dX1_wipe_22 : decode cX1_wipe 22 = .ok (.putfield 33, 3) := by decide +kernel
theorem dX1_wipe_25 : decode cX1_wipe 25 = .ok (.aload_n 3, 1) := by decide +kernel
theorem dX1_wipe_26 : decode cX1_wipe 26 = .ok (.invokevirtual 37, 3) := by decide +kernel
theorem dX1_wipe_29 : decode cX1_wipe 29 = .ok (.iconst 0, 1) := by decide +kernel
theorem dX1_wipe_30 : decode cX1_wipe 30 = .ok (.istore 4, 2) := by decide +kernel
theorem dX1_wipe_32 : decode cX1_wipe 32 = .ok (.iload 4, 2) := by decide +kernel
theorem dX1_wipe_34 : decode cX1_wipe 34 = .ok (.aload_n 0, 1) := by decide +kernel
theorem dX1_wipe_35 : decode cX1_wipe 35 = .ok (.getfield 19, 3) := by decide +kernel
theorem dX1_wipe_38 : decode cX1_wipe 38 = .ok (.if_icmp .ge 16, 3) := by decide +kernel
theorem dX1_wipe_41 : decode cX1_wipe 41 = .ok (.aload_n 0, 1) := by decide +kernel
theorem dX1_wipe_42 : decode cX1_wipe 42 = .ok (.iload 4, 2) := by decide +kernel
theorem dX1_wipe_44 : decode cX1_wipe 44 = .ok (.aload_n 3, 1) := by decide +kernel
theorem dX1_wipe_45 : decode cX1_wipe 45 = .ok (.invokevirtual 42, 3) := by decide +kernel
theorem dX1_wipe_48 : decode cX1_wipe 48 = .ok (.iinc 4 1, 3) := by decide +kernel
theorem dX1_wipe_51 : decode cX1_wipe 51 = .ok (.goto (-19), 3) := by decide +kernel
theorem dX1_wipe_54 : decode cX1_wipe 54 = .ok (.aload_n 0, 1) := by decide +kernel
theorem dX1_wipe_55 : decode cX1_wipe 55 = .ok (.iconst 0, 1) := by decide +kernel
theorem dX1_wipe_56 : decode cX1_wipe 56 = .ok (.iconst 1, 1) := by decide +kernel
theorem dX1_wipe_57 : decode cX1_wipe 57 = .ok (.aload_n 0, 1) := by decide +kernel
theorem dX1_wipe_58 : decode cX1_wipe 58 = .ok (.getfield 23, 3) := by decide +kernel
theorem dX1_wipe_61 : decode cX1_wipe 61 = .ok (.iconst 2, 1) := by decide +kernel
theorem dX1_wipe_62 : decode cX1_wipe 62 = .ok (.iadd, 1) := by decide +kernel
theorem dX1_wipe_63 : decode cX1_wipe 63 = .ok (.invokevirtual 46, 3) := by decide +kernel
theorem dX1_wipe_66 : decode cX1_wipe 66 = .ok (.aload_n 0, 1) := by decide +kernel
theorem dX1_wipe_67 : decode cX1_wipe 67 = .ok (.aload_n 0, 1) := by decide +kernel
theorem dX1_wipe_68 : decode cX1_wipe 68 = .ok (.getfield 23, 3) := by decide +kernel
theorem dX1_wipe_71 : decode cX1_wipe 71 = .ok (.iconst 2, 1) := by decide +kernel
theorem dX1_wipe_72 : decode cX1_wipe 72 = .ok (.iadd, 1) := by decide +kernel
theorem dX1_wipe_73 : decode cX1_wipe 73 = .ok (.iconst 0, 1) := by decide +kernel
theorem dX1_wipe_74 : decode cX1_wipe 74 = .ok (.aload_n 0, 1) := by decide +kernel
theorem dX1_wipe_75 : decode cX1_wipe 75 = .ok (.getfield 23, 3) := by decide +kernel
theorem dX1_wipe_78 : decode cX1_wipe 78 = .ok (.iconst 3, 1) := by decide +kernel
theorem dX1_wipe_79 : decode cX1_wipe 79 = .ok (.iadd, 1) := by decide +kernel
theorem dX1_wipe_80 : decode cX1_wipe 80 = .ok (.invokevirtual 46, 3) := by decide +kernel
theorem dX1_wipe_83 : decode cX1_wipe 83 = .ok (.return_, 1) := by decide +kernel
theorem dX1_place_0 : decode cX1_place 0 = .ok (.aload_n 0, 1) := by decide +kernel
theorem dX1_place_1 : decode cX1_place 1 = .ok (.iload_n 1, 1) := by decide +kernel
theorem dX1_place_2 : decode cX1_place 2 = .ok (.invokevirtual 50, 3) := by decide +kernel
theorem dX1_place_5 : decode cX1_place 5 = .ok (.ifCond .eq 23, 3) := by decide +kernel
theorem dX1_place_8 : decode cX1_place 8 = .ok (.aload_n 2, 1) := by decide +kernel
theorem dX1_place_9 : decode cX1_place 9 = .ok (.invokevirtual 54, 3) := by decide +kernel
theorem dX1_place_12 : decode cX1_place 12 = .ok (.iconst 0, 1) := by decide +kernel
theorem dX1_place_13 : decode cX1_place 13 = .ok (.aload_n 0, 1) := by decide +kernel
theorem dX1_place_14 : decode cX1_place 14 = .ok (.getfield 10, 3) := by decide +kernel
theorem dX1_place_17 : decode cX1_place 17 = .ok (.iload_n 1, 1) := by decide +kernel
theorem dX1_place_18 : decode cX1_place 18 = .ok (.sipush 256, 3) := by decide +kernel
theorem dX1_place_21 : decode cX1_place 21 = .ok (.imul, 1) := by decide +kernel
theorem dX1_place_22 : decode cX1_place 22 = .ok (.sipush 256, 3) := by decide +kernel
theorem dX1_place_25 : decode cX1_place 25 = .ok (.invokestatic 58, 3) := by decide +kernel
theorem dX1_place_28 : decode cX1_place 28 = .ok (.return_, 1) := by decide +kernel
theorem dX1_lay_0 : decode cX1_lay 0 = .ok (.aload_n 0, 1) := by decide +kernel
theorem dX1_lay_1 : decode cX1_lay 1 = .ok (.iload_n 1, 1) := by decide +kernel
theorem dX1_lay_2 : decode cX1_lay 2 = .ok (.invokevirtual 50, 3) := by decide +kernel
theorem dX1_lay_5 : decode cX1_lay 5 = .ok (.ifCond .eq 27, 3) := by decide +kernel
theorem dX1_lay_8 : decode cX1_lay 8 = .ok (.iload_n 2, 1) := by decide +kernel
theorem dX1_lay_9 : decode cX1_lay 9 = .ok (.ifCond .lt 23, 3) := by decide +kernel
theorem dX1_lay_12 : decode cX1_lay 12 = .ok (.iload_n 2, 1) := by decide +kernel
theorem dX1_lay_13 : decode cX1_lay 13 = .ok (.sipush 256, 3) := by decide +kernel
theorem dX1_lay_16 : decode cX1_lay 16 = .ok (.if_icmp .ge 16, 3) := by decide +kernel
theorem dX1_lay_19 : decode cX1_lay 19 = .ok (.aload_n 0, 1) := by decide +kernel
theorem dX1_lay_20 : decode cX1_lay 20 = .ok (.getfield 10, 3) := by decide +kernel
theorem dX1_lay_23 : decode cX1_lay 23 = .ok (.iload_n 1, 1) := by decide +kernel
theorem dX1_lay_24 : decode cX1_lay 24 = .ok (.sipush 256, 3) := by decide +kernel
theorem dX1_lay_27 : decode cX1_lay 27 = .ok (.imul, 1) := by decide +kernel
theorem dX1_lay_28 : decode cX1_lay 28 = .ok (.iload_n 2, 1) := by decide +kernel
theorem dX1_lay_29 : decode cX1_lay 29 = .ok (.iadd, 1) := by decide +kernel
theorem dX1_lay_30 : decode cX1_lay 30 = .ok (.iload_n 3, 1) := by decide +kernel
theorem dX1_lay_31 : decode cX1_lay 31 = .ok (.iastore, 1) := by decide +kernel
theorem dX1_lay_32 : decode cX1_lay 32 = .ok (.return_, 1) := by decide +kernel
theorem dX1_isPage_0 : decode cX1_isPage 0 = .ok (.iload_n 1, 1) := by decide +kernel
theorem dX1_isPage_1 : decode cX1_isPage 1 = .ok (.ifCond .lt 22, 3) := by decide +kernel
theorem dX1_isPage_4 : decode cX1_isPage 4 = .ok (.iload_n 1, 1) := by decide +kernel
theorem dX1_isPage_5 : decode cX1_isPage 5 = .ok (.aload_n 0, 1) := by decide +kernel
theorem dX1_isPage_6 : decode cX1_isPage 6 = .ok (.getfield 19, 3) := by decide +kernel
theorem dX1_isPage_9 : decode cX1_isPage 9 = .ok (.if_icmp .ge 14, 3) := by decide +kernel
theorem dX1_isPage_12 : decode cX1_isPage 12 = .ok (.iload_n 1, 1) := by decide +kernel
theorem dX1_isPage_13 : decode cX1_isPage 13 = .ok (.sipush 255, 3) := by decide +kernel
theorem dX1_isPage_16 : decode cX1_isPage 16 = .ok (.if_icmp .ge 7, 3) := by decide +kernel
theorem dX1_isPage_19 : decode cX1_isPage 19 = .ok (.iconst 1, 1) := by decide +kernel
theorem dX1_isPage_20 : decode cX1_isPage 20 = .ok (.goto 4, 3) := by decide +kernel
theorem dX1_isPage_23 : decode cX1_isPage 23 = .ok (.iconst 0, 1) := by decide +kernel
theorem dX1_isPage_24 : decode cX1_isPage 24 = .ok (.ireturn, 1) := by decide +kernel
theorem dX1_pages_0 : decode cX1_pages 0 = .ok (.aload_n 0, 1) := by decide +kernel
theorem dX1_pages_1 : decode cX1_pages 1 = .ok (.getfield 19, 3) := by decide +kernel
theorem dX1_pages_4 : decode cX1_pages 4 = .ok (.ireturn, 1) := by decide +kernel
theorem dX1_log_0 : decode cX1_log 0 = .ok (.aload_n 0, 1) := by decide +kernel
theorem dX1_log_1 : decode cX1_log 1 = .ok (.getfield 23, 3) := by decide +kernel
theorem dX1_log_4 : decode cX1_log 4 = .ok (.ireturn, 1) := by decide +kernel
theorem dX1_writes_0 : decode cX1_writes 0 = .ok (.aload_n 0, 1) := by decide +kernel
theorem dX1_writes_1 : decode cX1_writes 1 = .ok (.getfield 26, 3) := by decide +kernel
theorem dX1_writes_4 : decode cX1_writes 4 = .ok (.ireturn, 1) := by decide +kernel
theorem dX1_allowed_0 : decode cX1_allowed 0 = .ok (.aload_n 0, 1) := by decide +kernel
theorem dX1_allowed_1 : decode cX1_allowed 1 = .ok (.getfield 64, 3) := by decide +kernel
theorem dX1_allowed_4 : decode cX1_allowed 4 = .ok (.ireturn, 1) := by decide +kernel
theorem dX1_isDown_0 : decode cX1_isDown 0 = .ok (.aload_n 0, 1) := by decide +kernel
theorem dX1_isDown_1 : decode cX1_isDown 1 = .ok (.getfield 67, 3) := by decide +kernel
theorem dX1_isDown_4 : decode cX1_isDown 4 = .ok (.ireturn, 1) := by decide +kernel
theorem dX1_allow_0 : decode cX1_allow 0 = .ok (.aload_n 0, 1) := by decide +kernel
theorem dX1_allow_1 : decode cX1_allow 1 = .ok (.iconst 0, 1) := by decide +kernel
theorem dX1_allow_2 : decode cX1_allow 2 = .ok (.putfield 67, 3) := by decide +kernel
theorem dX1_allow_5 : decode cX1_allow 5 = .ok (.aload_n 0, 1) := by decide +kernel
theorem dX1_allow_6 : decode cX1_allow 6 = .ok (.iload_n 1, 1) := by decide +kernel
theorem dX1_allow_7 : decode cX1_allow 7 = .ok (.putfield 64, 3) := by decide +kernel
theorem dX1_allow_10 : decode cX1_allow 10 = .ok (.return_, 1) := by decide +kernel
theorem dX1_write_0 : decode cX1_write 0 = .ok (.aload_n 0, 1) := by decide +kernel
theorem dX1_write_1 : decode cX1_write 1 = .ok (.getfield 64, 3) := by decide +kernel
theorem dX1_write_4 : decode cX1_write 4 = .ok (.ifCond .ne 10, 3) := by decide +kernel
theorem dX1_write_7 : decode cX1_write 7 = .ok (.aload_n 0, 1) := by decide +kernel
theorem dX1_write_8 : decode cX1_write 8 = .ok (.iconst 1, 1) := by decide +kernel
theorem dX1_write_9 : decode cX1_write 9 = .ok (.putfield 67, 3) := by decide +kernel
theorem dX1_write_12 : decode cX1_write 12 = .ok (.iconst 0, 1) := by decide +kernel
theorem dX1_write_13 : decode cX1_write 13 = .ok (.ireturn, 1) := by decide +kernel
theorem dX1_write_14 : decode cX1_write 14 = .ok (.aload_n 0, 1) := by decide +kernel
theorem dX1_write_15 : decode cX1_write 15 = .ok (.getfield 64, 3) := by decide +kernel
theorem dX1_write_18 : decode cX1_write 18 = .ok (.ifCond .le 13, 3) := by decide +kernel
theorem dX1_write_21 : decode cX1_write 21 = .ok (.aload_n 0, 1) := by decide +kernel
theorem dX1_write_22 : decode cX1_write 22 = .ok (.dup, 1) := by decide +kernel
theorem dX1_write_23 : decode cX1_write 23 = .ok (.getfield 64, 3) := by decide +kernel
theorem dX1_write_26 : decode cX1_write 26 = .ok (.iconst 1, 1) := by decide +kernel
theorem dX1_write_27 : decode cX1_write 27 = .ok (.isub, 1) := by decide +kernel
theorem dX1_write_28 : decode cX1_write 28 = .ok (.putfield 64, 3) := by decide +kernel
theorem dX1_write_31 : decode cX1_write 31 = .ok (.aload_n 0, 1) := by decide +kernel
theorem dX1_write_32 : decode cX1_write 32 = .ok (.dup, 1) := by decide +kernel
theorem dX1_write_33 : decode cX1_write 33 = .ok (.getfield 26, 3) := by decide +kernel
theorem dX1_write_36 : decode cX1_write 36 = .ok (.iconst 1, 1) := by decide +kernel
theorem dX1_write_37 : decode cX1_write 37 = .ok (.iadd, 1) := by decide +kernel
theorem dX1_write_38 : decode cX1_write 38 = .ok (.putfield 26, 3) := by decide +kernel
theorem dX1_write_41 : decode cX1_write 41 = .ok (.iload_n 1, 1) := by decide +kernel
theorem dX1_write_42 : decode cX1_write 42 = .ok (.ifCond .eq 21, 3) := by decide +kernel
theorem dX1_write_45 : decode cX1_write 45 = .ok (.aload_n 0, 1) := by decide +kernel
theorem dX1_write_46 : decode cX1_write 46 = .ok (.iload_n 1, 1) := by decide +kernel
theorem dX1_write_47 : decode cX1_write 47 = .ok (.invokevirtual 50, 3) := by decide +kernel
theorem dX1_write_50 : decode cX1_write 50 = .ok (.ifCond .eq 18, 3) := by decide +kernel
theorem dX1_write_53 : decode cX1_write 53 = .ok (.aload_n 0, 1) := by decide +kernel
theorem dX1_write_54 : decode cX1_write 54 = .ok (.getfield 16, 3) := by decide +kernel
theorem dX1_write_57 : decode cX1_write 57 = .ok (.iload_n 1, 1) := by decide +kernel
theorem dX1_write_58 : decode cX1_write 58 = .ok (.iaload, 1) := by decide +kernel
theorem dX1_write_59 : decode cX1_write 59 = .ok (.iconst 4, 1) := by decide +kernel
theorem dX1_write_60 : decode cX1_write 60 = .ok (.if_icmp .ne 8, 3) := by decide +kernel
theorem dX1_write_63 : decode cX1_write 63 = .ok (.aload_n 0, 1) := by decide +kernel
theorem dX1_write_64 : decode cX1_write 64 = .ok (.iconst 1, 1) := by decide +kernel
theorem dX1_write_65 : decode cX1_write 65 = .ok (.putfield 33, 3) := by decide +kernel
theorem dX1_write_68 : decode cX1_write 68 = .ok (.aload_n 0, 1) := by decide +kernel
theorem dX1_write_69 : decode cX1_write 69 = .ok (.iload_n 1, 1) := by decide +kernel
theorem dX1_write_70 : decode cX1_write 70 = .ok (.aload_n 2, 1) := by decide +kernel
theorem dX1_write_71 : decode cX1_write 71 = .ok (.invokevirtual 42, 3) := by decide +kernel
theorem dX1_write_74 : decode cX1_write 74 = .ok (.iconst 1, 1) := by decide +kernel
theorem dX1_write_75 : decode cX1_write 75 = .ok (.ireturn, 1) := by decide +kernel
theorem dX1_read_0 : decode cX1_read 0 = .ok (.aload_n 0, 1) := by decide +kernel
theorem dX1_read_1 : decode cX1_read 1 = .ok (.iload_n 1, 1) := by decide +kernel
theorem dX1_read_2 : decode cX1_read 2 = .ok (.invokevirtual 50, 3) := by decide +kernel
theorem dX1_read_5 : decode cX1_read 5 = .ok (.ifCond .eq 23, 3) := by decide +kernel
theorem dX1_read_8 : decode cX1_read 8 = .ok (.aload_n 0, 1) := by decide +kernel
theorem dX1_read_9 : decode cX1_read 9 = .ok (.getfield 10, 3) := by decide +kernel
theorem dX1_read_12 : decode cX1_read 12 = .ok (.iload_n 1, 1) := by decide +kernel
theorem dX1_read_13 : decode cX1_read 13 = .ok (.sipush 256, 3) := by decide +kernel
theorem dX1_read_16 : decode cX1_read 16 = .ok (.imul, 1) := by decide +kernel
theorem dX1_read_17 : decode cX1_read 17 = .ok (.aload_n 2, 1) := by decide +kernel
theorem dX1_read_18 : decode cX1_read 18 = .ok (.invokevirtual 54, 3) := by decide +kernel
theorem dX1_read_21 : decode cX1_read 21 = .ok (.iconst 0, 1) := by decide +kernel
theorem dX1_read_22 : decode cX1_read 22 = .ok (.sipush 256, 3) := by decide +kernel
theorem dX1_read_25 : decode cX1_read 25 = .ok (.invokestatic 58, 3) := by decide +kernel
theorem dX1_read_28 : decode cX1_read 28 = .ok (.return_, 1) := by decide +kernel
theorem dX1_at_0 : decode cX1_at 0 = .ok (.iload_n 1, 1) := by decide +kernel
theorem dX1_at_1 : decode cX1_at 1 = .ok (.ifCond .lt 29, 3) := by decide +kernel
theorem dX1_at_4 : decode cX1_at 4 = .ok (.iload_n 1, 1) := by decide +kernel
theorem dX1_at_5 : decode cX1_at 5 = .ok (.aload_n 0, 1) := by decide +kernel
theorem dX1_at_6 : decode cX1_at 6 = .ok (.getfield 19, 3) := by decide +kernel
theorem dX1_at_9 : decode cX1_at 9 = .ok (.if_icmp .ge 21, 3) := by decide +kernel
theorem dX1_at_12 : decode cX1_at 12 = .ok (.iload_n 1, 1) := by decide +kernel
theorem dX1_at_13 : decode cX1_at 13 = .ok (.sipush 255, 3) := by decide +kernel
theorem dX1_at_16 : decode cX1_at 16 = .ok (.if_icmp .ge 14, 3) := by decide +kernel
theorem dX1_at_19 : decode cX1_at 19 = .ok (.iload_n 2, 1) := by decide +kernel
theorem dX1_at_20 : decode cX1_at 20 = .ok (.ifCond .lt 10, 3) := by decide +kernel
theorem dX1_at_23 : decode cX1_at 23 = .ok (.iload_n 2, 1) := by decide +kernel
theorem dX1_at_24 : decode cX1_at 24 = .ok (.sipush 256, 3) := by decide +kernel
theorem dX1_at_27 : decode cX1_at 27 = .ok (.if_icmp .lt 5, 3) := by decide +kernel
theorem dX1_at_30 : decode cX1_at 30 = .ok (.iconst (-1), 1) := by decide +kernel
theorem dX1_at_31 : decode cX1_at 31 = .ok (.ireturn, 1) := by decide +kernel
theorem dX1_at_32 : decode cX1_at 32 = .ok (.aload_n 0, 1) := by decide +kernel
theorem dX1_at_33 : decode cX1_at 33 = .ok (.getfield 10, 3) := by decide +kernel
theorem dX1_at_36 : decode cX1_at 36 = .ok (.iload_n 1, 1) := by decide +kernel
theorem dX1_at_37 : decode cX1_at 37 = .ok (.sipush 256, 3) := by decide +kernel
theorem dX1_at_40 : decode cX1_at 40 = .ok (.imul, 1) := by decide +kernel
theorem dX1_at_41 : decode cX1_at 41 = .ok (.iload_n 2, 1) := by decide +kernel
theorem dX1_at_42 : decode cX1_at 42 = .ok (.iadd, 1) := by decide +kernel
theorem dX1_at_43 : decode cX1_at 43 = .ok (.iaload, 1) := by decide +kernel
theorem dX1_at_44 : decode cX1_at 44 = .ok (.ireturn, 1) := by decide +kernel
theorem dX1_depth_0 : decode cX1_depth 0 = .ok (.aload_n 0, 1) := by decide +kernel
theorem dX1_depth_1 : decode cX1_depth 1 = .ok (.iconst 0, 1) := by decide +kernel
theorem dX1_depth_2 : decode cX1_depth 2 = .ok (.iconst 0, 1) := by decide +kernel
theorem dX1_depth_3 : decode cX1_depth 3 = .ok (.invokevirtual 70, 3) := by decide +kernel
theorem dX1_depth_6 : decode cX1_depth 6 = .ok (.ireturn, 1) := by decide +kernel
theorem dX1_directoryPage_0 : decode cX1_directoryPage 0 = .ok (.aload_n 0, 1) := by decide +kernel
theorem dX1_directoryPage_1 : decode cX1_directoryPage 1 = .ok (.iconst 0, 1) := by decide +kernel
theorem dX1_directoryPage_2 : decode cX1_directoryPage 2 = .ok (.iconst 1, 1) := by decide +kernel
theorem dX1_directoryPage_3 : decode cX1_directoryPage 3 = .ok (.iload_n 1, 1) := by decide +kernel
theorem dX1_directoryPage_4 : decode cX1_directoryPage 4 = .ok (.iadd, 1) := by decide +kernel
theorem dX1_directoryPage_5 : decode cX1_directoryPage 5 = .ok (.invokevirtual 70, 3) := by decide +kernel
theorem dX1_directoryPage_8 : decode cX1_directoryPage 8 = .ok (.ireturn, 1) := by decide +kernel
theorem dX1_entryAt_0 : decode cX1_entryAt 0 = .ok (.iload_n 1, 1) := by decide +kernel
theorem dX1_entryAt_1 : decode cX1_entryAt 1 = .ok (.ifCond .lt 13, 3) := by decide +kernel
theorem dX1_entryAt_4 : decode cX1_entryAt 4 = .ok (.iload_n 1, 1) := by decide +kernel
theorem dX1_entryAt_5 : decode cX1_entryAt 5 = .ok (.iconst 1, 1) := by decide +kernel
theorem dX1_entryAt_6 : decode cX1_entryAt 6 = .ok (.aload_n 0, 1) := by decide +kernel
theorem dX1_entryAt_7 : decode cX1_entryAt 7 = .ok (.invokevirtual 74, 3) := by decide +kernel
theorem dX1_entryAt_10 : decode cX1_entryAt 10 = .ok (.ishl, 1) := by decide +kernel
theorem dX1_entryAt_11 : decode cX1_entryAt 11 = .ok (.if_icmp .lt 5, 3) := by decide +kernel
theorem dX1_entryAt_14 : decode cX1_entryAt 14 = .ok (.iconst (-1), 1) := by decide +kernel
theorem dX1_entryAt_15 : decode cX1_entryAt 15 = .ok (.ireturn, 1) := by decide +kernel
theorem dX1_entryAt_16 : decode cX1_entryAt 16 = .ok (.aload_n 0, 1) := by decide +kernel
theorem dX1_entryAt_17 : decode cX1_entryAt 17 = .ok (.aload_n 0, 1) := by decide +kernel
theorem dX1_entryAt_18 : decode cX1_entryAt 18 = .ok (.iload_n 1, 1) := by decide +kernel
theorem dX1_entryAt_19 : decode cX1_entryAt 19 = .ok (.sipush 256, 3) := by decide +kernel
theorem dX1_entryAt_22 : decode cX1_entryAt 22 = .ok (.idiv, 1) := by decide +kernel
theorem dX1_entryAt_23 : decode cX1_entryAt 23 = .ok (.invokevirtual 78, 3) := by decide +kernel
theorem dX1_entryAt_26 : decode cX1_entryAt 26 = .ok (.iload_n 1, 1) := by decide +kernel
theorem dX1_entryAt_27 : decode cX1_entryAt 27 = .ok (.sipush 256, 3) := by decide +kernel
theorem dX1_entryAt_30 : decode cX1_entryAt 30 = .ok (.irem, 1) := by decide +kernel
theorem dX1_entryAt_31 : decode cX1_entryAt 31 = .ok (.invokevirtual 70, 3) := by decide +kernel
theorem dX1_entryAt_34 : decode cX1_entryAt 34 = .ok (.ireturn, 1) := by decide +kernel
theorem dX1_indexOf_0 : decode cX1_indexOf 0 = .ok (.iload_n 1, 1) := by decide +kernel
theorem dX1_indexOf_1 : decode cX1_indexOf 1 = .ok (.bipush 16, 2) := by decide +kernel
theorem dX1_indexOf_3 : decode cX1_indexOf 3 = .ok (.aload_n 0, 1) := by decide +kernel
theorem dX1_indexOf_4 : decode cX1_indexOf 4 = .ok (.invokevirtual 74, 3) := by decide +kernel
theorem dX1_indexOf_7 : decode cX1_indexOf 7 = .ok (.isub, 1) := by decide +kernel
theorem dX1_indexOf_8 : decode cX1_indexOf 8 = .ok (.ishr, 1) := by decide +kernel
theorem dX1_indexOf_9 : decode cX1_indexOf 9 = .ok (.ireturn, 1) := by decide +kernel
theorem dX1_bucketOf_0 : decode cX1_bucketOf 0 = .ok (.aload_n 0, 1) := by decide +kernel
theorem dX1_bucketOf_1 : decode cX1_bucketOf 1 = .ok (.aload_n 0, 1) := by decide +kernel
theorem dX1_bucketOf_2 : decode cX1_bucketOf 2 = .ok (.iload_n 1, 1) := by decide +kernel
theorem dX1_bucketOf_3 : decode cX1_bucketOf 3 = .ok (.invokevirtual 82, 3) := by decide +kernel
theorem dX1_bucketOf_6 : decode cX1_bucketOf 6 = .ok (.invokevirtual 85, 3) := by decide +kernel
theorem dX1_bucketOf_9 : decode cX1_bucketOf 9 = .ok (.ireturn, 1) := by decide +kernel
theorem dX1_kindOf_0 : decode cX1_kindOf 0 = .ok (.aload_n 0, 1) := by decide +kernel
theorem dX1_kindOf_1 : decode cX1_kindOf 1 = .ok (.iload_n 1, 1) := by decide +kernel
theorem dX1_kindOf_2 : decode cX1_kindOf 2 = .ok (.invokevirtual 50, 3) := by decide +kernel
theorem dX1_kindOf_5 : decode cX1_kindOf 5 = .ok (.ifCond .ne 5, 3) := by decide +kernel
theorem dX1_kindOf_8 : decode cX1_kindOf 8 = .ok (.iconst (-1), 1) := by decide +kernel
theorem dX1_kindOf_9 : decode cX1_kindOf 9 = .ok (.ireturn, 1) := by decide +kernel
theorem dX1_kindOf_10 : decode cX1_kindOf 10 = .ok (.aload_n 0, 1) := by decide +kernel
theorem dX1_kindOf_11 : decode cX1_kindOf 11 = .ok (.getfield 33, 3) := by decide +kernel
theorem dX1_kindOf_14 : decode cX1_kindOf 14 = .ok (.ifCond .eq 7, 3) := by decide +kernel
theorem dX1_kindOf_17 : decode cX1_kindOf 17 = .ok (.aload_n 0, 1) := by decide +kernel
theorem dX1_kindOf_18 : decode cX1_kindOf 18 = .ok (.invokevirtual 88, 3) := by decide +kernel
theorem dX1_kindOf_21 : decode cX1_kindOf 21 = .ok (.aload_n 0, 1) := by decide +kernel
theorem dX1_kindOf_22 : decode cX1_kindOf 22 = .ok (.getfield 16, 3) := by decide +kernel
theorem dX1_kindOf_25 : decode cX1_kindOf 25 = .ok (.iload_n 1, 1) := by decide +kernel
theorem dX1_kindOf_26 : decode cX1_kindOf 26 = .ok (.iaload, 1) := by decide +kernel
theorem dX1_kindOf_27 : decode cX1_kindOf 27 = .ok (.ireturn, 1) := by decide +kernel
theorem dX1_learnKinds_0 : decode cX1_learnKinds 0 = .ok (.aload_n 0, 1) := by decide +kernel
theorem dX1_learnKinds_1 : decode cX1_learnKinds 1 = .ok (.iconst 0, 1) := by decide +kernel
theorem dX1_learnKinds_2 : decode cX1_learnKinds 2 = .ok (.putfield 33, 3) := by decide +kernel
theorem dX1_learnKinds_5 : decode cX1_learnKinds 5 = .ok (.aload_n 0, 1) := by decide +kernel
theorem dX1_learnKinds_6 : decode cX1_learnKinds 6 = .ok (.getfield 16, 3) := by decide +kernel
theorem dX1_learnKinds_9 : decode cX1_learnKinds 9 = .ok (.iconst 0, 1) := by decide +kernel
theorem dX1_learnKinds_10 : decode cX1_learnKinds 10 = .ok (.invokestatic 91, 3) := by decide +kernel
theorem dX1_learnKinds_13 : decode cX1_learnKinds 13 = .ok (.aload_n 0, 1) := by decide +kernel
theorem dX1_learnKinds_14 : decode cX1_learnKinds 14 = .ok (.iconst 0, 1) := by decide +kernel
theorem dX1_learnKinds_15 : decode cX1_learnKinds 15 = .ok (.iconst 0, 1) := by decide +kernel
theorem dX1_learnKinds_16 : decode cX1_learnKinds 16 = .ok (.invokevirtual 70, 3) := by decide +kernel
theorem dX1_learnKinds_19 : decode cX1_learnKinds 19 = .ok (.istore_n 1, 1) := by decide +kernel
theorem dX1_learnKinds_20 : decode cX1_learnKinds 20 = .ok (.iload_n 1, 1) := by decide +kernel
theorem dX1_learnKinds_21 : decode cX1_learnKinds 21 = .ok (.invokestatic 97, 3) := by decide +kernel
theorem dX1_learnKinds_24 : decode cX1_learnKinds 24 = .ok (.istore_n 2, 1) := by decide +kernel
theorem dX1_learnKinds_25 : decode cX1_learnKinds 25 = .ok (.iconst 1, 1) := by decide +kernel
theorem dX1_learnKinds_26 : decode cX1_learnKinds 26 = .ok (.iload_n 1, 1) := by decide +kernel
theorem dX1_learnKinds_27 : decode cX1_learnKinds 27 = .ok (.ishl, 1) := by decide +kernel
theorem dX1_learnKinds_28 : decode cX1_learnKinds 28 = .ok (.sipush 256, 3) := by decide +kernel
theorem dX1_learnKinds_31 : decode cX1_learnKinds 31 = .ok (.invokestatic 100, 3) := by decide +kernel
theorem dX1_learnKinds_34 : decode cX1_learnKinds 34 = .ok (.istore_n 3, 1) := by decide +kernel
theorem dX1_learnKinds_35 : decode cX1_learnKinds 35 = .ok (.iconst 0, 1) := by decide +kernel
theorem dX1_learnKinds_36 : decode cX1_learnKinds 36 = .ok (.istore 4, 2) := by decide +kernel
theorem dX1_learnKinds_38 : decode cX1_learnKinds 38 = .ok (.iload 4, 2) := by decide +kernel
theorem dX1_learnKinds_40 : decode cX1_learnKinds 40 = .ok (.iload_n 2, 1) := by decide +kernel
theorem dX1_learnKinds_41 : decode cX1_learnKinds 41 = .ok (.if_icmp .ge 48, 3) := by decide +kernel
theorem dX1_learnKinds_44 : decode cX1_learnKinds 44 = .ok (.aload_n 0, 1) := by decide +kernel
theorem dX1_learnKinds_45 : decode cX1_learnKinds 45 = .ok (.iconst 0, 1) := by decide +kernel
theorem dX1_learnKinds_46 : decode cX1_learnKinds 46 = .ok (.iconst 1, 1) := by decide +kernel
theorem dX1_learnKinds_47 : decode cX1_learnKinds 47 = .ok (.iload 4, 2) := by decide +kernel
theorem dX1_learnKinds_49 : decode cX1_learnKinds 49 = .ok (.iadd, 1) := by decide +kernel
theorem dX1_learnKinds_50 : decode cX1_learnKinds 50 = .ok (.invokevirtual 70, 3) := by decide +kernel
theorem dX1_learnKinds_53 : decode cX1_learnKinds 53 = .ok (.istore 5, 2) := by decide +kernel
theorem dX1_learnKinds_55 : decode cX1_learnKinds 55 = .ok (.iconst 0, 1) := by decide +kernel
theorem dX1_learnKinds_56 : decode cX1_learnKinds 56 = .ok (.istore 6, 2) := by decide +kernel
theorem dX1_learnKinds_58 : decode cX1_learnKinds 58 = .ok (.iload 6, 2) := by decide +kernel
theorem dX1_learnKinds_60 : decode cX1_learnKinds 60 = .ok (.iload_n 3, 1) := by decide +kernel
theorem dX1_learnKinds_61 : decode cX1_learnKinds 61 = .ok (.if_icmp .ge 22, 3) := by decide +kernel
theorem dX1_learnKinds_64 : decode cX1_learnKinds 64 = .ok (.aload_n 0, 1) := by decide +kernel
theorem dX1_learnKinds_65 : decode cX1_learnKinds 65 = .ok (.aload_n 0, 1) := by decide +kernel
theorem dX1_learnKinds_66 : decode cX1_learnKinds 66 = .ok (.iload 5, 2) := by decide +kernel
theorem dX1_learnKinds_68 : decode cX1_learnKinds 68 = .ok (.iload 6, 2) := by decide +kernel
theorem dX1_learnKinds_70 : decode cX1_learnKinds 70 = .ok (.invokevirtual 70, 3) := by decide +kernel
theorem dX1_learnKinds_73 : decode cX1_learnKinds 73 = .ok (.iconst 5, 1) := by decide +kernel
theorem dX1_learnKinds_74 : decode cX1_learnKinds 74 = .ok (.invokevirtual 105, 3) := by decide +kernel
theorem dX1_learnKinds_77 : decode cX1_learnKinds 77 = .ok (.iinc 6 1, 3) := by decide +kernel
theorem dX1_learnKinds_80 : decode cX1_learnKinds 80 = .ok (.goto (-22), 3) := by decide +kernel
theorem dX1_learnKinds_83 : decode cX1_learnKinds 83 = .ok (.iinc 4 1, 3) := by decide +kernel
theorem dX1_learnKinds_86 : decode cX1_learnKinds 86 = .ok (.goto (-48), 3) := by decide +kernel
theorem dX1_learnKinds_89 : decode cX1_learnKinds 89 = .ok (.iconst 0, 1) := by decide +kernel
theorem dX1_learnKinds_90 : decode cX1_learnKinds 90 = .ok (.istore 4, 2) := by decide +kernel
theorem dX1_learnKinds_92 : decode cX1_learnKinds 92 = .ok (.iload 4, 2) := by decide +kernel
theorem dX1_learnKinds_94 : decode cX1_learnKinds 94 = .ok (.iload_n 2, 1) := by decide +kernel
theorem dX1_learnKinds_95 : decode cX1_learnKinds 95 = .ok (.if_icmp .ge 23, 3) := by decide +kernel
theorem dX1_learnKinds_98 : decode cX1_learnKinds 98 = .ok (.aload_n 0, 1) := by decide +kernel
theorem dX1_learnKinds_99 : decode cX1_learnKinds 99 = .ok (.aload_n 0, 1) := by decide +kernel
theorem dX1_learnKinds_100 : decode cX1_learnKinds 100 = .ok (.iconst 0, 1) := by decide +kernel
theorem dX1_learnKinds_101 : decode cX1_learnKinds 101 = .ok (.iconst 1, 1) := by decide +kernel
theorem dX1_learnKinds_102 : decode cX1_learnKinds 102 = .ok (.iload 4, 2) := by decide +kernel
theorem dX1_learnKinds_104 : decode cX1_learnKinds 104 = .ok (.iadd, 1) := by decide +kernel
theorem dX1_learnKinds_105 : decode cX1_learnKinds 105 = .ok (.invokevirtual 70, 3) := by decide +kernel
theorem dX1_learnKinds_108 : decode cX1_learnKinds 108 = .ok (.iconst 4, 1) := by decide +kernel
theorem dX1_learnKinds_109 : decode cX1_learnKinds 109 = .ok (.invokevirtual 105, 3) := by decide +kernel
theorem dX1_learnKinds_112 : decode cX1_learnKinds 112 = .ok (.iinc 4 1, 3) := by decide +kernel
theorem dX1_learnKinds_115 : decode cX1_learnKinds 115 = .ok (.goto (-23), 3) := by decide +kernel
theorem dX1_learnKinds_118 : decode cX1_learnKinds 118 = .ok (.iconst 0, 1) := by decide +kernel
theorem dX1_learnKinds_119 : decode cX1_learnKinds 119 = .ok (.istore 4, 2) := by decide +kernel
theorem dX1_learnKinds_121 : decode cX1_learnKinds 121 = .ok (.iload 4, 2) := by decide +kernel
theorem dX1_learnKinds_123 : decode cX1_learnKinds 123 = .ok (.aload_n 0, 1) := by decide +kernel
theorem dX1_learnKinds_124 : decode cX1_learnKinds 124 = .ok (.getfield 23, 3) := by decide +kernel
theorem dX1_learnKinds_127 : decode cX1_learnKinds 127 = .ok (.if_icmp .ge 18, 3) := by decide +kernel
theorem dX1_learnKinds_130 : decode cX1_learnKinds 130 = .ok (.aload_n 0, 1) := by decide +kernel
theorem dX1_learnKinds_131 : decode cX1_learnKinds 131 = .ok (.iconst 2, 1) := by decide +kernel
theorem dX1_learnKinds_132 : decode cX1_learnKinds 132 = .ok (.iload 4, 2) := by decide +kernel
theorem dX1_learnKinds_134 : decode cX1_learnKinds 134 = .ok (.iadd, 1) := by decide +kernel
theorem dX1_learnKinds_135 : decode cX1_learnKinds 135 = .ok (.iconst 3, 1) := by decide +kernel
theorem dX1_learnKinds_136 : decode cX1_learnKinds 136 = .ok (.invokevirtual 105, 3) := by decide +kernel
theorem dX1_learnKinds_139 : decode cX1_learnKinds 139 = .ok (.iinc 4 1, 3) := by decide +kernel
theorem dX1_learnKinds_142 : decode cX1_learnKinds 142 = .ok (.goto (-21), 3) := by decide +kernel
theorem dX1_learnKinds_145 : decode cX1_learnKinds 145 = .ok (.aload_n 0, 1) := by decide +kernel
theorem dX1_learnKinds_146 : decode cX1_learnKinds 146 = .ok (.iconst 1, 1) := by decide +kernel
theorem dX1_learnKinds_147 : decode cX1_learnKinds 147 = .ok (.iconst 2, 1) := by decide +kernel
theorem dX1_learnKinds_148 : decode cX1_learnKinds 148 = .ok (.invokevirtual 105, 3) := by decide +kernel
theorem dX1_learnKinds_151 : decode cX1_learnKinds 151 = .ok (.aload_n 0, 1) := by decide +kernel
theorem dX1_learnKinds_152 : decode cX1_learnKinds 152 = .ok (.iconst 0, 1) := by decide +kernel
theorem dX1_learnKinds_153 : decode cX1_learnKinds 153 = .ok (.iconst 1, 1) := by decide +kernel
theorem dX1_learnKinds_154 : decode cX1_learnKinds 154 = .ok (.invokevirtual 105, 3) := by decide +kernel
theorem dX1_learnKinds_157 : decode cX1_learnKinds 157 = .ok (.return_, 1) := by decide +kernel
theorem dX1_mark_0 : decode cX1_mark 0 = .ok (.aload_n 0, 1) := by decide +kernel
theorem dX1_mark_1 : decode cX1_mark 1 = .ok (.iload_n 1, 1) := by decide +kernel
theorem dX1_mark_2 : decode cX1_mark 2 = .ok (.invokevirtual 50, 3) := by decide +kernel
theorem dX1_mark_5 : decode cX1_mark 5 = .ok (.ifCond .eq 10, 3) := by decide +kernel
theorem dX1_mark_8 : decode cX1_mark 8 = .ok (.aload_n 0, 1) := by decide +kernel
theorem dX1_mark_9 : decode cX1_mark 9 = .ok (.getfield 16, 3) := by decide +kernel
theorem dX1_mark_12 : decode cX1_mark 12 = .ok (.iload_n 1, 1) := by decide +kernel
theorem dX1_mark_13 : decode cX1_mark 13 = .ok (.iload_n 2, 1) := by decide +kernel
theorem dX1_mark_14 : decode cX1_mark 14 = .ok (.iastore, 1) := by decide +kernel
theorem dX1_mark_15 : decode cX1_mark 15 = .ok (.return_, 1) := by decide +kernel
theorem dX1_countKind_0 : decode cX1_countKind 0 = .ok (.iconst 0, 1) := by decide +kernel
theorem dX1_countKind_1 : decode cX1_countKind 1 = .ok (.istore_n 2, 1) := by decide +kernel
theorem dX1_countKind_2 : decode cX1_countKind 2 = .ok (.iconst 0, 1) := by decide +kernel
theorem dX1_countKind_3 : decode cX1_countKind 3 = .ok (.istore_n 3, 1) := by decide +kernel
theorem dX1_countKind_4 : decode cX1_countKind 4 = .ok (.iload_n 3, 1) := by decide +kernel
theorem dX1_countKind_5 : decode cX1_countKind 5 = .ok (.aload_n 0, 1) := by decide +kernel
theorem dX1_countKind_6 : decode cX1_countKind 6 = .ok (.getfield 19, 3) := by decide +kernel
theorem dX1_countKind_9 : decode cX1_countKind 9 = .ok (.if_icmp .ge 21, 3) := by decide +kernel
theorem dX1_countKind_12 : decode cX1_countKind 12 = .ok (.aload_n 0, 1) := by decide +kernel
theorem dX1_countKind_13 : decode cX1_countKind 13 = .ok (.iload_n 3, 1) := by decide +kernel
theorem dX1_countKind_14 : decode cX1_countKind 14 = .ok (.invokevirtual 109, 3) := by decide +kernel
theorem dX1_countKind_17 : decode cX1_countKind 17 = .ok (.iload_n 1, 1) := by decide +kernel
theorem dX1_countKind_18 : decode cX1_countKind 18 = .ok (.if_icmp .ne 6, 3) := by decide +kernel
theorem dX1_countKind_21 : decode cX1_countKind 21 = .ok (.iinc 2 1, 3) := by decide +kernel
theorem dX1_countKind_24 : decode cX1_countKind 24 = .ok (.iinc 3 1, 3) := by decide +kernel
theorem dX1_countKind_27 : decode cX1_countKind 27 = .ok (.goto (-23), 3) := by decide +kernel
theorem dX1_countKind_30 : decode cX1_countKind 30 = .ok (.iload_n 2, 1) := by decide +kernel
theorem dX1_countKind_31 : decode cX1_countKind 31 = .ok (.ireturn, 1) := by decide +kernel
theorem dX1_freeBehind_0 : decode cX1_freeBehind 0 = .ok (.iload_n 1, 1) := by decide +kernel
theorem dX1_freeBehind_1 : decode cX1_freeBehind 1 = .ok (.iconst 1, 1) := by decide +kernel
theorem dX1_freeBehind_2 : decode cX1_freeBehind 2 = .ok (.iadd, 1) := by decide +kernel
theorem dX1_freeBehind_3 : decode cX1_freeBehind 3 = .ok (.istore_n 2, 1) := by decide +kernel
theorem dX1_freeBehind_4 : decode cX1_freeBehind 4 = .ok (.iload_n 2, 1) := by decide +kernel
theorem dX1_freeBehind_5 : decode cX1_freeBehind 5 = .ok (.aload_n 0, 1) := by decide +kernel
theorem dX1_freeBehind_6 : decode cX1_freeBehind 6 = .ok (.getfield 19, 3) := by decide +kernel
theorem dX1_freeBehind_9 : decode cX1_freeBehind 9 = .ok (.if_icmp .ge 19, 3) := by decide +kernel
theorem dX1_freeBehind_12 : decode cX1_freeBehind 12 = .ok (.aload_n 0, 1) := by decide +kernel
theorem dX1_freeBehind_13 : decode cX1_freeBehind 13 = .ok (.iload_n 2, 1) := by decide +kernel
theorem dX1_freeBehind_14 : decode cX1_freeBehind 14 = .ok (.invokevirtual 109, 3) := by decide +kernel
theorem dX1_freeBehind_17 : decode cX1_freeBehind 17 = .ok (.ifCond .ne 5, 3) := by decide +kernel
theorem dX1_freeBehind_20 : decode cX1_freeBehind 20 = .ok (.iload_n 2, 1) := by decide +kernel
theorem dX1_freeBehind_21 : decode cX1_freeBehind 21 = .ok (.ireturn, 1) := by decide +kernel
theorem dX1_freeBehind_22 : decode cX1_freeBehind 22 = .ok (.iinc 2 1, 3) := by decide +kernel
theorem dX1_freeBehind_25 : decode cX1_freeBehind 25 = .ok (.goto (-21), 3) := by decide +kernel
theorem dX1_freeBehind_28 : decode cX1_freeBehind 28 = .ok (.iconst (-1), 1) := by decide +kernel
theorem dX1_freeBehind_29 : decode cX1_freeBehind 29 = .ok (.ireturn, 1) := by decide +kernel
theorem dX1_countRecords_0 : decode cX1_countRecords 0 = .ok (.iconst 0, 1) := by decide +kernel
theorem dX1_countRecords_1 : decode cX1_countRecords 1 = .ok (.istore_n 1, 1) := by decide +kernel
theorem dX1_countRecords_2 : decode cX1_countRecords 2 = .ok (.iconst 0, 1) := by decide +kernel
theorem dX1_countRecords_3 : decode cX1_countRecords 3 = .ok (.istore_n 2, 1) := by decide +kernel
theorem dX1_countRecords_4 : decode cX1_countRecords 4 = .ok (.iload_n 2, 1) := by decide +kernel
theorem dX1_countRecords_5 : decode cX1_countRecords 5 = .ok (.aload_n 0, 1) := by decide +kernel
theorem dX1_countRecords_6 : decode cX1_countRecords 6 = .ok (.getfield 19, 3) := by decide +kernel
theorem dX1_countRecords_9 : decode cX1_countRecords 9 = .ok (.if_icmp .ge 27, 3) := by decide +kernel
theorem dX1_countRecords_12 : decode cX1_countRecords 12 = .ok (.aload_n 0, 1) := by decide +kernel
theorem dX1_countRecords_13 : decode cX1_countRecords 13 = .ok (.iload_n 2, 1) := by decide +kernel
theorem dX1_countRecords_14 : decode cX1_countRecords 14 = .ok (.invokevirtual 109, 3) := by decide +kernel
theorem dX1_countRecords_17 : decode cX1_countRecords 17 = .ok (.iconst 5, 1) := by decide +kernel
theorem dX1_countRecords_18 : decode cX1_countRecords 18 = .ok (.if_icmp .ne 12, 3) := by decide +kernel
theorem dX1_countRecords_21 : decode cX1_countRecords 21 = .ok (.iload_n 1, 1) := by decide +kernel
theorem dX1_countRecords_22 : decode cX1_countRecords 22 = .ok (.aload_n 0, 1) := by decide +kernel
theorem dX1_countRecords_23 : decode cX1_countRecords 23 = .ok (.iload_n 2, 1) := by decide +kernel
theorem dX1_countRecords_24 : decode cX1_countRecords 24 = .ok (.iconst 1, 1) := by decide +kernel
theorem dX1_countRecords_25 : decode cX1_countRecords 25 = .ok (.invokevirtual 70, 3) := by decide +kernel
theorem dX1_countRecords_28 : decode cX1_countRecords 28 = .ok (.iadd, 1) := by decide +kernel
theorem dX1_countRecords_29 : decode cX1_countRecords 29 = .ok (.istore_n 1, 1) := by decide +kernel
theorem dX1_countRecords_30 : decode cX1_countRecords 30 = .ok (.iinc 2 1, 3) := by decide +kernel
theorem dX1_countRecords_33 : decode cX1_countRecords 33 = .ok (.goto (-29), 3) := by decide +kernel
theorem dX1_countRecords_36 : decode cX1_countRecords 36 = .ok (.iload_n 1, 1) := by decide +kernel
theorem dX1_countRecords_37 : decode cX1_countRecords 37 = .ok (.ireturn, 1) := by decide +kernel
theorem dX1_hasBucketOfDepth_0 : decode cX1_hasBucketOfDepth 0 = .ok (.iconst 0, 1) := by decide +kernel
theorem dX1_hasBucketOfDepth_1 : decode cX1_hasBucketOfDepth 1 = .ok (.istore_n 2, 1) := by decide +kernel
theorem dX1_hasBucketOfDepth_2 : decode cX1_hasBucketOfDepth 2 = .ok (.iload_n 2, 1) := by decide +kernel
theorem dX1_hasBucketOfDepth_3 : decode cX1_hasBucketOfDepth 3 = .ok (.aload_n 0, 1) := by decide +kernel
theorem dX1_hasBucketOfDepth_4 : decode cX1_hasBucketOfDepth 4 = .ok (.getfield 19, 3) := by decide +kernel
theorem dX1_hasBucketOfDepth_7 : decode cX1_hasBucketOfDepth 7 = .ok (.if_icmp .ge 30, 3) := by decide +kernel
theorem dX1_hasBucketOfDepth_10 : decode cX1_hasBucketOfDepth 10 = .ok (.aload_n 0, 1) := by decide +kernel
theorem dX1_hasBucketOfDepth_11 : decode cX1_hasBucketOfDepth 11 = .ok (.iload_n 2, 1) := by decide +kernel
theorem dX1_hasBucketOfDepth_12 : decode cX1_hasBucketOfDepth 12 = .ok (.invokevirtual 109, 3) := by decide +kernel
theorem dX1_hasBucketOfDepth_15 : decode cX1_hasBucketOfDepth 15 = .ok (.iconst 5, 1) := by decide +kernel
theorem dX1_hasBucketOfDepth_16 : decode cX1_hasBucketOfDepth 16 = .ok (.if_icmp .ne 15, 3) := by decide +kernel
theorem dX1_hasBucketOfDepth_19 : decode cX1_hasBucketOfDepth 19 = .ok (.aload_n 0, 1) := by decide +kernel
theorem dX1_hasBucketOfDepth_20 : decode cX1_hasBucketOfDepth 20 = .ok (.iload_n 2, 1) := by decide +kernel
theorem dX1_hasBucketOfDepth_21 : decode cX1_hasBucketOfDepth 21 = .ok (.iconst 0, 1) := by decide +kernel
theorem dX1_hasBucketOfDepth_22 : decode cX1_hasBucketOfDepth 22 = .ok (.invokevirtual 70, 3) := by decide +kernel
theorem dX1_hasBucketOfDepth_25 : decode cX1_hasBucketOfDepth 25 = .ok (.iload_n 1, 1) := by decide +kernel
theorem dX1_hasBucketOfDepth_26 : decode cX1_hasBucketOfDepth 26 = .ok (.if_icmp .ne 5, 3) := by decide +kernel
theorem dX1_hasBucketOfDepth_29 : decode cX1_hasBucketOfDepth 29 = .ok (.iconst 1, 1) := by decide +kernel
theorem dX1_hasBucketOfDepth_30 : decode cX1_hasBucketOfDepth 30 = .ok (.ireturn, 1) := by decide +kernel
theorem dX1_hasBucketOfDepth_31 : decode cX1_hasBucketOfDepth 31 = .ok (.iinc 2 1, 3) := by decide +kernel
theorem dX1_hasBucketOfDepth_34 : decode cX1_hasBucketOfDepth 34 = .ok (.goto (-32), 3) := by decide +kernel
theorem dX1_hasBucketOfDepth_37 : decode cX1_hasBucketOfDepth 37 = .ok (.iconst 0, 1) := by decide +kernel
theorem dX1_hasBucketOfDepth_38 : decode cX1_hasBucketOfDepth 38 = .ok (.ireturn, 1) := by decide +kernel
theorem dX1_recordBytes_0 : decode cX1_recordBytes 0 = .ok (.aload_n 0, 1) := by decide +kernel
theorem dX1_recordBytes_1 : decode cX1_recordBytes 1 = .ok (.iload_n 1, 1) := by decide +kernel
theorem dX1_recordBytes_2 : decode cX1_recordBytes 2 = .ok (.iconst 2, 1) := by decide +kernel
theorem dX1_recordBytes_3 : decode cX1_recordBytes 3 = .ok (.invokevirtual 70, 3) := by decide +kernel
theorem dX1_recordBytes_6 : decode cX1_recordBytes 6 = .ok (.sipush 256, 3) := by decide +kernel
theorem dX1_recordBytes_9 : decode cX1_recordBytes 9 = .ok (.imul, 1) := by decide +kernel
theorem dX1_recordBytes_10 : decode cX1_recordBytes 10 = .ok (.aload_n 0, 1) := by decide +kernel
theorem dX1_recordBytes_11 : decode cX1_recordBytes 11 = .ok (.iload_n 1, 1) := by decide +kernel
theorem dX1_recordBytes_12 : decode cX1_recordBytes 12 = .ok (.iconst 3, 1) := by decide +kernel
theorem dX1_recordBytes_13 : decode cX1_recordBytes 13 = .ok (.invokevirtual 70, 3) := by decide +kernel
theorem dX1_recordBytes_16 : decode cX1_recordBytes 16 = .ok (.iadd, 1) := by decide +kernel
theorem dX1_recordBytes_17 : decode cX1_recordBytes 17 = .ok (.ireturn, 1) := by decide +kernel
theorem dX1_recordSize_0 : decode cX1_recordSize 0 = .ok (.iconst 2, 1) := by decide +kernel
theorem dX1_recordSize_1 : decode cX1_recordSize 1 = .ok (.aload_n 0, 1) := by decide +kernel
theorem dX1_recordSize_2 : decode cX1_recordSize 2 = .ok (.iload_n 1, 1) := by decide +kernel
theorem dX1_recordSize_3 : decode cX1_recordSize 3 = .ok (.iload_n 2, 1) := by decide +kernel
theorem dX1_recordSize_4 : decode cX1_recordSize 4 = .ok (.invokevirtual 70, 3) := by decide +kernel
theorem dX1_recordSize_7 : decode cX1_recordSize 7 = .ok (.iadd, 1) := by decide +kernel
theorem dX1_recordSize_8 : decode cX1_recordSize 8 = .ok (.aload_n 0, 1) := by decide +kernel
theorem dX1_recordSize_9 : decode cX1_recordSize 9 = .ok (.iload_n 1, 1) := by decide +kernel
theorem dX1_recordSize_10 : decode cX1_recordSize 10 = .ok (.iload_n 2, 1) := by decide +kernel
theorem dX1_recordSize_11 : decode cX1_recordSize 11 = .ok (.iconst 1, 1) := by decide +kernel
theorem dX1_recordSize_12 : decode cX1_recordSize 12 = .ok (.iadd, 1) := by decide +kernel
theorem dX1_recordSize_13 : decode cX1_recordSize 13 = .ok (.invokevirtual 70, 3) := by decide +kernel
theorem dX1_recordSize_16 : decode cX1_recordSize 16 = .ok (.iadd, 1) := by decide +kernel
theorem dX1_recordSize_17 : decode cX1_recordSize 17 = .ok (.ireturn, 1) := by decide +kernel
theorem dX1_recordStart_0 : decode cX1_recordStart 0 = .ok (.iconst 4, 1) := by decide +kernel
theorem dX1_recordStart_1 : decode cX1_recordStart 1 = .ok (.istore_n 3, 1) := by decide +kernel
theorem dX1_recordStart_2 : decode cX1_recordStart 2 = .ok (.iconst 0, 1) := by decide +kernel
theorem dX1_recordStart_3 : decode cX1_recordStart 3 = .ok (.istore 4, 2) := by decide +kernel
theorem dX1_recordStart_5 : decode cX1_recordStart 5 = .ok (.iload 4, 2) := by decide +kernel
theorem dX1_recordStart_7 : decode cX1_recordStart 7 = .ok (.iload_n 2, 1) := by decide +kernel
theorem dX1_recordStart_8 : decode cX1_recordStart 8 = .ok (.if_icmp .ge 18, 3) := by decide +kernel
theorem dX1_recordStart_11 : decode cX1_recordStart 11 = .ok (.iload_n 3, 1) := by decide +kernel
theorem dX1_recordStart_12 : decode cX1_recordStart 12 = .ok (.aload_n 0, 1) := by decide +kernel
theorem dX1_recordStart_13 : decode cX1_recordStart 13 = .ok (.iload_n 1, 1) := by decide +kernel
theorem dX1_recordStart_14 : decode cX1_recordStart 14 = .ok (.iload_n 3, 1) := by decide +kernel
theorem dX1_recordStart_15 : decode cX1_recordStart 15 = .ok (.invokevirtual 112, 3) := by decide +kernel
theorem dX1_recordStart_18 : decode cX1_recordStart 18 = .ok (.iadd, 1) := by decide +kernel
theorem dX1_recordStart_19 : decode cX1_recordStart 19 = .ok (.istore_n 3, 1) := by decide +kernel
theorem dX1_recordStart_20 : decode cX1_recordStart 20 = .ok (.iinc 4 1, 3) := by decide +kernel
theorem dX1_recordStart_23 : decode cX1_recordStart 23 = .ok (.goto (-18), 3) := by decide +kernel
theorem dX1_recordStart_26 : decode cX1_recordStart 26 = .ok (.iload_n 3, 1) := by decide +kernel
theorem dX1_recordStart_27 : decode cX1_recordStart 27 = .ok (.ireturn, 1) := by decide +kernel
theorem dX1_recordHash_0 : decode cX1_recordHash 0 = .ok (.aload_n 0, 1) := by decide +kernel
theorem dX1_recordHash_1 : decode cX1_recordHash 1 = .ok (.getfield 10, 3) := by decide +kernel
theorem dX1_recordHash_4 : decode cX1_recordHash 4 = .ok (.iload_n 1, 1) := by decide +kernel
theorem dX1_recordHash_5 : decode cX1_recordHash 5 = .ok (.sipush 256, 3) := by decide +kernel
theorem dX1_recordHash_8 : decode cX1_recordHash 8 = .ok (.imul, 1) := by decide +kernel
theorem dX1_recordHash_9 : decode cX1_recordHash 9 = .ok (.iload_n 2, 1) := by decide +kernel
theorem dX1_recordHash_10 : decode cX1_recordHash 10 = .ok (.iadd, 1) := by decide +kernel
theorem dX1_recordHash_11 : decode cX1_recordHash 11 = .ok (.iconst 2, 1) := by decide +kernel
theorem dX1_recordHash_12 : decode cX1_recordHash 12 = .ok (.iadd, 1) := by decide +kernel
theorem dX1_recordHash_13 : decode cX1_recordHash 13 = .ok (.aload_n 0, 1) := by decide +kernel
theorem dX1_recordHash_14 : decode cX1_recordHash 14 = .ok (.iload_n 1, 1) := by decide +kernel
theorem dX1_recordHash_15 : decode cX1_recordHash 15 = .ok (.iload_n 2, 1) := by decide +kernel
theorem dX1_recordHash_16 : decode cX1_recordHash 16 = .ok (.invokevirtual 70, 3) := by decide +kernel
theorem dX1_recordHash_19 : decode cX1_recordHash 19 = .ok (.invokestatic 115, 3) := by decide +kernel
theorem dX1_recordHash_22 : decode cX1_recordHash 22 = .ok (.ireturn, 1) := by decide +kernel
theorem dX1_allHashesAre_0 : decode cX1_allHashesAre 0 = .ok (.aload_n 0, 1) := by decide +kernel
theorem dX1_allHashesAre_1 : decode cX1_allHashesAre 1 = .ok (.iload_n 1, 1) := by decide +kernel
theorem dX1_allHashesAre_2 : decode cX1_allHashesAre 2 = .ok (.iconst 1, 1) := by decide +kernel
theorem dX1_allHashesAre_3 : decode cX1_allHashesAre 3 = .ok (.invokevirtual 70, 3) := by decide +kernel
theorem dX1_allHashesAre_6 : decode cX1_allHashesAre 6 = .ok (.istore_n 3, 1) := by decide +kernel
theorem dX1_allHashesAre_7 : decode cX1_allHashesAre 7 = .ok (.iconst 4, 1) := by decide +kernel
theorem dX1_allHashesAre_8 : decode cX1_allHashesAre 8 = .ok (.istore 4, 2) := by decide +kernel
theorem dX1_allHashesAre_10 : decode cX1_allHashesAre 10 = .ok (.iconst 0, 1) := by decide +kernel
theorem dX1_allHashesAre_11 : decode cX1_allHashesAre 11 = .ok (.istore 5, 2) := by decide +kernel
theorem dX1_allHashesAre_13 : decode cX1_allHashesAre 13 = .ok (.iload 5, 2) := by decide +kernel
theorem dX1_allHashesAre_15 : decode cX1_allHashesAre 15 = .ok (.iload_n 3, 1) := by decide +kernel
theorem dX1_allHashesAre_16 : decode cX1_allHashesAre 16 = .ok (.if_icmp .ge 34, 3) := by decide +kernel
theorem dX1_allHashesAre_19 : decode cX1_allHashesAre 19 = .ok (.aload_n 0, 1) := by decide +kernel
theorem dX1_allHashesAre_20 : decode cX1_allHashesAre 20 = .ok (.iload_n 1, 1) := by decide +kernel
theorem dX1_allHashesAre_21 : decode cX1_allHashesAre 21 = .ok (.iload 4, 2) := by decide +kernel
theorem dX1_allHashesAre_23 : decode cX1_allHashesAre 23 = .ok (.invokevirtual 119, 3) := by decide +kernel
theorem dX1_allHashesAre_26 : decode cX1_allHashesAre 26 = .ok (.iload_n 2, 1) := by decide +kernel
theorem dX1_allHashesAre_27 : decode cX1_allHashesAre 27 = .ok (.if_icmp .eq 5, 3) := by decide +kernel
theorem dX1_allHashesAre_30 : decode cX1_allHashesAre 30 = .ok (.iconst 0, 1) := by decide +kernel
theorem dX1_allHashesAre_31 : decode cX1_allHashesAre 31 = .ok (.ireturn, 1) := by decide +kernel
theorem dX1_allHashesAre_32 : decode cX1_allHashesAre 32 = .ok (.iload 4, 2) := by decide +kernel
theorem dX1_allHashesAre_34 : decode cX1_allHashesAre 34 = .ok (.aload_n 0, 1) := by decide +kernel
theorem dX1_allHashesAre_35 : decode cX1_allHashesAre 35 = .ok (.iload_n 1, 1) := by decide +kernel
theorem dX1_allHashesAre_36 : decode cX1_allHashesAre 36 = .ok (.iload 4, 2) := by decide +kernel
theorem dX1_allHashesAre_38 : decode cX1_allHashesAre 38 = .ok (.invokevirtual 112, 3) := by decide +kernel
theorem dX1_allHashesAre_41 : decode cX1_allHashesAre 41 = .ok (.iadd, 1) := by decide +kernel
theorem dX1_allHashesAre_42 : decode cX1_allHashesAre 42 = .ok (.istore 4, 2) := by decide +kernel
theorem dX1_allHashesAre_44 : decode cX1_allHashesAre 44 = .ok (.iinc 5 1, 3) := by decide +kernel
theorem dX1_allHashesAre_47 : decode cX1_allHashesAre 47 = .ok (.goto (-34), 3) := by decide +kernel
theorem dX1_allHashesAre_50 : decode cX1_allHashesAre 50 = .ok (.iconst 1, 1) := by decide +kernel
theorem dX1_allHashesAre_51 : decode cX1_allHashesAre 51 = .ok (.ireturn, 1) := by decide +kernel
theorem dX1_find_0 : decode cX1_find 0 = .ok (.aload_n 0, 1) := by decide +kernel
theorem dX1_find_1 : decode cX1_find 1 = .ok (.iload_n 1, 1) := by decide +kernel
theorem dX1_find_2 : decode cX1_find 2 = .ok (.iconst 1, 1) := by decide +kernel
theorem dX1_find_3 : decode cX1_find 3 = .ok (.invokevirtual 70, 3) := by decide +kernel
theorem dX1_find_6 : decode cX1_find 6 = .ok (.istore 4, 2) := by decide +kernel
theorem dX1_find_8 : decode cX1_find 8 = .ok (.iconst 4, 1) := by decide +kernel
theorem dX1_find_9 : decode cX1_find 9 = .ok (.istore 5, 2) := by decide +kernel
theorem dX1_find_11 : decode cX1_find 11 = .ok (.iconst 0, 1) := by decide +kernel
theorem dX1_find_12 : decode cX1_find 12 = .ok (.istore 6, 2) := by decide +kernel
theorem dX1_find_14 : decode cX1_find 14 = .ok (.iload 6, 2) := by decide +kernel
theorem dX1_find_16 : decode cX1_find 16 = .ok (.iload 4, 2) := by decide +kernel
theorem dX1_find_18 : decode cX1_find 18 = .ok (.if_icmp .ge 49, 3) := by decide +kernel
theorem dX1_find_21 : decode cX1_find 21 = .ok (.aload_n 0, 1) := by decide +kernel
theorem dX1_find_22 : decode cX1_find 22 = .ok (.iload_n 1, 1) := by decide +kernel
theorem dX1_find_23 : decode cX1_find 23 = .ok (.iload 5, 2) := by decide +kernel
theorem dX1_find_25 : decode cX1_find 25 = .ok (.invokevirtual 70, 3) := by decide +kernel
theorem dX1_find_28 : decode cX1_find 28 = .ok (.iload_n 3, 1) := by decide +kernel
theorem dX1_find_29 : decode cX1_find 29 = .ok (.if_icmp .ne 20, 3) := by decide +kernel
theorem dX1_find_32 : decode cX1_find 32 = .ok (.aload_n 0, 1) := by decide +kernel
theorem dX1_find_33 : decode cX1_find 33 = .ok (.iload_n 1, 1) := by decide +kernel
theorem dX1_find_34 : decode cX1_find 34 = .ok (.iload 5, 2) := by decide +kernel
theorem dX1_find_36 : decode cX1_find 36 = .ok (.iconst 2, 1) := by decide +kernel
theorem dX1_find_37 : decode cX1_find 37 = .ok (.iadd, 1) := by decide +kernel
theorem dX1_find_38 : decode cX1_find 38 = .ok (.aload_n 2, 1) := by decide +kernel
theorem dX1_find_39 : decode cX1_find 39 = .ok (.iload_n 3, 1) := by decide +kernel
theorem dX1_find_40 : decode cX1_find 40 = .ok (.invokevirtual 122, 3) := by decide +kernel
theorem dX1_find_43 : decode cX1_find 43 = .ok (.ifCond .eq 6, 3) := by decide +kernel
theorem dX1_find_46 : decode cX1_find 46 = .ok (.iload 5, 2) := by decide +kernel
theorem dX1_find_48 : decode cX1_find 48 = .ok (.ireturn, 1) := by decide +kernel
theorem dX1_find_49 : decode cX1_find 49 = .ok (.iload 5, 2) := by decide +kernel
theorem dX1_find_51 : decode cX1_find 51 = .ok (.aload_n 0, 1) := by decide +kernel
theorem dX1_find_52 : decode cX1_find 52 = .ok (.iload_n 1, 1) := by decide +kernel
theorem dX1_find_53 : decode cX1_find 53 = .ok (.iload 5, 2) := by decide +kernel
theorem dX1_find_55 : decode cX1_find 55 = .ok (.invokevirtual 112, 3) := by decide +kernel
theorem dX1_find_58 : decode cX1_find 58 = .ok (.iadd, 1) := by decide +kernel
theorem dX1_find_59 : decode cX1_find 59 = .ok (.istore 5, 2) := by decide +kernel
theorem dX1_find_61 : decode cX1_find 61 = .ok (.iinc 6 1, 3) := by decide +kernel
theorem dX1_find_64 : decode cX1_find 64 = .ok (.goto (-50), 3) := by decide +kernel
theorem dX1_find_67 : decode cX1_find 67 = .ok (.iconst (-1), 1) := by decide +kernel
theorem dX1_find_68 : decode cX1_find 68 = .ok (.ireturn, 1) := by decide +kernel
theorem dX1_hasKey_0 : decode cX1_hasKey 0 = .ok (.iconst 0, 1) := by decide +kernel
theorem dX1_hasKey_1 : decode cX1_hasKey 1 = .ok (.istore 5, 2) := by decide +kernel
theorem dX1_hasKey_3 : decode cX1_hasKey 3 = .ok (.iload 5, 2) := by decide +kernel
theorem dX1_hasKey_5 : decode cX1_hasKey 5 = .ok (.iload 4, 2) := by decide +kernel
theorem dX1_hasKey_7 : decode cX1_hasKey 7 = .ok (.if_icmp .ge 29, 3) := by decide +kernel
theorem dX1_hasKey_10 : decode cX1_hasKey 10 = .ok (.aload_n 0, 1) := by decide +kernel
theorem dX1_hasKey_11 : decode cX1_hasKey 11 = .ok (.iload_n 1, 1) := by decide +kernel
theorem dX1_hasKey_12 : decode cX1_hasKey 12 = .ok (.iload_n 2, 1) := by decide +kernel
theorem dX1_hasKey_13 : decode cX1_hasKey 13 = .ok (.iload 5, 2) := by decide +kernel
theorem dX1_hasKey_15 : decode cX1_hasKey 15 = .ok (.iadd, 1) := by decide +kernel
theorem dX1_hasKey_16 : decode cX1_hasKey 16 = .ok (.invokevirtual 70, 3) := by decide +kernel
theorem dX1_hasKey_19 : decode cX1_hasKey 19 = .ok (.aload_n 3, 1) := by decide +kernel
theorem dX1_hasKey_20 : decode cX1_hasKey 20 = .ok (.iload 5, 2) := by decide +kernel
theorem dX1_hasKey_22 : decode cX1_hasKey 22 = .ok (.invokevirtual 126, 3) := by decide +kernel
theorem dX1_hasKey_25 : decode cX1_hasKey 25 = .ok (.if_icmp .eq 5, 3) := by decide +kernel
theorem dX1_hasKey_28 : decode cX1_hasKey 28 = .ok (.iconst 0, 1) := by decide +kernel
theorem dX1_hasKey_29 : decode cX1_hasKey 29 = .ok (.ireturn, 1) := by decide +kernel
theorem dX1_hasKey_30 : decode cX1_hasKey 30 = .ok (.iinc 5 1, 3) := by decide +kernel
theorem dX1_hasKey_33 : decode cX1_hasKey 33 = .ok (.goto (-30), 3) := by decide +kernel
theorem dX1_hasKey_36 : decode cX1_hasKey 36 = .ok (.iconst 1, 1) := by decide +kernel
theorem dX1_hasKey_37 : decode cX1_hasKey 37 = .ok (.ireturn, 1) := by decide +kernel
theorem dX2_init_0 : decode cX2_init 0 = .ok (.aload_n 0, 1) := by decide +kernel
theorem dX2_init_1 : decode cX2_init 1 = .ok (.invokespecial 3, 3) := by decide +kernel
theorem dX2_init_4 : decode cX2_init 4 = .ok (.aload_n 0, 1) := by decide +kernel
theorem dX2_init_5 : decode cX2_init 5 = .ok (.sipush 256, 3) := by decide +kernel
theorem dX2_init_8 : decode cX2_init 8 = .ok (.newarray .int, 2) := by decide +kernel
theorem dX2_init_10 : decode cX2_init 10 = .ok (.putfield 9, 3) := by decide +kernel
theorem dX2_init_13 : decode cX2_init 13 = .ok (.return_, 1) := by decide +kernel
theorem dX2_bytes_0 : decode cX2_bytes 0 = .ok (.aload_n 0, 1) := by decide +kernel
theorem dX2_bytes_1 : decode cX2_bytes 1 = .ok (.getfield 9, 3) := by decide +kernel
theorem dX2_bytes_4 : decode cX2_bytes 4 = .ok (.areturn, 1) := by decide +kernel
theorem dX2_byteAt_0 : decode cX2_byteAt 0 = .ok (.iload_n 1, 1) := by decide +kernel
theorem dX2_byteAt_1 : decode cX2_byteAt 1 = .ok (.ifCond .lt 21, 3) := by decide +kernel
theorem dX2_byteAt_4 : decode cX2_byteAt 4 = .ok (.iload_n 1, 1) := by decide +kernel
theorem dX2_byteAt_5 : decode cX2_byteAt 5 = .ok (.aload_n 0, 1) := by decide +kernel
theorem dX2_byteAt_6 : decode cX2_byteAt 6 = .ok (.getfield 9, 3) := by decide +kernel
theorem dX2_byteAt_9 : decode cX2_byteAt 9 = .ok (.arraylength, 1) := by decide +kernel
theorem dX2_byteAt_10 : decode cX2_byteAt 10 = .ok (.if_icmp .ge 12, 3) := by decide +kernel
theorem dX2_byteAt_13 : decode cX2_byteAt 13 = .ok (.aload_n 0, 1) := by decide +kernel
theorem dX2_byteAt_14 : decode cX2_byteAt 14 = .ok (.getfield 9, 3) := by decide +kernel
theorem dX2_byteAt_17 : decode cX2_byteAt 17 = .ok (.iload_n 1, 1) := by decide +kernel
theorem dX2_byteAt_18 : decode cX2_byteAt 18 = .ok (.iaload, 1) := by decide +kernel
theorem dX2_byteAt_19 : decode cX2_byteAt 19 = .ok (.goto 4, 3) := by decide +kernel
theorem dX2_byteAt_22 : decode cX2_byteAt 22 = .ok (.iconst 0, 1) := by decide +kernel
theorem dX2_byteAt_23 : decode cX2_byteAt 23 = .ok (.ireturn, 1) := by decide +kernel
theorem dX2_set_0 : decode cX2_set 0 = .ok (.iload_n 1, 1) := by decide +kernel
theorem dX2_set_1 : decode cX2_set 1 = .ok (.ifCond .lt 23, 3) := by decide +kernel
theorem dX2_set_4 : decode cX2_set 4 = .ok (.iload_n 1, 1) := by decide +kernel
theorem dX2_set_5 : decode cX2_set 5 = .ok (.aload_n 0, 1) := by decide +kernel
theorem dX2_set_6 : decode cX2_set 6 = .ok (.getfield 9, 3) := by decide +kernel
theorem dX2_set_9 : decode cX2_set 9 = .ok (.arraylength, 1) := by decide +kernel
theorem dX2_set_10 : decode cX2_set 10 = .ok (.if_icmp .ge 14, 3) := by decide +kernel
theorem dX2_set_13 : decode cX2_set 13 = .ok (.aload_n 0, 1) := by decide +kernel
theorem dX2_set_14 : decode cX2_set 14 = .ok (.getfield 9, 3) := by decide +kernel
theorem dX2_set_17 : decode cX2_set 17 = .ok (.iload_n 1, 1) := by decide +kernel
theorem dX2_set_18 : decode cX2_set 18 = .ok (.iload_n 2, 1) := by decide +kernel
theorem dX2_set_19 : decode cX2_set 19 = .ok (.sipush 255, 3) := by decide +kernel
theorem dX2_set_22 : decode cX2_set 22 = .ok (.iand, 1) := by decide +kernel
theorem dX2_set_23 : decode cX2_set 23 = .ok (.iastore, 1) := by decide +kernel
theorem dX2_set_24 : decode cX2_set 24 = .ok (.return_, 1) := by decide +kernel
theorem dX2_clear_0 : decode cX2_clear 0 = .ok (.aload_n 0, 1) := by decide +kernel
theorem dX2_clear_1 : decode cX2_clear 1 = .ok (.getfield 9, 3) := by decide +kernel
theorem dX2_clear_4 : decode cX2_clear 4 = .ok (.iconst 0, 1) := by decide +kernel
theorem dX2_clear_5 : decode cX2_clear 5 = .ok (.invokestatic 15, 3) := by decide +kernel
theorem dX2_clear_8 : decode cX2_clear 8 = .ok (.return_, 1) := by decide +kernel
theorem dX2_startBucket_0 : decode cX2_startBucket 0 = .ok (.aload_n 0, 1) := by decide +kernel
theorem dX2_startBucket_1 : decode cX2_startBucket 1 = .ok (.invokevirtual 21, 3) := by decide +kernel
theorem dX2_startBucket_4 : decode cX2_startBucket 4 = .ok (.aload_n 0, 1) := by decide +kernel
theorem dX2_startBucket_5 : decode cX2_startBucket 5 = .ok (.iconst 0, 1) := by decide +kernel
theorem dX2_startBucket_6 : decode cX2_startBucket 6 = .ok (.iload_n 1, 1) := by decide +kernel
theorem dX2_startBucket_7 : decode cX2_startBucket 7 = .ok (.invokevirtual 24, 3) := by decide +kernel
theorem dX2_startBucket_10 : decode cX2_startBucket 10 = .ok (.return_, 1) := by decide +kernel
theorem dX2_copyRecord_0 : decode cX2_copyRecord 0 = .ok (.aload_n 1, 1) := by decide +kernel
theorem dX2_copyRecord_1 : decode cX2_copyRecord 1 = .ok (.iload_n 2, 1) := by decide +kernel
theorem dX2_copyRecord_2 : decode cX2_copyRecord 2 = .ok (.iload_n 3, 1) := by decide +kernel
theorem dX2_copyRecord_3 : decode cX2_copyRecord 3 = .ok (.invokevirtual 28, 3) := by decide +kernel
theorem dX2_copyRecord_6 : decode cX2_copyRecord 6 = .ok (.istore 4, 2) := by decide +kernel
theorem dX2_copyRecord_8 : decode cX2_copyRecord 8 = .ok (.aload_n 0, 1) := by decide +kernel
theorem dX2_copyRecord_9 : decode cX2_copyRecord 9 = .ok (.iload 4, 2) := by decide +kernel
theorem dX2_copyRecord_11 : decode cX2_copyRecord 11 = .ok (.invokevirtual 34, 3) := by decide +kernel
theorem dX2_copyRecord_14 : decode cX2_copyRecord 14 = .ok (.istore 5, 2) := by decide +kernel
theorem dX2_copyRecord_16 : decode cX2_copyRecord 16 = .ok (.iconst 0, 1) := by decide +kernel
theorem dX2_copyRecord_17 : decode cX2_copyRecord 17 = .ok (.istore 6, 2) := by decide +kernel
theorem dX2_copyRecord_19 : decode cX2_copyRecord 19 = .ok (.iload 6, 2) := by decide +kernel
theorem dX2_copyRecord_21 : decode cX2_copyRecord 21 = .ok (.iload 4, 2) := by decide +kernel
theorem dX2_copyRecord_23 : decode cX2_copyRecord 23 = .ok (.if_icmp .ge 27, 3) := by decide +kernel
theorem dX2_copyRecord_26 : decode cX2_copyRecord 26 = .ok (.aload_n 0, 1) := by decide +kernel
theorem dX2_copyRecord_27 : decode cX2_copyRecord 27 = .ok (.iload 5, 2) := by decide +kernel
theorem dX2_copyRecord_29 : decode cX2_copyRecord 29 = .ok (.iload 6, 2) := by decide +kernel
theorem dX2_copyRecord_31 : decode cX2_copyRecord 31 = .ok (.iadd, 1) := by decide +kernel
theorem dX2_copyRecord_32 : decode cX2_copyRecord 32 = .ok (.aload_n 1, 1) := by decide +kernel
theorem dX2_copyRecord_33 : decode cX2_copyRecord 33 = .ok (.iload_n 2, 1) := by decide +kernel
theorem dX2_copyRecord_34 : decode cX2_copyRecord 34 = .ok (.iload_n 3, 1) := by decide +kernel
theorem dX2_copyRecord_35 : decode cX2_copyRecord 35 = .ok (.iload 6, 2) := by decide +kernel
theorem dX2_copyRecord_37 : decode cX2_copyRecord 37 = .ok (.iadd, 1) := by decide +kernel
theorem dX2_copyRecord_38 : decode cX2_copyRecord 38 = .ok (.invokevirtual 38, 3) := by decide +kernel
theorem dX2_copyRecord_41 : decode cX2_copyRecord 41 = .ok (.invokevirtual 24, 3) := by decide +kernel
theorem dX2_copyRecord_44 : decode cX2_copyRecord 44 = .ok (.iinc 6 1, 3) := by decide +kernel
theorem dX2_copyRecord_47 : decode cX2_copyRecord 47 = .ok (.goto (-28), 3) := by decide +kernel
theorem dX2_copyRecord_50 : decode cX2_copyRecord 50 = .ok (.return_, 1) := by decide +kernel
theorem dX2_addRecord_0 : decode cX2_addRecord 0 = .ok (.aload_n 0, 1) := by decide +kernel
theorem dX2_addRecord_1 : decode cX2_addRecord 1 = .ok (.iconst 2, 1) := by decide +kernel
theorem dX2_addRecord_2 : decode cX2_addRecord 2 = .ok (.iload_n 3, 1) := by decide +kernel
theorem dX2_addRecord_3 : decode cX2_addRecord 3 = .ok (.iadd, 1) := by decide +kernel
theorem dX2_addRecord_4 : decode cX2_addRecord 4 = .ok (.invokevirtual 34, 3) := by decide +kernel
theorem dX2_addRecord_7 : decode cX2_addRecord 7 = .ok (.istore 4, 2) := by decide +kernel
theorem dX2_addRecord_9 : decode cX2_addRecord 9 = .ok (.aload_n 0, 1) := by decide +kernel
theorem dX2_addRecord_10 : decode cX2_addRecord 10 = .ok (.iload 4, 2) := by decide +kernel
theorem dX2_addRecord_12 : decode cX2_addRecord 12 = .ok (.iload_n 2, 1) := by decide +kernel
theorem dX2_addRecord_13 : decode cX2_addRecord 13 = .ok (.invokevirtual 24, 3) := by decide +kernel
theorem dX2_addRecord_16 : decode cX2_addRecord 16 = .ok (.aload_n 0, 1) := by decide +kernel
theorem dX2_addRecord_17 : decode cX2_addRecord 17 = .ok (.iload 4, 2) := by decide +kernel
theorem dX2_addRecord_19 : decode cX2_addRecord 19 = .ok (.iconst 1, 1) := by decide +kernel
theorem dX2_addRecord_20 : decode cX2_addRecord 20 = .ok (.iadd, 1) := by decide +kernel
theorem dX2_addRecord_21 : decode cX2_addRecord 21 = .ok (.iload_n 3, 1) := by decide +kernel
theorem dX2_addRecord_22 : decode cX2_addRecord 22 = .ok (.iload_n 2, 1) := by decide +kernel
theorem dX2_addRecord_23 : decode cX2_addRecord 23 = .ok (.isub, 1) := by decide +kernel
theorem dX2_addRecord_24 : decode cX2_addRecord 24 = .ok (.invokevirtual 24, 3) := by decide +kernel
theorem dX2_addRecord_27 : decode cX2_addRecord 27 = .ok (.iconst 0, 1) := by decide +kernel
theorem dX2_addRecord_28 : decode cX2_addRecord 28 = .ok (.istore 5, 2) := by decide +kernel
theorem dX2_addRecord_30 : decode cX2_addRecord 30 = .ok (.iload 5, 2) := by decide +kernel
theorem dX2_addRecord_32 : decode cX2_addRecord 32 = .ok (.iload_n 3, 1) := by decide +kernel
theorem dX2_addRecord_33 : decode cX2_addRecord 33 = .ok (.if_icmp .ge 26, 3) := by decide +kernel
theorem dX2_addRecord_36 : decode cX2_addRecord 36 = .ok (.aload_n 0, 1) := by decide +kernel
theorem dX2_addRecord_37 : decode cX2_addRecord 37 = .ok (.iload 4, 2) := by decide +kernel
theorem dX2_addRecord_39 : decode cX2_addRecord 39 = .ok (.iconst 2, 1) := by decide +kernel
theorem dX2_addRecord_40 : decode cX2_addRecord 40 = .ok (.iadd, 1) := by decide +kernel
theorem dX2_addRecord_41 : decode cX2_addRecord 41 = .ok (.iload 5, 2) := by decide +kernel
theorem dX2_addRecord_43 : decode cX2_addRecord 43 = .ok (.iadd, 1) := by decide +kernel
theorem dX2_addRecord_44 : decode cX2_addRecord 44 = .ok (.aload_n 1, 1) := by decide +kernel
theorem dX2_addRecord_45 : decode cX2_addRecord 45 = .ok (.iload 5, 2) := by decide +kernel
theorem dX2_addRecord_47 : decode cX2_addRecord 47 = .ok (.invokevirtual 41, 3) := by decide +kernel
theorem dX2_addRecord_50 : decode cX2_addRecord 50 = .ok (.invokevirtual 24, 3) := by decide +kernel
theorem dX2_addRecord_53 : decode cX2_addRecord 53 = .ok (.iinc 5 1, 3) := by decide +kernel
theorem dX2_addRecord_56 : decode cX2_addRecord 56 = .ok (.goto (-26), 3) := by decide +kernel
theorem dX2_addRecord_59 : decode cX2_addRecord 59 = .ok (.return_, 1) := by decide +kernel
theorem dX2_countRecord_0 : decode cX2_countRecord 0 = .ok (.aload_n 0, 1) := by decide +kernel
theorem dX2_countRecord_1 : decode cX2_countRecord 1 = .ok (.iconst 2, 1) := by decide +kernel
theorem dX2_countRecord_2 : decode cX2_countRecord 2 = .ok (.invokevirtual 46, 3) := by decide +kernel
theorem dX2_countRecord_5 : decode cX2_countRecord 5 = .ok (.sipush 256, 3) := by decide +kernel
theorem dX2_countRecord_8 : decode cX2_countRecord 8 = .ok (.imul, 1) := by decide +kernel
theorem dX2_countRecord_9 : decode cX2_countRecord 9 = .ok (.aload_n 0, 1) := by decide +kernel
theorem dX2_countRecord_10 : decode cX2_countRecord 10 = .ok (.iconst 3, 1) := by decide +kernel
theorem dX2_countRecord_11 : decode cX2_countRecord 11 = .ok (.invokevirtual 46, 3) := by decide +kernel
theorem dX2_countRecord_14 : decode cX2_countRecord 14 = .ok (.iadd, 1) := by decide +kernel
theorem dX2_countRecord_15 : decode cX2_countRecord 15 = .ok (.istore_n 2, 1) := by decide +kernel
theorem dX2_countRecord_16 : decode cX2_countRecord 16 = .ok (.aload_n 0, 1) := by decide +kernel
theorem dX2_countRecord_17 : decode cX2_countRecord 17 = .ok (.iconst 1, 1) := by decide +kernel
theorem dX2_countRecord_18 : decode cX2_countRecord 18 = .ok (.aload_n 0, 1) := by decide +kernel
theorem dX2_countRecord_19 : decode cX2_countRecord 19 = .ok (.iconst 1, 1) := by decide +kernel
theorem dX2_countRecord_20 : decode cX2_countRecord 20 = .ok (.invokevirtual 46, 3) := by decide +kernel
theorem dX2_countRecord_23 : decode cX2_countRecord 23 = .ok (.iconst 1, 1) := by decide +kernel
theorem dX2_countRecord_24 : decode cX2_countRecord 24 = .ok (.iadd, 1) := by decide +kernel
theorem dX2_countRecord_25 : decode cX2_countRecord 25 = .ok (.invokevirtual 24, 3) := by decide +kernel
theorem dX2_countRecord_28 : decode cX2_countRecord 28 = .ok (.aload_n 0, 1) := by decide +kernel
theorem dX2_countRecord_29 : decode cX2_countRecord 29 = .ok (.iconst 2, 1) := by decide +kernel
theorem dX2_countRecord_30 : decode cX2_countRecord 30 = .ok (.iload_n 2, 1) := by decide +kernel
theorem dX2_countRecord_31 : decode cX2_countRecord 31 = .ok (.iload_n 1, 1) := by decide +kernel
theorem dX2_countRecord_32 : decode cX2_countRecord 32 = .ok (.iadd, 1) := by decide +kernel
theorem dX2_countRecord_33 : decode cX2_countRecord 33 = .ok (.sipush 256, 3) := by decide +kernel
theorem dX2_countRecord_36 : decode cX2_countRecord 36 = .ok (.idiv, 1) := by decide +kernel
theorem dX2_countRecord_37 : decode cX2_countRecord 37 = .ok (.invokevirtual 24, 3) := by decide +kernel
theorem dX2_countRecord_40 : decode cX2_countRecord 40 = .ok (.aload_n 0, 1) := by decide +kernel
theorem dX2_countRecord_41 : decode cX2_countRecord 41 = .ok (.iconst 3, 1) := by decide +kernel
theorem dX2_countRecord_42 : decode cX2_countRecord 42 = .ok (.iload_n 2, 1) := by decide +kernel
theorem dX2_countRecord_43 : decode cX2_countRecord 43 = .ok (.iload_n 1, 1) := by decide +kernel
theorem dX2_countRecord_44 : decode cX2_countRecord 44 = .ok (.iadd, 1) := by decide +kernel
theorem dX2_countRecord_45 : decode cX2_countRecord 45 = .ok (.sipush 256, 3) := by decide +kernel
theorem dX2_countRecord_48 : decode cX2_countRecord 48 = .ok (.irem, 1) := by decide +kernel
theorem dX2_countRecord_49 : decode cX2_countRecord 49 = .ok (.invokevirtual 24, 3) := by decide +kernel
theorem dX2_countRecord_52 : decode cX2_countRecord 52 = .ok (.iconst 4, 1) := by decide +kernel
theorem dX2_countRecord_53 : decode cX2_countRecord 53 = .ok (.iload_n 2, 1) := by decide +kernel
theorem dX2_countRecord_54 : decode cX2_countRecord 54 = .ok (.iadd, 1) := by decide +kernel
theorem dX2_countRecord_55 : decode cX2_countRecord 55 = .ok (.ireturn, 1) := by decide +kernel
theorem dX3_init_0 : decode cX3_init 0 = .ok (.aload_n 0, 1) := by decide +kernel
theorem dX3_init_1 : decode cX3_init 1 = .ok (.invokespecial 3, 3) := by decide +kernel
theorem dX3_init_4 : decode cX3_init 4 = .ok (.aload_n 0, 1) := by decide +kernel
theorem dX3_init_5 : decode cX3_init 5 = .ok (.bipush 48, 2) := by decide +kernel
theorem dX3_init_7 : decode cX3_init 7 = .ok (.newarray .int, 2) := by decide +kernel
theorem dX3_init_9 : decode cX3_init 9 = .ok (.putfield 9, 3) := by decide +kernel
theorem dX3_init_12 : decode cX3_init 12 = .ok (.aload_n 0, 1) := by decide +kernel
theorem dX3_init_13 : decode cX3_init 13 = .ok (.iconst 0, 1) := by decide +kernel
theorem dX3_init_14 : decode cX3_init 14 = .ok (.putfield 15, 3) := by decide +kernel
theorem dX3_init_17 : decode cX3_init 17 = .ok (.return_, 1) := by decide +kernel
theorem dX3_size_0 : decode cX3_size 0 = .ok (.aload_n 0, 1) := by decide +kernel
theorem dX3_size_1 : decode cX3_size 1 = .ok (.getfield 15, 3) := by decide +kernel
theorem dX3_size_4 : decode cX3_size 4 = .ok (.ireturn, 1) := by decide +kernel
theorem dX3_byteAt_0 : decode cX3_byteAt 0 = .ok (.iload_n 1, 1) := by decide +kernel
theorem dX3_byteAt_1 : decode cX3_byteAt 1 = .ok (.ifCond .lt 21, 3) := by decide +kernel
theorem dX3_byteAt_4 : decode cX3_byteAt 4 = .ok (.iload_n 1, 1) := by decide +kernel
theorem dX3_byteAt_5 : decode cX3_byteAt 5 = .ok (.aload_n 0, 1) := by decide +kernel
theorem dX3_byteAt_6 : decode cX3_byteAt 6 = .ok (.getfield 9, 3) := by decide +kernel
theorem dX3_byteAt_9 : decode cX3_byteAt 9 = .ok (.arraylength, 1) := by decide +kernel
theorem dX3_byteAt_10 : decode cX3_byteAt 10 = .ok (.if_icmp .ge 12, 3) := by decide +kernel
theorem dX3_byteAt_13 : decode cX3_byteAt 13 = .ok (.aload_n 0, 1) := by decide +kernel
theorem dX3_byteAt_14 : decode cX3_byteAt 14 = .ok (.getfield 9, 3) := by decide +kernel
theorem dX3_byteAt_17 : decode cX3_byteAt 17 = .ok (.iload_n 1, 1) := by decide +kernel
theorem dX3_byteAt_18 : decode cX3_byteAt 18 = .ok (.iaload, 1) := by decide +kernel
theorem dX3_byteAt_19 : decode cX3_byteAt 19 = .ok (.goto 4, 3) := by decide +kernel
theorem dX3_byteAt_22 : decode cX3_byteAt 22 = .ok (.iconst 0, 1) := by decide +kernel
theorem dX3_byteAt_23 : decode cX3_byteAt 23 = .ok (.ireturn, 1) := by decide +kernel
theorem dX3_append_0 : decode cX3_append 0 = .ok (.aload_n 0, 1) := by decide +kernel
theorem dX3_append_1 : decode cX3_append 1 = .ok (.getfield 15, 3) := by decide +kernel
theorem dX3_append_4 : decode cX3_append 4 = .ok (.ifCond .lt 35, 3) := by decide +kernel
theorem dX3_append_7 : decode cX3_append 7 = .ok (.aload_n 0, 1) := by decide +kernel
theorem dX3_append_8 : decode cX3_append 8 = .ok (.getfield 15, 3) := by decide +kernel
theorem dX3_append_11 : decode cX3_append 11 = .ok (.aload_n 0, 1) := by decide +kernel
theorem dX3_append_12 : decode cX3_append 12 = .ok (.getfield 9, 3) := by decide +kernel
theorem dX3_append_15 : decode cX3_append 15 = .ok (.arraylength, 1) := by decide +kernel
theorem dX3_append_16 : decode cX3_append 16 = .ok (.if_icmp .ge 23, 3) := by decide +kernel
theorem dX3_append_19 : decode cX3_append 19 = .ok (.aload_n 0, 1) := by decide +kernel
theorem dX3_append_20 : decode cX3_append 20 = .ok (.getfield 9, 3) := by decide +kernel
theorem dX3_append_23 : decode cX3_append 23 = .ok (.aload_n 0, 1) := by decide +kernel
theorem dX3_append_24 : decode cX3_append 24 = .ok (.getfield 15, 3) := by decide +kernel
theorem dX3_append_27 : decode cX3_append 27 = .ok (.iload_n 1, 1) := by decide +kernel
theorem dX3_append_28 : decode cX3_append 28 = .ok (.iastore, 1) := by decide +kernel
theorem dX3_append_29 : decode cX3_append 29 = .ok (.aload_n 0, 1) := by decide +kernel
theorem dX3_append_30 : decode cX3_append 30 = .ok (.dup, 1) := by decide +kernel
theorem dX3_append_31 : decode cX3_append 31 = .ok (.getfield 15, 3) := by decide +kernel
theorem dX3_append_34 : decode cX3_append 34 = .ok (.iconst 1, 1) := by decide +kernel
theorem dX3_append_35 : decode cX3_append 35 = .ok (.iadd, 1) := by decide +kernel
theorem dX3_append_36 : decode cX3_append 36 = .ok (.putfield 15, 3) := by decide +kernel
theorem dX3_append_39 : decode cX3_append 39 = .ok (.return_, 1) := by decide +kernel
theorem dX3_take_0 : decode cX3_take 0 = .ok (.aload_n 0, 1) := by decide +kernel
theorem dX3_take_1 : decode cX3_take 1 = .ok (.getfield 15, 3) := by decide +kernel
theorem dX3_take_4 : decode cX3_take 4 = .ok (.istore_n 1, 1) := by decide +kernel
theorem dX3_take_5 : decode cX3_take 5 = .ok (.aload_n 0, 1) := by decide +kernel
theorem dX3_take_6 : decode cX3_take 6 = .ok (.iconst 0, 1) := by decide +kernel
theorem dX3_take_7 : decode cX3_take 7 = .ok (.putfield 15, 3) := by decide +kernel
theorem dX3_take_10 : decode cX3_take 10 = .ok (.iload_n 1, 1) := by decide +kernel
theorem dX3_take_11 : decode cX3_take 11 = .ok (.ireturn, 1) := by decide +kernel
theorem dX3_keyHash_0 : decode cX3_keyHash 0 = .ok (.aload_n 0, 1) := by decide +kernel
theorem dX3_keyHash_1 : decode cX3_keyHash 1 = .ok (.getfield 9, 3) := by decide +kernel
theorem dX3_keyHash_4 : decode cX3_keyHash 4 = .ok (.iconst 0, 1) := by decide +kernel
theorem dX3_keyHash_5 : decode cX3_keyHash 5 = .ok (.iload_n 1, 1) := by decide +kernel
theorem dX3_keyHash_6 : decode cX3_keyHash 6 = .ok (.invokestatic 19, 3) := by decide +kernel
theorem dX3_keyHash_9 : decode cX3_keyHash 9 = .ok (.ireturn, 1) := by decide +kernel
theorem dX4_init_0 : decode cX4_init 0 = .ok (.aload_n 0, 1) := by decide +kernel
theorem dX4_init_1 : decode cX4_init 1 = .ok (.invokespecial 1, 3) := by decide +kernel
theorem dX4_init_4 : decode cX4_init 4 = .ok (.aload_n 0, 1) := by decide +kernel
theorem dX4_init_5 : decode cX4_init 5 = .ok (.new 7, 3) := by decide +kernel
theorem dX4_init_8 : decode cX4_init 8 = .ok (.dup, 1) := by decide +kernel
theorem dX4_init_9 : decode cX4_init 9 = .ok (.invokespecial 9, 3) := by decide +kernel
theorem dX4_init_12 : decode cX4_init 12 = .ok (.putfield 10, 3) := by decide +kernel
theorem dX4_init_15 : decode cX4_init 15 = .ok (.aload_n 0, 1) := by decide +kernel
theorem dX4_init_16 : decode cX4_init 16 = .ok (.new 16, 3) := by decide +kernel
theorem dX4_init_19 : decode cX4_init 19 = .ok (.dup, 1) := by decide +kernel
theorem dX4_init_20 : decode cX4_init 20 = .ok (.aload_n 0, 1) := by decide +kernel
theorem dX4_init_21 : decode cX4_init 21 = .ok (.getfield 10, 3) := by decide +kernel
theorem dX4_init_24 : decode cX4_init 24 = .ok (.invokespecial 18, 3) := by decide +kernel
theorem dX4_init_27 : decode cX4_init 27 = .ok (.putfield 21, 3) := by decide +kernel
theorem dX4_init_30 : decode cX4_init 30 = .ok (.aload_n 0, 1) := by decide +kernel
theorem dX4_init_31 : decode cX4_init 31 = .ok (.new 25, 3) := by decide +kernel
theorem dX4_init_34 : decode cX4_init 34 = .ok (.dup, 1) := by decide +kernel
theorem dX4_init_35 : decode cX4_init 35 = .ok (.invokespecial 27, 3) := by decide +kernel
theorem dX4_init_38 : decode cX4_init 38 = .ok (.putfield 28, 3) := by decide +kernel
theorem dX4_init_41 : decode cX4_init 41 = .ok (.aload_n 0, 1) := by decide +kernel
theorem dX4_init_42 : decode cX4_init 42 = .ok (.new 25, 3) := by decide +kernel
theorem dX4_init_45 : decode cX4_init 45 = .ok (.dup, 1) := by decide +kernel
theorem dX4_init_46 : decode cX4_init 46 = .ok (.invokespecial 27, 3) := by decide +kernel
theorem dX4_init_49 : decode cX4_init 49 = .ok (.putfield 32, 3) := by decide +kernel
theorem dX4_init_52 : decode cX4_init 52 = .ok (.aload_n 0, 1) := by decide +kernel
theorem dX4_init_53 : decode cX4_init 53 = .ok (.new 35, 3) := by decide +kernel
theorem dX4_init_56 : decode cX4_init 56 = .ok (.dup, 1) := by decide +kernel
theorem dX4_init_57 : decode cX4_init 57 = .ok (.invokespecial 37, 3) := by decide +kernel
theorem dX4_init_60 : decode cX4_init 60 = .ok (.putfield 38, 3) := by decide +kernel
theorem dX4_init_63 : decode cX4_init 63 = .ok (.aload_n 0, 1) := by decide +kernel
theorem dX4_init_64 : decode cX4_init 64 = .ok (.bipush 32, 2) := by decide +kernel
theorem dX4_init_66 : decode cX4_init 66 = .ok (.newarray .int, 2) := by decide +kernel
theorem dX4_init_68 : decode cX4_init 68 = .ok (.putfield 42, 3) := by decide +kernel
theorem dX4_init_71 : decode cX4_init 71 = .ok (.aload_n 0, 1) := by decide +kernel
theorem dX4_init_72 : decode cX4_init 72 = .ok (.iconst 0, 1) := by decide +kernel
theorem dX4_init_73 : decode cX4_init 73 = .ok (.putfield 46, 3) := by decide +kernel
theorem dX4_init_76 : decode cX4_init 76 = .ok (.aload_n 0, 1) := by decide +kernel
theorem dX4_init_77 : decode cX4_init 77 = .ok (.getfield 10, 3) := by decide +kernel
theorem dX4_init_80 : decode cX4_init 80 = .ok (.bipush 64, 2) := by decide +kernel
theorem dX4_init_82 : decode cX4_init 82 = .ok (.bipush 8, 2) := by decide +kernel
theorem dX4_init_84 : decode cX4_init 84 = .ok (.aload_n 0, 1) := by decide +kernel
theorem dX4_init_85 : decode cX4_init 85 = .ok (.getfield 28, 3) := by decide +kernel
theorem dX4_init_88 : decode cX4_init 88 = .ok (.invokevirtual 50, 3) := by decide +kernel
theorem dX4_init_91 : decode cX4_init 91 = .ok (.return_, 1) := by decide +kernel
theorem dX4_format_0 : decode cX4_format 0 = .ok (.iload_n 1, 1) := by decide +kernel
theorem dX4_format_1 : decode cX4_format 1 = .ok (.bipush 8, 2) := by decide +kernel
theorem dX4_format_3 : decode cX4_format 3 = .ok (.if_icmp .lt 10, 3) := by decide +kernel
theorem dX4_format_6 : decode cX4_format 6 = .ok (.iload_n 1, 1) := by decide +kernel
theorem dX4_format_7 : decode cX4_format 7 = .ok (.sipush 255, 3) := by decide +kernel
theorem dX4_format_10 : decode cX4_format 10 = .ok (.if_icmp .le 13, 3) := by decide +kernel
theorem dX4_format_13 : decode cX4_format 13 = .ok (.new 54, 3) := by decide +kernel
theorem dX4_format_16 : decode cX4_format 16 = .ok (.dup, 1) := by decide +kernel
theorem dX4_format_17 : decode cX4_format 17 = .ok (.ldc 56, 2) := by decide +kernel
theorem dX4_format_19 : decode cX4_format 19 = .ok (.invokespecial 58, 3) := by decide +kernel
theorem dX4_format_22 : decode cX4_format 22 = .ok (.athrow, 1) := by decide +kernel
theorem dX4_format_23 : decode cX4_format 23 = .ok (.iload_n 2, 1) := by decide +kernel
theorem dX4_format_24 : decode cX4_format 24 = .ok (.iconst 2, 1) := by decide +kernel
theorem dX4_format_25 : decode cX4_format 25 = .ok (.if_icmp .lt 9, 3) := by decide +kernel
theorem dX4_format_28 : decode cX4_format 28 = .ok (.iload_n 2, 1) := by decide +kernel
theorem dX4_format_29 : decode cX4_format 29 = .ok (.bipush 100, 2) := by decide +kernel
theorem dX4_format_31 : decode cX4_format 31 = .ok (.if_icmp .le 13, 3) := by decide +kernel
theorem dX4_format_34 : decode cX4_format 34 = .ok (.new 54, 3) := by decide +kernel
theorem dX4_format_37 : decode cX4_format 37 = .ok (.dup, 1) := by decide +kernel
theorem dX4_format_38 : decode cX4_format 38 = .ok (.ldc 61, 2) := by decide +kernel
theorem dX4_format_40 : decode cX4_format 40 = .ok (.invokespecial 58, 3) := by decide +kernel
theorem dX4_format_43 : decode cX4_format 43 = .ok (.athrow, 1) := by decide +kernel
theorem dX4_format_44 : decode cX4_format 44 = .ok (.iload_n 1, 1) := by decide +kernel
theorem dX4_format_45 : decode cX4_format 45 = .ok (.iload_n 2, 1) := by decide +kernel
theorem dX4_format_46 : decode cX4_format 46 = .ok (.iconst 4, 1) := by decide +kernel
theorem dX4_format_47 : decode cX4_format 47 = .ok (.iadd, 1) := by decide +kernel
theorem dX4_format_48 : decode cX4_format 48 = .ok (.if_icmp .ge 13, 3) := by decide +kernel
theorem dX4_format_51 : decode cX4_format 51 = .ok (.new 54, 3) := by decide +kernel
theorem dX4_format_54 : decode cX4_format 54 = .ok (.dup, 1) := by decide +kernel
theorem dX4_format_55 : decode cX4_format 55 = .ok (.ldc 63, 2) := by decide +kernel
theorem dX4_format_57 : decode cX4_format 57 = .ok (.invokespecial 58, 3) := by decide +kernel
theorem dX4_format_60 : decode cX4_format 60 = .ok (.athrow, 1) := by decide +kernel
theorem dX4_format_61 : decode cX4_format 61 = .ok (.aload_n 0, 1) := by decide +kernel
theorem dX4_format_62 : decode cX4_format 62 = .ok (.getfield 10, 3) := by decide +kernel
theorem dX4_format_65 : decode cX4_format 65 = .ok (.iload_n 1, 1) := by decide +kernel
theorem dX4_format_66 : decode cX4_format 66 = .ok (.iload_n 2, 1) := by decide +kernel
theorem dX4_format_67 : decode cX4_format 67 = .ok (.aload_n 0, 1) := by decide +kernel
theorem dX4_format_68 : decode cX4_format 68 = .ok (.getfield 28, 3) := by decide +kernel
theorem dX4_format_71 : decode cX4_format 71 = .ok (.invokevirtual 50, 3) := by decide +kernel
theorem dX4_format_74 : decode cX4_format 74 = .ok (.aload_n 0, 1) := by decide +kernel
theorem dX4_format_75 : decode cX4_format 75 = .ok (.iconst 0, 1) := by decide +kernel
theorem dX4_format_76 : decode cX4_format 76 = .ok (.putfield 46, 3) := by decide +kernel
theorem dX4_format_79 : decode cX4_format 79 = .ok (.return_, 1) := by decide +kernel
theorem dX4_feed_0 : decode cX4_feed 0 = .ok (.iload_n 1, 1) := by decide +kernel
theorem dX4_feed_1 : decode cX4_feed 1 = .ok (.iconst 1, 1) := by decide +kernel
theorem dX4_feed_2 : decode cX4_feed 2 = .ok (.if_icmp .lt 9, 3) := by decide +kernel
theorem dX4_feed_5 : decode cX4_feed 5 = .ok (.iload_n 1, 1) := by decide +kernel
theorem dX4_feed_6 : decode cX4_feed 6 = .ok (.bipush 16, 2) := by decide +kernel
theorem dX4_feed_8 : decode cX4_feed 8 = .ok (.if_icmp .le 13, 3) := by decide +kernel
theorem dX4_feed_11 : decode cX4_feed 11 = .ok (.new 54, 3) := by decide +kernel
theorem dX4_feed_14 : decode cX4_feed 14 = .ok (.dup, 1) := by decide +kernel
theorem dX4_feed_15 : decode cX4_feed 15 = .ok (.ldc 65, 2) := by decide +kernel
theorem dX4_feed_17 : decode cX4_feed 17 = .ok (.invokespecial 58, 3) := by decide +kernel
theorem dX4_feed_20 : decode cX4_feed 20 = .ok (.athrow, 1) := by decide +kernel
theorem dX4_feed_21 : decode cX4_feed 21 = .ok (.aload_n 0, 1) := by decide +kernel
theorem dX4_feed_22 : decode cX4_feed 22 = .ok (.getfield 38, 3) := by decide +kernel
theorem dX4_feed_25 : decode cX4_feed 25 = .ok (.invokevirtual 67, 3) := by decide +kernel
theorem dX4_feed_28 : decode cX4_feed 28 = .ok (.iload_n 1, 1) := by decide +kernel
theorem dX4_feed_29 : decode cX4_feed 29 = .ok (.iadd, 1) := by decide +kernel
theorem dX4_feed_30 : decode cX4_feed 30 = .ok (.bipush 48, 2) := by decide +kernel
theorem dX4_feed_32 : decode cX4_feed 32 = .ok (.if_icmp .le 13, 3) := by decide +kernel
theorem dX4_feed_35 : decode cX4_feed 35 = .ok (.new 71, 3) := by decide +kernel
theorem dX4_feed_38 : decode cX4_feed 38 = .ok (.dup, 1) := by decide +kernel
theorem dX4_feed_39 : decode cX4_feed 39 = .ok (.ldc 73, 2) := by decide +kernel
theorem dX4_feed_41 : decode cX4_feed 41 = .ok (.invokespecial 75, 3) := by decide +kernel
theorem dX4_feed_44 : decode cX4_feed 44 = .ok (.athrow, 1) := by decide +kernel
theorem dX4_feed_45 : decode cX4_feed 45 = .ok (.iconst 0, 1) := by decide +kernel
theorem dX4_feed_46 : decode cX4_feed 46 = .ok (.istore 6, 2) := by decide +kernel
theorem dX4_feed_48 : decode cX4_feed 48 = .ok (.iload 6, 2) := by decide +kernel
theorem dX4_feed_50 : decode cX4_feed 50 = .ok (.iload_n 1, 1) := by decide +kernel
theorem dX4_feed_51 : decode cX4_feed 51 = .ok (.if_icmp .ge 47, 3) := by decide +kernel
theorem dX4_feed_54 : decode cX4_feed 54 = .ok (.iload 6, 2) := by decide +kernel
theorem dX4_feed_56 : decode cX4_feed 56 = .ok (.bipush 8, 2) := by decide +kernel
theorem dX4_feed_58 : decode cX4_feed 58 = .ok (.if_icmp .ge 7, 3) := by decide +kernel
theorem dX4_feed_61 : decode cX4_feed 61 = .ok (.lload_n 2, 1) := by decide +kernel
theorem dX4_feed_62 : decode cX4_feed 62 = .ok (.goto 5, 3) := by decide +kernel
theorem dX4_feed_65 : decode cX4_feed 65 = .ok (.lload 4, 2) := by decide +kernel
theorem dX4_feed_67 : decode cX4_feed 67 = .ok (.lstore 7, 2) := by decide +kernel
theorem dX4_feed_69 : decode cX4_feed 69 = .ok (.aload_n 0, 1) := by decide +kernel
theorem dX4_feed_70 : decode cX4_feed 70 = .ok (.getfield 38, 3) := by decide +kernel
theorem dX4_feed_73 : decode cX4_feed 73 = .ok (.lload 7, 2) := by decide +kernel
theorem dX4_feed_75 : decode cX4_feed 75 = .ok (.bipush 8, 2) := by decide +kernel
theorem dX4_feed_77 : decode cX4_feed 77 = .ok (.iload 6, 2) := by decide +kernel
theorem dX4_feed_79 : decode cX4_feed 79 = .ok (.bipush 7, 2) := by decide +kernel
theorem dX4_feed_81 : decode cX4_feed 81 = .ok (.iand, 1) := by decide +kernel
theorem dX4_feed_82 : decode cX4_feed 82 = .ok (.imul, 1) := by decide +kernel
theorem dX4_feed_83 : decode cX4_feed 83 = .ok (.lushr, 1) := by decide +kernel
theorem dX4_feed_84 : decode cX4_feed 84 = .ok (.l2i, 1) := by decide +kernel
theorem dX4_feed_85 : decode cX4_feed 85 = .ok (.sipush 255, 3) := by decide +kernel
theorem dX4_feed_88 : decode cX4_feed 88 = .ok (.iand, 1) := by decide +kernel
theorem dX4_feed_89 : decode cX4_feed 89 = .ok (.invokevirtual 76, 3) := by decide +kernel
theorem dX4_feed_92 : decode cX4_feed 92 = .ok (.iinc 6 1, 3) := by decide +kernel
theorem dX4_feed_95 : decode cX4_feed 95 = .ok (.goto (-47), 3) := by decide +kernel
theorem dX4_feed_98 : decode cX4_feed 98 = .ok (.aload_n 0, 1) := by decide +kernel
theorem dX4_feed_99 : decode cX4_feed 99 = .ok (.getfield 38, 3) := by decide +kernel
theorem dX4_feed_102 : decode cX4_feed 102 = .ok (.invokevirtual 67, 3) := by decide +kernel
theorem dX4_feed_105 : decode cX4_feed 105 = .ok (.ireturn, 1) := by decide +kernel
theorem dX4_put_0 : decode cX4_put 0 = .ok (.aload_n 0, 1) := by decide +kernel
theorem dX4_put_1 : decode cX4_put 1 = .ok (.getfield 38, 3) := by decide +kernel
theorem dX4_put_4 : decode cX4_put 4 = .ok (.invokevirtual 80, 3) := by decide +kernel
theorem dX4_put_7 : decode cX4_put 7 = .ok (.istore_n 2, 1) := by decide +kernel
theorem dX4_put_8 : decode cX4_put 8 = .ok (.aload_n 0, 1) := by decide +kernel
theorem dX4_put_9 : decode cX4_put 9 = .ok (.getfield 10, 3) := by decide +kernel
theorem dX4_put_12 : decode cX4_put 12 = .ok (.invokevirtual 83, 3) := by decide +kernel
theorem dX4_put_15 : decode cX4_put 15 = .ok (.ifCond .eq 13, 3) := by decide +kernel
theorem dX4_put_18 : decode cX4_put 18 = .ok (.new 87, 3) := by decide +kernel
theorem dX4_put_21 : decode cX4_put 21 = .ok (.dup, 1) := by decide +kernel
theorem dX4_put_22 : decode cX4_put 22 = .ok (.ldc 89, 2) := by decide +kernel
theorem dX4_put_24 : decode cX4_put 24 = .ok (.invokespecial 91, 3) := by decide +kernel
theorem dX4_put_27 : decode cX4_put 27 = .ok (.athrow, 1) := by decide +kernel
theorem dX4_put_28 : decode cX4_put 28 = .ok (.iload_n 1, 1) := by decide +kernel
theorem dX4_put_29 : decode cX4_put 29 = .ok (.iconst 1, 1) := by decide +kernel
theorem dX4_put_30 : decode cX4_put 30 = .ok (.if_icmp .lt 14, 3) := by decide +kernel
theorem dX4_put_33 : decode cX4_put 33 = .ok (.iload_n 1, 1) := by decide +kernel
theorem dX4_put_34 : decode cX4_put 34 = .ok (.bipush 16, 2) := by decide +kernel
theorem dX4_put_36 : decode cX4_put 36 = .ok (.if_icmp .gt 8, 3) := by decide +kernel
theorem dX4_put_39 : decode cX4_put 39 = .ok (.iload_n 1, 1) := by decide +kernel
theorem dX4_put_40 : decode cX4_put 40 = .ok (.iload_n 2, 1) := by decide +kernel
theorem dX4_put_41 : decode cX4_put 41 = .ok (.if_icmp .le 13, 3) := by decide +kernel
theorem dX4_put_44 : decode cX4_put 44 = .ok (.new 54, 3) := by decide +kernel
theorem dX4_put_47 : decode cX4_put 47 = .ok (.dup, 1) := by decide +kernel
theorem dX4_put_48 : decode cX4_put 48 = .ok (.ldc 92, 2) := by decide +kernel
theorem dX4_put_50 : decode cX4_put 50 = .ok (.invokespecial 58, 3) := by decide +kernel
theorem dX4_put_53 : decode cX4_put 53 = .ok (.athrow, 1) := by decide +kernel
theorem dX4_put_54 : decode cX4_put 54 = .ok (.iload_n 2, 1) := by decide +kernel
theorem dX4_put_55 : decode cX4_put 55 = .ok (.iload_n 1, 1) := by decide +kernel
theorem dX4_put_56 : decode cX4_put 56 = .ok (.isub, 1) := by decide +kernel
theorem dX4_put_57 : decode cX4_put 57 = .ok (.bipush 32, 2) := by decide +kernel
theorem dX4_put_59 : decode cX4_put 59 = .ok (.if_icmp .le 13, 3) := by decide +kernel
theorem dX4_put_62 : decode cX4_put 62 = .ok (.new 54, 3) := by decide +kernel
theorem dX4_put_65 : decode cX4_put 65 = .ok (.dup, 1) := by decide +kernel
theorem dX4_put_66 : decode cX4_put 66 = .ok (.ldc 94, 2) := by decide +kernel
theorem dX4_put_68 : decode cX4_put 68 = .ok (.invokespecial 58, 3) := by decide +kernel
theorem dX4_put_71 : decode cX4_put 71 = .ok (.athrow, 1) := by decide +kernel
theorem dX4_put_72 : decode cX4_put 72 = .ok (.aload_n 0, 1) := by decide +kernel
theorem dX4_put_73 : decode cX4_put 73 = .ok (.getfield 38, 3) := by decide +kernel
theorem dX4_put_76 : decode cX4_put 76 = .ok (.iload_n 1, 1) := by decide +kernel
theorem dX4_put_77 : decode cX4_put 77 = .ok (.invokevirtual 96, 3) := by decide +kernel
theorem dX4_put_80 : decode cX4_put 80 = .ok (.istore_n 3, 1) := by decide +kernel
theorem dX4_put_81 : decode cX4_put 81 = .ok (.aload_n 0, 1) := by decide +kernel
theorem dX4_put_82 : decode cX4_put 82 = .ok (.iload_n 3, 1) := by decide +kernel
theorem dX4_put_83 : decode cX4_put 83 = .ok (.iload_n 1, 1) := by decide +kernel
theorem dX4_put_84 : decode cX4_put 84 = .ok (.iload_n 2, 1) := by decide +kernel
theorem dX4_put_85 : decode cX4_put 85 = .ok (.invokevirtual 100, 3) := by decide +kernel
theorem dX4_put_88 : decode cX4_put 88 = .ok (.istore 4, 2) := by decide +kernel
theorem dX4_put_90 : decode cX4_put 90 = .ok (.iload 4, 2) := by decide +kernel
theorem dX4_put_92 : decode cX4_put 92 = .ok (.ifCond .ne 20, 3) := by decide +kernel
theorem dX4_put_95 : decode cX4_put 95 = .ok (.aload_n 0, 1) := by decide +kernel
theorem dX4_put_96 : decode cX4_put 96 = .ok (.aload_n 0, 1) := by decide +kernel
theorem dX4_put_97 : decode cX4_put 97 = .ok (.getfield 10, 3) := by decide +kernel
theorem dX4_put_100 : decode cX4_put 100 = .ok (.iload_n 3, 1) := by decide +kernel
theorem dX4_put_101 : decode cX4_put 101 = .ok (.invokevirtual 104, 3) := by decide +kernel
theorem dX4_put_104 : decode cX4_put 104 = .ok (.iload_n 1, 1) := by decide +kernel
theorem dX4_put_105 : decode cX4_put 105 = .ok (.iload_n 2, 1) := by decide +kernel
theorem dX4_put_106 : decode cX4_put 106 = .ok (.invokevirtual 107, 3) := by decide +kernel
theorem dX4_put_109 : decode cX4_put 109 = .ok (.goto 5, 3) := by decide +kernel
theorem dX4_put_112 : decode cX4_put 112 = .ok (.iload 4, 2) := by decide +kernel
theorem dX4_put_114 : decode cX4_put 114 = .ok (.ireturn, 1) := by decide +kernel
theorem dX4_remove_0 : decode cX4_remove 0 = .ok (.aload_n 0, 1) := by decide +kernel
theorem dX4_remove_1 : decode cX4_remove 1 = .ok (.getfield 38, 3) := by decide +kernel
theorem dX4_remove_4 : decode cX4_remove 4 = .ok (.invokevirtual 80, 3) := by decide +kernel
theorem dX4_remove_7 : decode cX4_remove 7 = .ok (.istore_n 1, 1) := by decide +kernel
theorem dX4_remove_8 : decode cX4_remove 8 = .ok (.aload_n 0, 1) := by decide +kernel
theorem dX4_remove_9 : decode cX4_remove 9 = .ok (.getfield 10, 3) := by decide +kernel
theorem dX4_remove_12 : decode cX4_remove 12 = .ok (.invokevirtual 83, 3) := by decide +kernel
theorem dX4_remove_15 : decode cX4_remove 15 = .ok (.ifCond .eq 13, 3) := by decide +kernel
theorem dX4_remove_18 : decode cX4_remove 18 = .ok (.new 87, 3) := by decide +kernel
theorem dX4_remove_21 : decode cX4_remove 21 = .ok (.dup, 1) := by decide +kernel
theorem dX4_remove_22 : decode cX4_remove 22 = .ok (.ldc 89, 2) := by decide +kernel
theorem dX4_remove_24 : decode cX4_remove 24 = .ok (.invokespecial 91, 3) := by decide +kernel
theorem dX4_remove_27 : decode cX4_remove 27 = .ok (.athrow, 1) := by decide +kernel
theorem dX4_remove_28 : decode cX4_remove 28 = .ok (.iload_n 1, 1) := by decide +kernel
theorem dX4_remove_29 : decode cX4_remove 29 = .ok (.iconst 1, 1) := by decide +kernel
theorem dX4_remove_30 : decode cX4_remove 30 = .ok (.if_icmp .lt 9, 3) := by decide +kernel
theorem dX4_remove_33 : decode cX4_remove 33 = .ok (.iload_n 1, 1) := by decide +kernel
theorem dX4_remove_34 : decode cX4_remove 34 = .ok (.bipush 16, 2) := by decide +kernel
theorem dX4_remove_36 : decode cX4_remove 36 = .ok (.if_icmp .le 13, 3) := by decide +kernel
theorem dX4_remove_39 : decode cX4_remove 39 = .ok (.new 54, 3) := by decide +kernel
theorem dX4_remove_42 : decode cX4_remove 42 = .ok (.dup, 1) := by decide +kernel
theorem dX4_remove_43 : decode cX4_remove 43 = .ok (.ldc 110, 2) := by decide +kernel
theorem dX4_remove_45 : decode cX4_remove 45 = .ok (.invokespecial 58, 3) := by decide +kernel
theorem dX4_remove_48 : decode cX4_remove 48 = .ok (.athrow, 1) := by decide +kernel
theorem dX4_remove_49 : decode cX4_remove 49 = .ok (.aload_n 0, 1) := by decide +kernel
theorem dX4_remove_50 : decode cX4_remove 50 = .ok (.getfield 38, 3) := by decide +kernel
theorem dX4_remove_53 : decode cX4_remove 53 = .ok (.iload_n 1, 1) := by decide +kernel
theorem dX4_remove_54 : decode cX4_remove 54 = .ok (.invokevirtual 96, 3) := by decide +kernel
theorem dX4_remove_57 : decode cX4_remove 57 = .ok (.istore_n 2, 1) := by decide +kernel
theorem dX4_remove_58 : decode cX4_remove 58 = .ok (.aload_n 0, 1) := by decide +kernel
theorem dX4_remove_59 : decode cX4_remove 59 = .ok (.getfield 10, 3) := by decide +kernel
theorem dX4_remove_62 : decode cX4_remove 62 = .ok (.iload_n 2, 1) := by decide +kernel
theorem dX4_remove_63 : decode cX4_remove 63 = .ok (.invokevirtual 104, 3) := by decide +kernel
theorem dX4_remove_66 : decode cX4_remove 66 = .ok (.istore_n 3, 1) := by decide +kernel
theorem dX4_remove_67 : decode cX4_remove 67 = .ok (.aload_n 0, 1) := by decide +kernel
theorem dX4_remove_68 : decode cX4_remove 68 = .ok (.getfield 10, 3) := by decide +kernel
theorem dX4_remove_71 : decode cX4_remove 71 = .ok (.iload_n 3, 1) := by decide +kernel
theorem dX4_remove_72 : decode cX4_remove 72 = .ok (.aload_n 0, 1) := by decide +kernel
theorem dX4_remove_73 : decode cX4_remove 73 = .ok (.getfield 38, 3) := by decide +kernel
theorem dX4_remove_76 : decode cX4_remove 76 = .ok (.iload_n 1, 1) := by decide +kernel
theorem dX4_remove_77 : decode cX4_remove 77 = .ok (.invokevirtual 112, 3) := by decide +kernel
theorem dX4_remove_80 : decode cX4_remove 80 = .ok (.istore 4, 2) := by decide +kernel
theorem dX4_remove_82 : decode cX4_remove 82 = .ok (.iload 4, 2) := by decide +kernel
theorem dX4_remove_84 : decode cX4_remove 84 = .ok (.iconst (-1), 1) := by decide +kernel
theorem dX4_remove_85 : decode cX4_remove 85 = .ok (.if_icmp .ne 5, 3) := by decide +kernel
theorem dX4_remove_88 : decode cX4_remove 88 = .ok (.iconst (-1), 1) := by decide +kernel
theorem dX4_remove_89 : decode cX4_remove 89 = .ok (.ireturn, 1) := by decide +kernel
theorem dX4_remove_90 : decode cX4_remove 90 = .ok (.aload_n 0, 1) := by decide +kernel
theorem dX4_remove_91 : decode cX4_remove 91 = .ok (.iload_n 3, 1) := by decide +kernel
theorem dX4_remove_92 : decode cX4_remove 92 = .ok (.iload 4, 2) := by decide +kernel
theorem dX4_remove_94 : decode cX4_remove 94 = .ok (.invokevirtual 116, 3) := by decide +kernel
theorem dX4_remove_97 : decode cX4_remove 97 = .ok (.aload_n 0, 1) := by decide +kernel
theorem dX4_remove_98 : decode cX4_remove 98 = .ok (.getfield 10, 3) := by decide +kernel
theorem dX4_remove_101 : decode cX4_remove 101 = .ok (.iload_n 3, 1) := by decide +kernel
theorem dX4_remove_102 : decode cX4_remove 102 = .ok (.aload_n 0, 1) := by decide +kernel
theorem dX4_remove_103 : decode cX4_remove 103 = .ok (.getfield 28, 3) := by decide +kernel
theorem dX4_remove_106 : decode cX4_remove 106 = .ok (.invokevirtual 120, 3) := by decide +kernel
theorem dX4_remove_109 : decode cX4_remove 109 = .ok (.ifCond .ne 5, 3) := by decide +kernel
theorem dX4_remove_112 : decode cX4_remove 112 = .ok (.iconst 4, 1) := by decide +kernel
theorem dX4_remove_113 : decode cX4_remove 113 = .ok (.ireturn, 1) := by decide +kernel
theorem dX4_remove_114 : decode cX4_remove 114 = .ok (.aload_n 0, 1) := by decide +kernel
theorem dX4_remove_115 : decode cX4_remove 115 = .ok (.iload_n 2, 1) := by decide +kernel
theorem dX4_remove_116 : decode cX4_remove 116 = .ok (.invokevirtual 124, 3) := by decide +kernel
theorem dX4_remove_119 : decode cX4_remove 119 = .ok (.istore 5, 2) := by decide +kernel
theorem dX4_remove_121 : decode cX4_remove 121 = .ok (.iload 5, 2) := by decide +kernel
theorem dX4_remove_123 : decode cX4_remove 123 = .ok (.iconst 4, 1) := by decide +kernel
theorem dX4_remove_124 : decode cX4_remove 124 = .ok (.if_icmp .ne 7, 3) := by decide +kernel
theorem dX4_remove_127 : decode cX4_remove 127 = .ok (.iconst 4, 1) := by decide +kernel
theorem dX4_remove_128 : decode cX4_remove 128 = .ok (.goto 7, 3) := by decide +kernel
theorem dX4_remove_131 : decode cX4_remove 131 = .ok (.aload_n 0, 1) := by decide +kernel
theorem dX4_remove_132 : decode cX4_remove 132 = .ok (.invokevirtual 127, 3) := by decide +kernel
theorem dX4_remove_135 : decode cX4_remove 135 = .ok (.ireturn, 1) := by decide +kernel
theorem dX4_get_0 : decode cX4_get 0 = .ok (.aload_n 0, 1) := by decide +kernel
theorem dX4_get_1 : decode cX4_get 1 = .ok (.getfield 38, 3) := by decide +kernel
theorem dX4_get_4 : decode cX4_get 4 = .ok (.invokevirtual 80, 3) := by decide +kernel
theorem dX4_get_7 : decode cX4_get 7 = .ok (.istore_n 1, 1) := by decide +kernel
theorem dX4_get_8 : decode cX4_get 8 = .ok (.aload_n 0, 1) := by decide +kernel
theorem dX4_get_9 : decode cX4_get 9 = .ok (.getfield 10, 3) := by decide +kernel
theorem dX4_get_12 : decode cX4_get 12 = .ok (.invokevirtual 83, 3) := by decide +kernel
theorem dX4_get_15 : decode cX4_get 15 = .ok (.ifCond .eq 13, 3) := by decide +kernel
theorem dX4_get_18 : decode cX4_get 18 = .ok (.new 87, 3) := by decide +kernel
theorem dX4_get_21 : decode cX4_get 21 = .ok (.dup, 1) := by decide +kernel
theorem dX4_get_22 : decode cX4_get 22 = .ok (.ldc 89, 2) := by decide +kernel
theorem dX4_get_24 : decode cX4_get 24 = .ok (.invokespecial 91, 3) := by decide +kernel
theorem dX4_get_27 : decode cX4_get 27 = .ok (.athrow, 1) := by decide +kernel
theorem dX4_get_28 : decode cX4_get 28 = .ok (.aload_n 0, 1) := by decide +kernel
theorem dX4_get_29 : decode cX4_get 29 = .ok (.iconst 0, 1) := by decide +kernel
theorem dX4_get_30 : decode cX4_get 30 = .ok (.putfield 46, 3) := by decide +kernel
theorem dX4_get_33 : decode cX4_get 33 = .ok (.iload_n 1, 1) := by decide +kernel
theorem dX4_get_34 : decode cX4_get 34 = .ok (.iconst 1, 1) := by decide +kernel
theorem dX4_get_35 : decode cX4_get 35 = .ok (.if_icmp .lt 9, 3) := by decide +kernel
theorem dX4_get_38 : decode cX4_get 38 = .ok (.iload_n 1, 1) := by decide +kernel
theorem dX4_get_39 : decode cX4_get 39 = .ok (.bipush 16, 2) := by decide +kernel
theorem dX4_get_41 : decode cX4_get 41 = .ok (.if_icmp .le 5, 3) := by decide +kernel
theorem dX4_get_44 : decode cX4_get 44 = .ok (.iconst (-1), 1) := by decide +kernel
theorem dX4_get_45 : decode cX4_get 45 = .ok (.ireturn, 1) := by decide +kernel
theorem dX4_get_46 : decode cX4_get 46 = .ok (.aload_n 0, 1) := by decide +kernel
theorem dX4_get_47 : decode cX4_get 47 = .ok (.getfield 10, 3) := by decide +kernel
theorem dX4_get_50 : decode cX4_get 50 = .ok (.aload_n 0, 1) := by decide +kernel
theorem dX4_get_51 : decode cX4_get 51 = .ok (.getfield 38, 3) := by decide +kernel
theorem dX4_get_54 : decode cX4_get 54 = .ok (.iload_n 1, 1) := by decide +kernel
theorem dX4_get_55 : decode cX4_get 55 = .ok (.invokevirtual 96, 3) := by decide +kernel
theorem dX4_get_58 : decode cX4_get 58 = .ok (.invokevirtual 104, 3) := by decide +kernel
theorem dX4_get_61 : decode cX4_get 61 = .ok (.istore_n 2, 1) := by decide +kernel
theorem dX4_get_62 : decode cX4_get 62 = .ok (.aload_n 0, 1) := by decide +kernel
theorem dX4_get_63 : decode cX4_get 63 = .ok (.getfield 10, 3) := by decide +kernel
theorem dX4_get_66 : decode cX4_get 66 = .ok (.iload_n 2, 1) := by decide +kernel
theorem dX4_get_67 : decode cX4_get 67 = .ok (.aload_n 0, 1) := by decide +kernel
theorem dX4_get_68 : decode cX4_get 68 = .ok (.getfield 38, 3) := by decide +kernel
theorem dX4_get_71 : decode cX4_get 71 = .ok (.iload_n 1, 1) := by decide +kernel
theorem dX4_get_72 : decode cX4_get 72 = .ok (.invokevirtual 112, 3) := by decide +kernel
theorem dX4_get_75 : decode cX4_get 75 = .ok (.istore_n 3, 1) := by decide +kernel
theorem dX4_get_76 : decode cX4_get 76 = .ok (.iload_n 3, 1) := by decide +kernel
theorem dX4_get_77 : decode cX4_get 77 = .ok (.iconst (-1), 1) := by decide +kernel
theorem dX4_get_78 : decode cX4_get 78 = .ok (.if_icmp .ne 5, 3) := by decide +kernel
theorem dX4_get_81 : decode cX4_get 81 = .ok (.iconst (-1), 1) := by decide +kernel
theorem dX4_get_82 : decode cX4_get 82 = .ok (.ireturn, 1) := by decide +kernel
theorem dX4_get_83 : decode cX4_get 83 = .ok (.aload_n 0, 1) := by decide +kernel
theorem dX4_get_84 : decode cX4_get 84 = .ok (.getfield 10, 3) := by decide +kernel
theorem dX4_get_87 : decode cX4_get 87 = .ok (.iload_n 2, 1) := by decide +kernel
theorem dX4_get_88 : decode cX4_get 88 = .ok (.iload_n 3, 1) := by decide +kernel
theorem dX4_get_89 : decode cX4_get 89 = .ok (.iconst 1, 1) := by decide +kernel
theorem dX4_get_90 : decode cX4_get 90 = .ok (.iadd, 1) := by decide +kernel
theorem dX4_get_91 : decode cX4_get 91 = .ok (.invokevirtual 130, 3) := by decide +kernel
theorem dX4_get_94 : decode cX4_get 94 = .ok (.istore 4, 2) := by decide +kernel
theorem dX4_get_96 : decode cX4_get 96 = .ok (.iconst 0, 1) := by decide +kernel
theorem dX4_get_97 : decode cX4_get 97 = .ok (.istore 5, 2) := by decide +kernel
theorem dX4_get_99 : decode cX4_get 99 = .ok (.iload 5, 2) := by decide +kernel
theorem dX4_get_101 : decode cX4_get 101 = .ok (.iload 4, 2) := by decide +kernel
theorem dX4_get_103 : decode cX4_get 103 = .ok (.if_icmp .ge 42, 3) := by decide +kernel
theorem dX4_get_106 : decode cX4_get 106 = .ok (.iload 5, 2) := by decide +kernel
theorem dX4_get_108 : decode cX4_get 108 = .ok (.aload_n 0, 1) := by decide +kernel
theorem dX4_get_109 : decode cX4_get 109 = .ok (.getfield 42, 3) := by decide +kernel
theorem dX4_get_112 : decode cX4_get 112 = .ok (.arraylength, 1) := by decide +kernel
theorem dX4_get_113 : decode cX4_get 113 = .ok (.if_icmp .ge 32, 3) := by decide +kernel
theorem dX4_get_116 : decode cX4_get 116 = .ok (.aload_n 0, 1) := by decide +kernel
theorem dX4_get_117 : decode cX4_get 117 = .ok (.getfield 42, 3) := by decide +kernel
theorem dX4_get_120 : decode cX4_get 120 = .ok (.iload 5, 2) := by decide +kernel
theorem dX4_get_122 : decode cX4_get 122 = .ok (.aload_n 0, 1) := by decide +kernel
theorem dX4_get_123 : decode cX4_get 123 = .ok (.getfield 10, 3) := by decide +kernel
theorem dX4_get_126 : decode cX4_get 126 = .ok (.iload_n 2, 1) := by decide +kernel
theorem dX4_get_127 : decode cX4_get 127 = .ok (.iload_n 3, 1) := by decide +kernel
theorem dX4_get_128 : decode cX4_get 128 = .ok (.iconst 2, 1) := by decide +kernel
theorem dX4_get_129 : decode cX4_get 129 = .ok (.iadd, 1) := by decide +kernel
theorem dX4_get_130 : decode cX4_get 130 = .ok (.iload_n 1, 1) := by decide +kernel
theorem dX4_get_131 : decode cX4_get 131 = .ok (.iadd, 1) := by decide +kernel
theorem dX4_get_132 : decode cX4_get 132 = .ok (.iload 5, 2) := by decide +kernel
theorem dX4_get_134 : decode cX4_get 134 = .ok (.iadd, 1) := by decide +kernel
theorem dX4_get_135 : decode cX4_get 135 = .ok (.invokevirtual 130, 3) := by decide +kernel
theorem dX4_get_138 : decode cX4_get 138 = .ok (.iastore, 1) := by decide +kernel
theorem dX4_get_139 : decode cX4_get 139 = .ok (.iinc 5 1, 3) := by decide +kernel
theorem dX4_get_142 : decode cX4_get 142 = .ok (.goto (-43), 3) := by decide +kernel
theorem dX4_get_145 : decode cX4_get 145 = .ok (.aload_n 0, 1) := by decide +kernel
theorem dX4_get_146 : decode cX4_get 146 = .ok (.iload 4, 2) := by decide +kernel
theorem dX4_get_148 : decode cX4_get 148 = .ok (.putfield 46, 3) := by decide +kernel
theorem dX4_get_151 : decode cX4_get 151 = .ok (.aload_n 0, 1) := by decide +kernel
theorem dX4_get_152 : decode cX4_get 152 = .ok (.getfield 46, 3) := by decide +kernel
theorem dX4_get_155 : decode cX4_get 155 = .ok (.ireturn, 1) := by decide +kernel
theorem dX4_answer_0 : decode cX4_answer 0 = .ok (.iload_n 1, 1) := by decide +kernel
theorem dX4_answer_1 : decode cX4_answer 1 = .ok (.ifCond .lt 29, 3) := by decide +kernel
theorem dX4_answer_4 : decode cX4_answer 4 = .ok (.iload_n 1, 1) := by decide +kernel
theorem dX4_answer_5 : decode cX4_answer 5 = .ok (.aload_n 0, 1) := by decide +kernel
theorem dX4_answer_6 : decode cX4_answer 6 = .ok (.getfield 46, 3) := by decide +kernel
theorem dX4_answer_9 : decode cX4_answer 9 = .ok (.if_icmp .ge 21, 3) := by decide +kernel
theorem dX4_answer_12 : decode cX4_answer 12 = .ok (.iload_n 1, 1) := by decide +kernel
theorem dX4_answer_13 : decode cX4_answer 13 = .ok (.aload_n 0, 1) := by decide +kernel
theorem dX4_answer_14 : decode cX4_answer 14 = .ok (.getfield 42, 3) := by decide +kernel
theorem dX4_answer_17 : decode cX4_answer 17 = .ok (.arraylength, 1) := by decide +kernel
theorem dX4_answer_18 : decode cX4_answer 18 = .ok (.if_icmp .ge 12, 3) := by decide +kernel
theorem dX4_answer_21 : decode cX4_answer 21 = .ok (.aload_n 0, 1) := by decide +kernel
theorem dX4_answer_22 : decode cX4_answer 22 = .ok (.getfield 42, 3) := by decide +kernel
theorem dX4_answer_25 : decode cX4_answer 25 = .ok (.iload_n 1, 1) := by decide +kernel
theorem dX4_answer_26 : decode cX4_answer 26 = .ok (.iaload, 1) := by decide +kernel
theorem dX4_answer_27 : decode cX4_answer 27 = .ok (.goto 4, 3) := by decide +kernel
theorem dX4_answer_30 : decode cX4_answer 30 = .ok (.iconst (-1), 1) := by decide +kernel
theorem dX4_answer_31 : decode cX4_answer 31 = .ok (.ireturn, 1) := by decide +kernel
theorem dX4_power_0 : decode cX4_power 0 = .ok (.aload_n 0, 1) := by decide +kernel
theorem dX4_power_1 : decode cX4_power 1 = .ok (.getfield 10, 3) := by decide +kernel
theorem dX4_power_4 : decode cX4_power 4 = .ok (.invokevirtual 83, 3) := by decide +kernel
theorem dX4_power_7 : decode cX4_power 7 = .ok (.ifCond .eq 13, 3) := by decide +kernel
theorem dX4_power_10 : decode cX4_power 10 = .ok (.new 87, 3) := by decide +kernel
theorem dX4_power_13 : decode cX4_power 13 = .ok (.dup, 1) := by decide +kernel
theorem dX4_power_14 : decode cX4_power 14 = .ok (.ldc 89, 2) := by decide +kernel
theorem dX4_power_16 : decode cX4_power 16 = .ok (.invokespecial 91, 3) := by decide +kernel
theorem dX4_power_19 : decode cX4_power 19 = .ok (.athrow, 1) := by decide +kernel
theorem dX4_power_20 : decode cX4_power 20 = .ok (.iload_n 1, 1) := by decide +kernel
theorem dX4_power_21 : decode cX4_power 21 = .ok (.iconst (-1), 1) := by decide +kernel
theorem dX4_power_22 : decode cX4_power 22 = .ok (.if_icmp .ge 13, 3) := by decide +kernel
theorem dX4_power_25 : decode cX4_power 25 = .ok (.new 54, 3) := by decide +kernel
theorem dX4_power_28 : decode cX4_power 28 = .ok (.dup, 1) := by decide +kernel
theorem dX4_power_29 : decode cX4_power 29 = .ok (.ldc 134, 2) := by decide +kernel
theorem dX4_power_31 : decode cX4_power 31 = .ok (.invokespecial 58, 3) := by decide +kernel
theorem dX4_power_34 : decode cX4_power 34 = .ok (.athrow, 1) := by decide +kernel
theorem dX4_power_35 : decode cX4_power 35 = .ok (.aload_n 0, 1) := by decide +kernel
theorem dX4_power_36 : decode cX4_power 36 = .ok (.getfield 10, 3) := by decide +kernel
theorem dX4_power_39 : decode cX4_power 39 = .ok (.iload_n 1, 1) := by decide +kernel
theorem dX4_power_40 : decode cX4_power 40 = .ok (.invokevirtual 136, 3) := by decide +kernel
theorem dX4_power_43 : decode cX4_power 43 = .ok (.return_, 1) := by decide +kernel
theorem dX4_recover_0 : decode cX4_recover 0 = .ok (.iload_n 1, 1) := by decide +kernel
theorem dX4_recover_1 : decode cX4_recover 1 = .ok (.iconst (-1), 1) := by decide +kernel
theorem dX4_recover_2 : decode cX4_recover 2 = .ok (.if_icmp .ge 13, 3) := by decide +kernel
theorem dX4_recover_5 : decode cX4_recover 5 = .ok (.new 54, 3) := by decide +kernel
theorem dX4_recover_8 : decode cX4_recover 8 = .ok (.dup, 1) := by decide +kernel
theorem dX4_recover_9 : decode cX4_recover 9 = .ok (.ldc 134, 2) := by decide +kernel
theorem dX4_recover_11 : decode cX4_recover 11 = .ok (.invokespecial 58, 3) := by decide +kernel
theorem dX4_recover_14 : decode cX4_recover 14 = .ok (.athrow, 1) := by decide +kernel
theorem dX4_recover_15 : decode cX4_recover 15 = .ok (.aload_n 0, 1) := by decide +kernel
theorem dX4_recover_16 : decode cX4_recover 16 = .ok (.getfield 10, 3) := by decide +kernel
theorem dX4_recover_19 : decode cX4_recover 19 = .ok (.iload_n 1, 1) := by decide +kernel
theorem dX4_recover_20 : decode cX4_recover 20 = .ok (.invokevirtual 136, 3) := by decide +kernel
theorem dX4_recover_23 : decode cX4_recover 23 = .ok (.aload_n 0, 1) := by decide +kernel
theorem dX4_recover_24 : decode cX4_recover 24 = .ok (.getfield 10, 3) := by decide +kernel
theorem dX4_recover_27 : decode cX4_recover 27 = .ok (.iconst 1, 1) := by decide +kernel
theorem dX4_recover_28 : decode cX4_recover 28 = .ok (.iconst 0, 1) := by decide +kernel
theorem dX4_recover_29 : decode cX4_recover 29 = .ok (.invokevirtual 130, 3) := by decide +kernel
theorem dX4_recover_32 : decode cX4_recover 32 = .ok (.ifCond .ne 5, 3) := by decide +kernel
theorem dX4_recover_35 : decode cX4_recover 35 = .ok (.iconst 0, 1) := by decide +kernel
theorem dX4_recover_36 : decode cX4_recover 36 = .ok (.ireturn, 1) := by decide +kernel
theorem dX4_recover_37 : decode cX4_recover 37 = .ok (.aload_n 0, 1) := by decide +kernel
theorem dX4_recover_38 : decode cX4_recover 38 = .ok (.getfield 21, 3) := by decide +kernel
theorem dX4_recover_41 : decode cX4_recover 41 = .ok (.invokevirtual 139, 3) := by decide +kernel
theorem dX4_recover_44 : decode cX4_recover 44 = .ok (.ifCond .eq 7, 3) := by decide +kernel
theorem dX4_recover_47 : decode cX4_recover 47 = .ok (.iconst 0, 1) := by decide +kernel
theorem dX4_recover_48 : decode cX4_recover 48 = .ok (.goto 4, 3) := by decide +kernel
theorem dX4_recover_51 : decode cX4_recover 51 = .ok (.iconst 4, 1) := by decide +kernel
theorem dX4_recover_52 : decode cX4_recover 52 = .ok (.ireturn, 1) := by decide +kernel
theorem dX4_byteOf_0 : decode cX4_byteOf 0 = .ok (.aload_n 0, 1) := by decide +kernel
theorem dX4_byteOf_1 : decode cX4_byteOf 1 = .ok (.getfield 10, 3) := by decide +kernel
theorem dX4_byteOf_4 : decode cX4_byteOf 4 = .ok (.iload_n 1, 1) := by decide +kernel
theorem dX4_byteOf_5 : decode cX4_byteOf 5 = .ok (.iload_n 2, 1) := by decide +kernel
theorem dX4_byteOf_6 : decode cX4_byteOf 6 = .ok (.invokevirtual 130, 3) := by decide +kernel
theorem dX4_byteOf_9 : decode cX4_byteOf 9 = .ok (.ireturn, 1) := by decide +kernel
theorem dX4_kind_0 : decode cX4_kind 0 = .ok (.aload_n 0, 1) := by decide +kernel
theorem dX4_kind_1 : decode cX4_kind 1 = .ok (.getfield 10, 3) := by decide +kernel
theorem dX4_kind_4 : decode cX4_kind 4 = .ok (.iload_n 1, 1) := by decide +kernel
theorem dX4_kind_5 : decode cX4_kind 5 = .ok (.invokevirtual 142, 3) := by decide +kernel
theorem dX4_kind_8 : decode cX4_kind 8 = .ok (.ireturn, 1) := by decide +kernel
theorem dX4_hash_0 : decode cX4_hash 0 = .ok (.aload_n 0, 1) := by decide +kernel
theorem dX4_hash_1 : decode cX4_hash 1 = .ok (.getfield 38, 3) := by decide +kernel
theorem dX4_hash_4 : decode cX4_hash 4 = .ok (.invokevirtual 67, 3) := by decide +kernel
theorem dX4_hash_7 : decode cX4_hash 7 = .ok (.istore_n 1, 1) := by decide +kernel
theorem dX4_hash_8 : decode cX4_hash 8 = .ok (.iload_n 1, 1) := by decide +kernel
theorem dX4_hash_9 : decode cX4_hash 9 = .ok (.iconst 1, 1) := by decide +kernel
theorem dX4_hash_10 : decode cX4_hash 10 = .ok (.if_icmp .lt 20, 3) := by decide +kernel
theorem dX4_hash_13 : decode cX4_hash 13 = .ok (.iload_n 1, 1) := by decide +kernel
theorem dX4_hash_14 : decode cX4_hash 14 = .ok (.bipush 16, 2) := by decide +kernel
theorem dX4_hash_16 : decode cX4_hash 16 = .ok (.if_icmp .gt 14, 3) := by decide +kernel
theorem dX4_hash_19 : decode cX4_hash 19 = .ok (.aload_n 0, 1) := by decide +kernel
theorem dX4_hash_20 : decode cX4_hash 20 = .ok (.getfield 38, 3) := by decide +kernel
theorem dX4_hash_23 : decode cX4_hash 23 = .ok (.iload_n 1, 1) := by decide +kernel
theorem dX4_hash_24 : decode cX4_hash 24 = .ok (.invokevirtual 96, 3) := by decide +kernel
theorem dX4_hash_27 : decode cX4_hash 27 = .ok (.goto 4, 3) := by decide +kernel
theorem dX4_hash_30 : decode cX4_hash 30 = .ok (.iconst (-1), 1) := by decide +kernel
theorem dX4_hash_31 : decode cX4_hash 31 = .ok (.ireturn, 1) := by decide +kernel
theorem dX4_entry_0 : decode cX4_entry 0 = .ok (.aload_n 0, 1) := by decide +kernel
theorem dX4_entry_1 : decode cX4_entry 1 = .ok (.getfield 10, 3) := by decide +kernel
theorem dX4_entry_4 : decode cX4_entry 4 = .ok (.iload_n 1, 1) := by decide +kernel
theorem dX4_entry_5 : decode cX4_entry 5 = .ok (.invokevirtual 145, 3) := by decide +kernel
theorem dX4_entry_8 : decode cX4_entry 8 = .ok (.ireturn, 1) := by decide +kernel
theorem dX4_bucket_0 : decode cX4_bucket 0 = .ok (.aload_n 0, 1) := by decide +kernel
theorem dX4_bucket_1 : decode cX4_bucket 1 = .ok (.getfield 10, 3) := by decide +kernel
theorem dX4_bucket_4 : decode cX4_bucket 4 = .ok (.iload_n 1, 1) := by decide +kernel
theorem dX4_bucket_5 : decode cX4_bucket 5 = .ok (.invokevirtual 142, 3) := by decide +kernel
theorem dX4_bucket_8 : decode cX4_bucket 8 = .ok (.iconst 5, 1) := by decide +kernel
theorem dX4_bucket_9 : decode cX4_bucket 9 = .ok (.if_icmp .eq 5, 3) := by decide +kernel
theorem dX4_bucket_12 : decode cX4_bucket 12 = .ok (.iconst (-1), 1) := by decide +kernel
theorem dX4_bucket_13 : decode cX4_bucket 13 = .ok (.ireturn, 1) := by decide +kernel
theorem dX4_bucket_14 : decode cX4_bucket 14 = .ok (.iload_n 2, 1) := by decide +kernel
theorem dX4_bucket_15 : decode cX4_bucket 15 = .ok (.tableswitch 54 0 2 #[25, 35, 45], 25) := by decide +kernel
theorem dX4_bucket_40 : decode cX4_bucket 40 = .ok (.aload_n 0, 1) := by decide +kernel
theorem dX4_bucket_41 : decode cX4_bucket 41 = .ok (.getfield 10, 3) := by decide +kernel
theorem dX4_bucket_44 : decode cX4_bucket 44 = .ok (.iload_n 1, 1) := by decide +kernel
theorem dX4_bucket_45 : decode cX4_bucket 45 = .ok (.iconst 0, 1) := by decide +kernel
theorem dX4_bucket_46 : decode cX4_bucket 46 = .ok (.invokevirtual 130, 3) := by decide +kernel
theorem dX4_bucket_49 : decode cX4_bucket 49 = .ok (.ireturn, 1) := by decide +kernel
theorem dX4_bucket_50 : decode cX4_bucket 50 = .ok (.aload_n 0, 1) := by decide +kernel
theorem dX4_bucket_51 : decode cX4_bucket 51 = .ok (.getfield 10, 3) := by decide +kernel
theorem dX4_bucket_54 : decode cX4_bucket 54 = .ok (.iload_n 1, 1) := by decide +kernel
theorem dX4_bucket_55 : decode cX4_bucket 55 = .ok (.iconst 1, 1) := by decide +kernel
theorem dX4_bucket_56 : decode cX4_bucket 56 = .ok (.invokevirtual 130, 3) := by decide +kernel
theorem dX4_bucket_59 : decode cX4_bucket 59 = .ok (.ireturn, 1) := by decide +kernel
theorem dX4_bucket_60 : decode cX4_bucket 60 = .ok (.aload_n 0, 1) := by decide +kernel
theorem dX4_bucket_61 : decode cX4_bucket 61 = .ok (.getfield 10, 3) := by decide +kernel
theorem dX4_bucket_64 : decode cX4_bucket 64 = .ok (.iload_n 1, 1) := by decide +kernel
theorem dX4_bucket_65 : decode cX4_bucket 65 = .ok (.invokevirtual 148, 3) := by decide +kernel
theorem dX4_bucket_68 : decode cX4_bucket 68 = .ok (.ireturn, 1) := by decide +kernel
theorem dX4_bucket_69 : decode cX4_bucket 69 = .ok (.iconst (-1), 1) := by decide +kernel
theorem dX4_bucket_70 : decode cX4_bucket 70 = .ok (.ireturn, 1) := by decide +kernel
theorem dX4_record_0 : decode cX4_record 0 = .ok (.aload_n 0, 1) := by decide +kernel
theorem dX4_record_1 : decode cX4_record 1 = .ok (.getfield 10, 3) := by decide +kernel
theorem dX4_record_4 : decode cX4_record 4 = .ok (.iload_n 1, 1) := by decide +kernel
theorem dX4_record_5 : decode cX4_record 5 = .ok (.invokevirtual 142, 3) := by decide +kernel
theorem dX4_record_8 : decode cX4_record 8 = .ok (.iconst 5, 1) := by decide +kernel
theorem dX4_record_9 : decode cX4_record 9 = .ok (.if_icmp .ne 20, 3) := by decide +kernel
theorem dX4_record_12 : decode cX4_record 12 = .ok (.iload_n 2, 1) := by decide +kernel
theorem dX4_record_13 : decode cX4_record 13 = .ok (.ifCond .lt 16, 3) := by decide +kernel
theorem dX4_record_16 : decode cX4_record 16 = .ok (.iload_n 2, 1) := by decide +kernel
theorem dX4_record_17 : decode cX4_record 17 = .ok (.aload_n 0, 1) := by decide +kernel
theorem dX4_record_18 : decode cX4_record 18 = .ok (.getfield 10, 3) := by decide +kernel
theorem dX4_record_21 : decode cX4_record 21 = .ok (.iload_n 1, 1) := by decide +kernel
theorem dX4_record_22 : decode cX4_record 22 = .ok (.iconst 1, 1) := by decide +kernel
theorem dX4_record_23 : decode cX4_record 23 = .ok (.invokevirtual 130, 3) := by decide +kernel
theorem dX4_record_26 : decode cX4_record 26 = .ok (.if_icmp .lt 5, 3) := by decide +kernel
theorem dX4_record_29 : decode cX4_record 29 = .ok (.iconst (-1), 1) := by decide +kernel
theorem dX4_record_30 : decode cX4_record 30 = .ok (.ireturn, 1) := by decide +kernel
theorem dX4_record_31 : decode cX4_record 31 = .ok (.aload_n 0, 1) := by decide +kernel
theorem dX4_record_32 : decode cX4_record 32 = .ok (.getfield 10, 3) := by decide +kernel
theorem dX4_record_35 : decode cX4_record 35 = .ok (.iload_n 1, 1) := by decide +kernel
theorem dX4_record_36 : decode cX4_record 36 = .ok (.iload_n 2, 1) := by decide +kernel
theorem dX4_record_37 : decode cX4_record 37 = .ok (.invokevirtual 151, 3) := by decide +kernel
theorem dX4_record_40 : decode cX4_record 40 = .ok (.istore 5, 2) := by decide +kernel
theorem dX4_record_42 : decode cX4_record 42 = .ok (.aload_n 0, 1) := by decide +kernel
theorem dX4_record_43 : decode cX4_record 43 = .ok (.getfield 10, 3) := by decide +kernel
theorem dX4_record_46 : decode cX4_record 46 = .ok (.iload_n 1, 1) := by decide +kernel
theorem dX4_record_47 : decode cX4_record 47 = .ok (.iload 5, 2) := by decide +kernel
theorem dX4_record_49 : decode cX4_record 49 = .ok (.invokevirtual 130, 3) := by decide +kernel
theorem dX4_record_52 : decode cX4_record 52 = .ok (.istore 6, 2) := by decide +kernel
theorem dX4_record_54 : decode cX4_record 54 = .ok (.iload_n 3, 1) := by decide +kernel
theorem dX4_record_55 : decode cX4_record 55 = .ok (.ifCond .ne 35, 3) := by decide +kernel
theorem dX4_record_58 : decode cX4_record 58 = .ok (.iload 4, 2) := by decide +kernel
theorem dX4_record_60 : decode cX4_record 60 = .ok (.ifCond .lt 28, 3) := by decide +kernel
theorem dX4_record_63 : decode cX4_record 63 = .ok (.iload 4, 2) := by decide +kernel
theorem dX4_record_65 : decode cX4_record 65 = .ok (.iload 6, 2) := by decide +kernel
theorem dX4_record_67 : decode cX4_record 67 = .ok (.if_icmp .ge 21, 3) := by decide +kernel
theorem dX4_record_70 : decode cX4_record 70 = .ok (.aload_n 0, 1) := by decide +kernel
theorem dX4_record_71 : decode cX4_record 71 = .ok (.getfield 10, 3) := by decide +kernel
theorem dX4_record_74 : decode cX4_record 74 = .ok (.iload_n 1, 1) := by decide +kernel
theorem dX4_record_75 : decode cX4_record 75 = .ok (.iload 5, 2) := by decide +kernel
theorem dX4_record_77 : decode cX4_record 77 = .ok (.iconst 2, 1) := by decide +kernel
theorem dX4_record_78 : decode cX4_record 78 = .ok (.iadd, 1) := by decide +kernel
theorem dX4_record_79 : decode cX4_record 79 = .ok (.iload 4, 2) := by decide +kernel
theorem dX4_record_81 : decode cX4_record 81 = .ok (.iadd, 1) := by decide +kernel
theorem dX4_record_82 : decode cX4_record 82 = .ok (.invokevirtual 130, 3) := by decide +kernel
theorem dX4_record_85 : decode cX4_record 85 = .ok (.goto 4, 3) := by decide +kernel
theorem dX4_record_88 : decode cX4_record 88 = .ok (.iconst (-1), 1) := by decide +kernel
theorem dX4_record_89 : decode cX4_record 89 = .ok (.ireturn, 1) := by decide +kernel
theorem dX4_record_90 : decode cX4_record 90 = .ok (.iload_n 3, 1) := by decide +kernel
theorem dX4_record_91 : decode cX4_record 91 = .ok (.iconst 1, 1) := by decide +kernel
theorem dX4_record_92 : decode cX4_record 92 = .ok (.if_icmp .ne 48, 3) := by decide +kernel
theorem dX4_record_95 : decode cX4_record 95 = .ok (.iload 4, 2) := by decide +kernel
theorem dX4_record_97 : decode cX4_record 97 = .ok (.ifCond .lt 41, 3) := by decide +kernel
theorem dX4_record_100 : decode cX4_record 100 = .ok (.iload 4, 2) := by decide +kernel
theorem dX4_record_102 : decode cX4_record 102 = .ok (.aload_n 0, 1) := by decide +kernel
theorem dX4_record_103 : decode cX4_record 103 = .ok (.getfield 10, 3) := by decide +kernel
theorem dX4_record_106 : decode cX4_record 106 = .ok (.iload_n 1, 1) := by decide +kernel
theorem dX4_record_107 : decode cX4_record 107 = .ok (.iload 5, 2) := by decide +kernel
theorem dX4_record_109 : decode cX4_record 109 = .ok (.iconst 1, 1) := by decide +kernel
theorem dX4_record_110 : decode cX4_record 110 = .ok (.iadd, 1) := by decide +kernel
theorem dX4_record_111 : decode cX4_record 111 = .ok (.invokevirtual 130, 3) := by decide +kernel
theorem dX4_record_114 : decode cX4_record 114 = .ok (.if_icmp .ge 24, 3) := by decide +kernel
theorem dX4_record_117 : decode cX4_record 117 = .ok (.aload_n 0, 1) := by decide +kernel
theorem dX4_record_118 : decode cX4_record 118 = .ok (.getfield 10, 3) := by decide +kernel
theorem dX4_record_121 : decode cX4_record 121 = .ok (.iload_n 1, 1) := by decide +kernel
theorem dX4_record_122 : decode cX4_record 122 = .ok (.iload 5, 2) := by decide +kernel
theorem dX4_record_124 : decode cX4_record 124 = .ok (.iconst 2, 1) := by decide +kernel
theorem dX4_record_125 : decode cX4_record 125 = .ok (.iadd, 1) := by decide +kernel
theorem dX4_record_126 : decode cX4_record 126 = .ok (.iload 6, 2) := by decide +kernel
theorem dX4_record_128 : decode cX4_record 128 = .ok (.iadd, 1) := by decide +kernel
theorem dX4_record_129 : decode cX4_record 129 = .ok (.iload 4, 2) := by decide +kernel
theorem dX4_record_131 : decode cX4_record 131 = .ok (.iadd, 1) := by decide +kernel
theorem dX4_record_132 : decode cX4_record 132 = .ok (.invokevirtual 130, 3) := by decide +kernel
theorem dX4_record_135 : decode cX4_record 135 = .ok (.goto 4, 3) := by decide +kernel
theorem dX4_record_138 : decode cX4_record 138 = .ok (.iconst (-1), 1) := by decide +kernel
theorem dX4_record_139 : decode cX4_record 139 = .ok (.ireturn, 1) := by decide +kernel
theorem dX4_record_140 : decode cX4_record 140 = .ok (.iconst (-1), 1) := by decide +kernel
theorem dX4_record_141 : decode cX4_record 141 = .ok (.ireturn, 1) := by decide +kernel
theorem dX4_look_0 : decode cX4_look 0 = .ok (.iload_n 1, 1) := by decide +kernel
theorem dX4_look_1 : decode cX4_look 1 = .ok (.tableswitch 159 0 10 #[59, 67, 75, 83, 92, 101, 109, 117, 133, 141, 149], 59) := by decide +kernel
theorem dX4_look_60 : decode cX4_look 60 = .ok (.aload_n 0, 1) := by decide +kernel
theorem dX4_look_61 : decode cX4_look 61 = .ok (.getfield 10, 3) := by decide +kernel
theorem dX4_look_64 : decode cX4_look 64 = .ok (.invokevirtual 154, 3) := by decide +kernel
theorem dX4_look_67 : decode cX4_look 67 = .ok (.ireturn, 1) := by decide +kernel
theorem dX4_look_68 : decode cX4_look 68 = .ok (.aload_n 0, 1) := by decide +kernel
theorem dX4_look_69 : decode cX4_look 69 = .ok (.getfield 10, 3) := by decide +kernel
theorem dX4_look_72 : decode cX4_look 72 = .ok (.invokevirtual 157, 3) := by decide +kernel
theorem dX4_look_75 : decode cX4_look 75 = .ok (.ireturn, 1) := by decide +kernel
theorem dX4_look_76 : decode cX4_look 76 = .ok (.aload_n 0, 1) := by decide +kernel
theorem dX4_look_77 : decode cX4_look 77 = .ok (.getfield 10, 3) := by decide +kernel
theorem dX4_look_80 : decode cX4_look 80 = .ok (.invokevirtual 160, 3) := by decide +kernel
theorem dX4_look_83 : decode cX4_look 83 = .ok (.ireturn, 1) := by decide +kernel
theorem dX4_look_84 : decode cX4_look 84 = .ok (.aload_n 0, 1) := by decide +kernel
theorem dX4_look_85 : decode cX4_look 85 = .ok (.getfield 10, 3) := by decide +kernel
theorem dX4_look_88 : decode cX4_look 88 = .ok (.iconst 5, 1) := by decide +kernel
theorem dX4_look_89 : decode cX4_look 89 = .ok (.invokevirtual 163, 3) := by decide +kernel
theorem dX4_look_92 : decode cX4_look 92 = .ok (.ireturn, 1) := by decide +kernel
theorem dX4_look_93 : decode cX4_look 93 = .ok (.aload_n 0, 1) := by decide +kernel
theorem dX4_look_94 : decode cX4_look 94 = .ok (.getfield 10, 3) := by decide +kernel
theorem dX4_look_97 : decode cX4_look 97 = .ok (.iconst 0, 1) := by decide +kernel
theorem dX4_look_98 : decode cX4_look 98 = .ok (.invokevirtual 163, 3) := by decide +kernel
theorem dX4_look_101 : decode cX4_look 101 = .ok (.ireturn, 1) := by decide +kernel
theorem dX4_look_102 : decode cX4_look 102 = .ok (.aload_n 0, 1) := by decide +kernel
theorem dX4_look_103 : decode cX4_look 103 = .ok (.getfield 10, 3) := by decide +kernel
theorem dX4_look_106 : decode cX4_look 106 = .ok (.invokevirtual 166, 3) := by decide +kernel
theorem dX4_look_109 : decode cX4_look 109 = .ok (.ireturn, 1) := by decide +kernel
theorem dX4_look_110 : decode cX4_look 110 = .ok (.aload_n 0, 1) := by decide +kernel
theorem dX4_look_111 : decode cX4_look 111 = .ok (.getfield 10, 3) := by decide +kernel
theorem dX4_look_114 : decode cX4_look 114 = .ok (.invokevirtual 169, 3) := by decide +kernel
theorem dX4_look_117 : decode cX4_look 117 = .ok (.ireturn, 1) := by decide +kernel
theorem dX4_look_118 : decode cX4_look 118 = .ok (.aload_n 0, 1) := by decide +kernel
theorem dX4_look_119 : decode cX4_look 119 = .ok (.getfield 10, 3) := by decide +kernel
theorem dX4_look_122 : decode cX4_look 122 = .ok (.invokevirtual 83, 3) := by decide +kernel
theorem dX4_look_125 : decode cX4_look 125 = .ok (.ifCond .eq 7, 3) := by decide +kernel
theorem dX4_look_128 : decode cX4_look 128 = .ok (.iconst 1, 1) := by decide +kernel
theorem dX4_look_129 : decode cX4_look 129 = .ok (.goto 4, 3) := by decide +kernel
theorem dX4_look_132 : decode cX4_look 132 = .ok (.iconst 0, 1) := by decide +kernel
theorem dX4_look_133 : decode cX4_look 133 = .ok (.ireturn, 1) := by decide +kernel
theorem dX4_look_134 : decode cX4_look 134 = .ok (.aload_n 0, 1) := by decide +kernel
theorem dX4_look_135 : decode cX4_look 135 = .ok (.getfield 10, 3) := by decide +kernel
theorem dX4_look_138 : decode cX4_look 138 = .ok (.invokevirtual 172, 3) := by decide +kernel
theorem dX4_look_141 : decode cX4_look 141 = .ok (.ireturn, 1) := by decide +kernel
theorem dX4_look_142 : decode cX4_look 142 = .ok (.aload_n 0, 1) := by decide +kernel
theorem dX4_look_143 : decode cX4_look 143 = .ok (.getfield 38, 3) := by decide +kernel
theorem dX4_look_146 : decode cX4_look 146 = .ok (.invokevirtual 67, 3) := by decide +kernel
theorem dX4_look_149 : decode cX4_look 149 = .ok (.ireturn, 1) := by decide +kernel
theorem dX4_look_150 : decode cX4_look 150 = .ok (.aload_n 0, 1) := by decide +kernel
theorem dX4_look_151 : decode cX4_look 151 = .ok (.getfield 10, 3) := by decide +kernel
theorem dX4_look_154 : decode cX4_look 154 = .ok (.iconst 1, 1) := by decide +kernel
theorem dX4_look_155 : decode cX4_look 155 = .ok (.iconst 0, 1) := by decide +kernel
theorem dX4_look_156 : decode cX4_look 156 = .ok (.invokevirtual 130, 3) := by decide +kernel
theorem dX4_look_159 : decode cX4_look 159 = .ok (.ireturn, 1) := by decide +kernel
theorem dX4_look_160 : decode cX4_look 160 = .ok (.iconst (-1), 1) := by decide +kernel
theorem dX4_look_161 : decode cX4_look 161 = .ok (.ireturn, 1) := by decide +kernel
theorem dX4_makePlace_0 : decode cX4_makePlace 0 = .ok (.iconst 0, 1) := by decide +kernel
theorem dX4_makePlace_1 : decode cX4_makePlace 1 = .ok (.istore 4, 2) := by decide +kernel
theorem dX4_makePlace_3 : decode cX4_makePlace 3 = .ok (.iload 4, 2) := by decide +kernel
theorem dX4_makePlace_5 : decode cX4_makePlace 5 = .ok (.bipush 64, 2) := by decide +kernel
theorem dX4_makePlace_7 : decode cX4_makePlace 7 = .ok (.if_icmp .ge 99, 3) := by decide +kernel
theorem dX4_makePlace_10 : decode cX4_makePlace 10 = .ok (.aload_n 0, 1) := by decide +kernel
theorem dX4_makePlace_11 : decode cX4_makePlace 11 = .ok (.getfield 10, 3) := by decide +kernel
theorem dX4_makePlace_14 : decode cX4_makePlace 14 = .ok (.iload_n 1, 1) := by decide +kernel
theorem dX4_makePlace_15 : decode cX4_makePlace 15 = .ok (.invokevirtual 104, 3) := by decide +kernel
theorem dX4_makePlace_18 : decode cX4_makePlace 18 = .ok (.istore 5, 2) := by decide +kernel
theorem dX4_makePlace_20 : decode cX4_makePlace 20 = .ok (.aload_n 0, 1) := by decide +kernel
theorem dX4_makePlace_21 : decode cX4_makePlace 21 = .ok (.iload 5, 2) := by decide +kernel
theorem dX4_makePlace_23 : decode cX4_makePlace 23 = .ok (.iload_n 2, 1) := by decide +kernel
theorem dX4_makePlace_24 : decode cX4_makePlace 24 = .ok (.iload_n 3, 1) := by decide +kernel
theorem dX4_makePlace_25 : decode cX4_makePlace 25 = .ok (.invokevirtual 175, 3) := by decide +kernel
theorem dX4_makePlace_28 : decode cX4_makePlace 28 = .ok (.ifCond .eq 5, 3) := by decide +kernel
theorem dX4_makePlace_31 : decode cX4_makePlace 31 = .ok (.iconst 0, 1) := by decide +kernel
theorem dX4_makePlace_32 : decode cX4_makePlace 32 = .ok (.ireturn, 1) := by decide +kernel
theorem dX4_makePlace_33 : decode cX4_makePlace 33 = .ok (.aload_n 0, 1) := by decide +kernel
theorem dX4_makePlace_34 : decode cX4_makePlace 34 = .ok (.getfield 10, 3) := by decide +kernel
theorem dX4_makePlace_37 : decode cX4_makePlace 37 = .ok (.iload 5, 2) := by decide +kernel
theorem dX4_makePlace_39 : decode cX4_makePlace 39 = .ok (.iload_n 1, 1) := by decide +kernel
theorem dX4_makePlace_40 : decode cX4_makePlace 40 = .ok (.invokevirtual 179, 3) := by decide +kernel
theorem dX4_makePlace_43 : decode cX4_makePlace 43 = .ok (.ifCond .eq 5, 3) := by decide +kernel
theorem dX4_makePlace_46 : decode cX4_makePlace 46 = .ok (.iconst 3, 1) := by decide +kernel
theorem dX4_makePlace_47 : decode cX4_makePlace 47 = .ok (.ireturn, 1) := by decide +kernel
theorem dX4_makePlace_48 : decode cX4_makePlace 48 = .ok (.aload_n 0, 1) := by decide +kernel
theorem dX4_makePlace_49 : decode cX4_makePlace 49 = .ok (.getfield 10, 3) := by decide +kernel
theorem dX4_makePlace_52 : decode cX4_makePlace 52 = .ok (.invokevirtual 160, 3) := by decide +kernel
theorem dX4_makePlace_55 : decode cX4_makePlace 55 = .ok (.istore 6, 2) := by decide +kernel
theorem dX4_makePlace_57 : decode cX4_makePlace 57 = .ok (.aload_n 0, 1) := by decide +kernel
theorem dX4_makePlace_58 : decode cX4_makePlace 58 = .ok (.getfield 10, 3) := by decide +kernel
theorem dX4_makePlace_61 : decode cX4_makePlace 61 = .ok (.iload 5, 2) := by decide +kernel
theorem dX4_makePlace_63 : decode cX4_makePlace 63 = .ok (.iconst 0, 1) := by decide +kernel
theorem dX4_makePlace_64 : decode cX4_makePlace 64 = .ok (.invokevirtual 130, 3) := by decide +kernel
theorem dX4_makePlace_67 : decode cX4_makePlace 67 = .ok (.iload 6, 2) := by decide +kernel
theorem dX4_makePlace_69 : decode cX4_makePlace 69 = .ok (.if_icmp .ne 14, 3) := by decide +kernel
theorem dX4_makePlace_72 : decode cX4_makePlace 72 = .ok (.aload_n 0, 1) := by decide +kernel
theorem dX4_makePlace_73 : decode cX4_makePlace 73 = .ok (.iload 6, 2) := by decide +kernel
theorem dX4_makePlace_75 : decode cX4_makePlace 75 = .ok (.iconst 1, 1) := by decide +kernel
theorem dX4_makePlace_76 : decode cX4_makePlace 76 = .ok (.iadd, 1) := by decide +kernel
theorem dX4_makePlace_77 : decode cX4_makePlace 77 = .ok (.invokevirtual 183, 3) := by decide +kernel
theorem dX4_makePlace_80 : decode cX4_makePlace 80 = .ok (.goto 10, 3) := by decide +kernel
theorem dX4_makePlace_83 : decode cX4_makePlace 83 = .ok (.aload_n 0, 1) := by decide +kernel
theorem dX4_makePlace_84 : decode cX4_makePlace 84 = .ok (.iload 5, 2) := by decide +kernel
theorem dX4_makePlace_86 : decode cX4_makePlace 86 = .ok (.iload_n 1, 1) := by decide +kernel
theorem dX4_makePlace_87 : decode cX4_makePlace 87 = .ok (.invokevirtual 186, 3) := by decide +kernel
theorem dX4_makePlace_90 : decode cX4_makePlace 90 = .ok (.istore 7, 2) := by decide +kernel
theorem dX4_makePlace_92 : decode cX4_makePlace 92 = .ok (.iload 7, 2) := by decide +kernel
theorem dX4_makePlace_94 : decode cX4_makePlace 94 = .ok (.ifCond .eq 6, 3) := by decide +kernel
theorem dX4_makePlace_97 : decode cX4_makePlace 97 = .ok (.iload 7, 2) := by decide +kernel
theorem dX4_makePlace_99 : decode cX4_makePlace 99 = .ok (.ireturn, 1) := by decide +kernel
theorem dX4_makePlace_100 : decode cX4_makePlace 100 = .ok (.iinc 4 1, 3) := by decide +kernel
theorem dX4_makePlace_103 : decode cX4_makePlace 103 = .ok (.goto (-100), 3) := by decide +kernel
theorem dX4_makePlace_106 : decode cX4_makePlace 106 = .ok (.iconst 1, 1) := by decide +kernel
theorem dX4_makePlace_107 : decode cX4_makePlace 107 = .ok (.ireturn, 1) := by decide +kernel
theorem dX4_hasPlace_0 : decode cX4_hasPlace 0 = .ok (.aload_n 0, 1) := by decide +kernel
theorem dX4_hasPlace_1 : decode cX4_hasPlace 1 = .ok (.getfield 10, 3) := by decide +kernel
theorem dX4_hasPlace_4 : decode cX4_hasPlace 4 = .ok (.iload_n 1, 1) := by decide +kernel
theorem dX4_hasPlace_5 : decode cX4_hasPlace 5 = .ok (.aload_n 0, 1) := by decide +kernel
theorem dX4_hasPlace_6 : decode cX4_hasPlace 6 = .ok (.getfield 38, 3) := by decide +kernel
theorem dX4_hasPlace_9 : decode cX4_hasPlace 9 = .ok (.iload_n 2, 1) := by decide +kernel
theorem dX4_hasPlace_10 : decode cX4_hasPlace 10 = .ok (.invokevirtual 112, 3) := by decide +kernel
theorem dX4_hasPlace_13 : decode cX4_hasPlace 13 = .ok (.istore 4, 2) := by decide +kernel
theorem dX4_hasPlace_15 : decode cX4_hasPlace 15 = .ok (.aload_n 0, 1) := by decide +kernel
theorem dX4_hasPlace_16 : decode cX4_hasPlace 16 = .ok (.getfield 10, 3) := by decide +kernel
theorem dX4_hasPlace_19 : decode cX4_hasPlace 19 = .ok (.iload_n 1, 1) := by decide +kernel
theorem dX4_hasPlace_20 : decode cX4_hasPlace 20 = .ok (.invokevirtual 148, 3) := by decide +kernel
theorem dX4_hasPlace_23 : decode cX4_hasPlace 23 = .ok (.iload 4, 2) := by decide +kernel
theorem dX4_hasPlace_25 : decode cX4_hasPlace 25 = .ok (.iconst (-1), 1) := by decide +kernel
theorem dX4_hasPlace_26 : decode cX4_hasPlace 26 = .ok (.if_icmp .ne 7, 3) := by decide +kernel
theorem dX4_hasPlace_29 : decode cX4_hasPlace 29 = .ok (.iconst 0, 1) := by decide +kernel
theorem dX4_hasPlace_30 : decode cX4_hasPlace 30 = .ok (.goto 13, 3) := by decide +kernel
theorem dX4_hasPlace_33 : decode cX4_hasPlace 33 = .ok (.aload_n 0, 1) := by decide +kernel
theorem dX4_hasPlace_34 : decode cX4_hasPlace 34 = .ok (.getfield 10, 3) := by decide +kernel
theorem dX4_hasPlace_37 : decode cX4_hasPlace 37 = .ok (.iload_n 1, 1) := by decide +kernel
theorem dX4_hasPlace_38 : decode cX4_hasPlace 38 = .ok (.iload 4, 2) := by decide +kernel
theorem dX4_hasPlace_40 : decode cX4_hasPlace 40 = .ok (.invokevirtual 189, 3) := by decide +kernel
theorem dX4_hasPlace_43 : decode cX4_hasPlace 43 = .ok (.isub, 1) := by decide +kernel
theorem dX4_hasPlace_44 : decode cX4_hasPlace 44 = .ok (.istore 5, 2) := by decide +kernel
theorem dX4_hasPlace_46 : decode cX4_hasPlace 46 = .ok (.iload 5, 2) := by decide +kernel
theorem dX4_hasPlace_48 : decode cX4_hasPlace 48 = .ok (.iconst 2, 1) := by decide +kernel
theorem dX4_hasPlace_49 : decode cX4_hasPlace 49 = .ok (.iadd, 1) := by decide +kernel
theorem dX4_hasPlace_50 : decode cX4_hasPlace 50 = .ok (.iload_n 3, 1) := by decide +kernel
theorem dX4_hasPlace_51 : decode cX4_hasPlace 51 = .ok (.iadd, 1) := by decide +kernel
theorem dX4_hasPlace_52 : decode cX4_hasPlace 52 = .ok (.sipush 252, 3) := by decide +kernel
theorem dX4_hasPlace_55 : decode cX4_hasPlace 55 = .ok (.if_icmp .gt 7, 3) := by decide +kernel
theorem dX4_hasPlace_58 : decode cX4_hasPlace 58 = .ok (.iconst 1, 1) := by decide +kernel
theorem dX4_hasPlace_59 : decode cX4_hasPlace 59 = .ok (.goto 4, 3) := by decide +kernel
theorem dX4_hasPlace_62 : decode cX4_hasPlace 62 = .ok (.iconst 0, 1) := by decide +kernel
theorem dX4_hasPlace_63 : decode cX4_hasPlace 63 = .ok (.ireturn, 1) := by decide +kernel
theorem dX4_storeRecord_0 : decode cX4_storeRecord 0 = .ok (.aload_n 0, 1) := by decide +kernel
theorem dX4_storeRecord_1 : decode cX4_storeRecord 1 = .ok (.iload_n 1, 1) := by decide +kernel
theorem dX4_storeRecord_2 : decode cX4_storeRecord 2 = .ok (.aload_n 0, 1) := by decide +kernel
theorem dX4_storeRecord_3 : decode cX4_storeRecord 3 = .ok (.getfield 10, 3) := by decide +kernel
theorem dX4_storeRecord_6 : decode cX4_storeRecord 6 = .ok (.iload_n 1, 1) := by decide +kernel
theorem dX4_storeRecord_7 : decode cX4_storeRecord 7 = .ok (.aload_n 0, 1) := by decide +kernel
theorem dX4_storeRecord_8 : decode cX4_storeRecord 8 = .ok (.getfield 38, 3) := by decide +kernel
theorem dX4_storeRecord_11 : decode cX4_storeRecord 11 = .ok (.iload_n 2, 1) := by decide +kernel
theorem dX4_storeRecord_12 : decode cX4_storeRecord 12 = .ok (.invokevirtual 112, 3) := by decide +kernel
theorem dX4_storeRecord_15 : decode cX4_storeRecord 15 = .ok (.invokevirtual 116, 3) := by decide +kernel
theorem dX4_storeRecord_18 : decode cX4_storeRecord 18 = .ok (.aload_n 0, 1) := by decide +kernel
theorem dX4_storeRecord_19 : decode cX4_storeRecord 19 = .ok (.getfield 28, 3) := by decide +kernel
theorem dX4_storeRecord_22 : decode cX4_storeRecord 22 = .ok (.aload_n 0, 1) := by decide +kernel
theorem dX4_storeRecord_23 : decode cX4_storeRecord 23 = .ok (.getfield 38, 3) := by decide +kernel
theorem dX4_storeRecord_26 : decode cX4_storeRecord 26 = .ok (.iload_n 2, 1) := by decide +kernel
theorem dX4_storeRecord_27 : decode cX4_storeRecord 27 = .ok (.iload_n 3, 1) := by decide +kernel
theorem dX4_storeRecord_28 : decode cX4_storeRecord 28 = .ok (.invokevirtual 192, 3) := by decide +kernel
theorem dX4_storeRecord_31 : decode cX4_storeRecord 31 = .ok (.aload_n 0, 1) := by decide +kernel
theorem dX4_storeRecord_32 : decode cX4_storeRecord 32 = .ok (.getfield 10, 3) := by decide +kernel
theorem dX4_storeRecord_35 : decode cX4_storeRecord 35 = .ok (.iload_n 1, 1) := by decide +kernel
theorem dX4_storeRecord_36 : decode cX4_storeRecord 36 = .ok (.aload_n 0, 1) := by decide +kernel
theorem dX4_storeRecord_37 : decode cX4_storeRecord 37 = .ok (.getfield 28, 3) := by decide +kernel
theorem dX4_storeRecord_40 : decode cX4_storeRecord 40 = .ok (.invokevirtual 120, 3) := by decide +kernel
theorem dX4_storeRecord_43 : decode cX4_storeRecord 43 = .ok (.ifCond .eq 7, 3) := by decide +kernel
theorem dX4_storeRecord_46 : decode cX4_storeRecord 46 = .ok (.iconst 0, 1) := by decide +kernel
theorem dX4_storeRecord_47 : decode cX4_storeRecord 47 = .ok (.goto 4, 3) := by decide +kernel
theorem dX4_storeRecord_50 : decode cX4_storeRecord 50 = .ok (.iconst 4, 1) := by decide +kernel
theorem dX4_storeRecord_51 : decode cX4_storeRecord 51 = .ok (.ireturn, 1) := by decide +kernel
theorem dX4_buildWithout_0 : decode cX4_buildWithout 0 = .ok (.aload_n 0, 1) := by decide +kernel
theorem dX4_buildWithout_1 : decode cX4_buildWithout 1 = .ok (.getfield 28, 3) := by decide +kernel
theorem dX4_buildWithout_4 : decode cX4_buildWithout 4 = .ok (.aload_n 0, 1) := by decide +kernel
theorem dX4_buildWithout_5 : decode cX4_buildWithout 5 = .ok (.getfield 10, 3) := by decide +kernel
theorem dX4_buildWithout_8 : decode cX4_buildWithout 8 = .ok (.iload_n 1, 1) := by decide +kernel
theorem dX4_buildWithout_9 : decode cX4_buildWithout 9 = .ok (.iconst 0, 1) := by decide +kernel
theorem dX4_buildWithout_10 : decode cX4_buildWithout 10 = .ok (.invokevirtual 130, 3) := by decide +kernel
theorem dX4_buildWithout_13 : decode cX4_buildWithout 13 = .ok (.invokevirtual 196, 3) := by decide +kernel
theorem dX4_buildWithout_16 : decode cX4_buildWithout 16 = .ok (.aload_n 0, 1) := by decide +kernel
theorem dX4_buildWithout_17 : decode cX4_buildWithout 17 = .ok (.iload_n 1, 1) := by decide +kernel
theorem dX4_buildWithout_18 : decode cX4_buildWithout 18 = .ok (.iload_n 2, 1) := by decide +kernel
theorem dX4_buildWithout_19 : decode cX4_buildWithout 19 = .ok (.invokevirtual 199, 3) := by decide +kernel
theorem dX4_buildWithout_22 : decode cX4_buildWithout 22 = .ok (.return_, 1) := by decide +kernel
theorem dX4_addRecordsBut_0 : decode cX4_addRecordsBut 0 = .ok (.aload_n 0, 1) := by decide +kernel
theorem dX4_addRecordsBut_1 : decode cX4_addRecordsBut 1 = .ok (.getfield 10, 3) := by decide +kernel
theorem dX4_addRecordsBut_4 : decode cX4_addRecordsBut 4 = .ok (.iload_n 1, 1) := by decide +kernel
theorem dX4_addRecordsBut_5 : decode cX4_addRecordsBut 5 = .ok (.iconst 1, 1) := by decide +kernel
theorem dX4_addRecordsBut_6 : decode cX4_addRecordsBut 6 = .ok (.invokevirtual 130, 3) := by decide +kernel
theorem dX4_addRecordsBut_9 : decode cX4_addRecordsBut 9 = .ok (.istore_n 3, 1) := by decide +kernel
theorem dX4_addRecordsBut_10 : decode cX4_addRecordsBut 10 = .ok (.iconst 4, 1) := by decide +kernel
theorem dX4_addRecordsBut_11 : decode cX4_addRecordsBut 11 = .ok (.istore 4, 2) := by decide +kernel
theorem dX4_addRecordsBut_13 : decode cX4_addRecordsBut 13 = .ok (.iconst 0, 1) := by decide +kernel
theorem dX4_addRecordsBut_14 : decode cX4_addRecordsBut 14 = .ok (.istore 5, 2) := by decide +kernel
theorem dX4_addRecordsBut_16 : decode cX4_addRecordsBut 16 = .ok (.iload 5, 2) := by decide +kernel
theorem dX4_addRecordsBut_18 : decode cX4_addRecordsBut 18 = .ok (.iload_n 3, 1) := by decide +kernel
theorem dX4_addRecordsBut_19 : decode cX4_addRecordsBut 19 = .ok (.if_icmp .ge 44, 3) := by decide +kernel
theorem dX4_addRecordsBut_22 : decode cX4_addRecordsBut 22 = .ok (.iload 4, 2) := by decide +kernel
theorem dX4_addRecordsBut_24 : decode cX4_addRecordsBut 24 = .ok (.iload_n 2, 1) := by decide +kernel
theorem dX4_addRecordsBut_25 : decode cX4_addRecordsBut 25 = .ok (.if_icmp .eq 17, 3) := by decide +kernel
theorem dX4_addRecordsBut_28 : decode cX4_addRecordsBut 28 = .ok (.aload_n 0, 1) := by decide +kernel
theorem dX4_addRecordsBut_29 : decode cX4_addRecordsBut 29 = .ok (.getfield 28, 3) := by decide +kernel
theorem dX4_addRecordsBut_32 : decode cX4_addRecordsBut 32 = .ok (.aload_n 0, 1) := by decide +kernel
theorem dX4_addRecordsBut_33 : decode cX4_addRecordsBut 33 = .ok (.getfield 10, 3) := by decide +kernel
theorem dX4_addRecordsBut_36 : decode cX4_addRecordsBut 36 = .ok (.iload_n 1, 1) := by decide +kernel
theorem dX4_addRecordsBut_37 : decode cX4_addRecordsBut 37 = .ok (.iload 4, 2) := by decide +kernel
theorem dX4_addRecordsBut_39 : decode cX4_addRecordsBut 39 = .ok (.invokevirtual 202, 3) := by decide +kernel
theorem dX4_addRecordsBut_42 : decode cX4_addRecordsBut 42 = .ok (.iload 4, 2) := by decide +kernel
theorem dX4_addRecordsBut_44 : decode cX4_addRecordsBut 44 = .ok (.aload_n 0, 1) := by decide +kernel
theorem dX4_addRecordsBut_45 : decode cX4_addRecordsBut 45 = .ok (.getfield 10, 3) := by decide +kernel
theorem dX4_addRecordsBut_48 : decode cX4_addRecordsBut 48 = .ok (.iload_n 1, 1) := by decide +kernel
theorem dX4_addRecordsBut_49 : decode cX4_addRecordsBut 49 = .ok (.iload 4, 2) := by decide +kernel
theorem dX4_addRecordsBut_51 : decode cX4_addRecordsBut 51 = .ok (.invokevirtual 189, 3) := by decide +kernel
theorem dX4_addRecordsBut_54 : decode cX4_addRecordsBut 54 = .ok (.iadd, 1) := by decide +kernel
theorem dX4_addRecordsBut_55 : decode cX4_addRecordsBut 55 = .ok (.istore 4, 2) := by decide +kernel
theorem dX4_addRecordsBut_57 : decode cX4_addRecordsBut 57 = .ok (.iinc 5 1, 3) := by decide +kernel
theorem dX4_addRecordsBut_60 : decode cX4_addRecordsBut 60 = .ok (.goto (-44), 3) := by decide +kernel
theorem dX4_addRecordsBut_63 : decode cX4_addRecordsBut 63 = .ok (.return_, 1) := by decide +kernel
theorem dX4_resizeDirectory_0 : decode cX4_resizeDirectory 0 = .ok (.aload_n 0, 1) := by decide +kernel
theorem dX4_resizeDirectory_1 : decode cX4_resizeDirectory 1 = .ok (.getfield 10, 3) := by decide +kernel
theorem dX4_resizeDirectory_4 : decode cX4_resizeDirectory 4 = .ok (.invokevirtual 160, 3) := by decide +kernel
theorem dX4_resizeDirectory_7 : decode cX4_resizeDirectory 7 = .ok (.invokestatic 206, 3) := by decide +kernel
theorem dX4_resizeDirectory_10 : decode cX4_resizeDirectory 10 = .ok (.istore_n 2, 1) := by decide +kernel
theorem dX4_resizeDirectory_11 : decode cX4_resizeDirectory 11 = .ok (.iload_n 1, 1) := by decide +kernel
theorem dX4_resizeDirectory_12 : decode cX4_resizeDirectory 12 = .ok (.invokestatic 206, 3) := by decide +kernel
theorem dX4_resizeDirectory_15 : decode cX4_resizeDirectory 15 = .ok (.istore_n 3, 1) := by decide +kernel
theorem dX4_resizeDirectory_16 : decode cX4_resizeDirectory 16 = .ok (.aload_n 0, 1) := by decide +kernel
theorem dX4_resizeDirectory_17 : decode cX4_resizeDirectory 17 = .ok (.getfield 10, 3) := by decide +kernel
theorem dX4_resizeDirectory_20 : decode cX4_resizeDirectory 20 = .ok (.iconst 0, 1) := by decide +kernel
theorem dX4_resizeDirectory_21 : decode cX4_resizeDirectory 21 = .ok (.invokevirtual 163, 3) := by decide +kernel
theorem dX4_resizeDirectory_24 : decode cX4_resizeDirectory 24 = .ok (.iload_n 3, 1) := by decide +kernel
theorem dX4_resizeDirectory_25 : decode cX4_resizeDirectory 25 = .ok (.iload_n 2, 1) := by decide +kernel
theorem dX4_resizeDirectory_26 : decode cX4_resizeDirectory 26 = .ok (.isub, 1) := by decide +kernel
theorem dX4_resizeDirectory_27 : decode cX4_resizeDirectory 27 = .ok (.if_icmp .ge 5, 3) := by decide +kernel
theorem dX4_resizeDirectory_30 : decode cX4_resizeDirectory 30 = .ok (.iconst 1, 1) := by decide +kernel
theorem dX4_resizeDirectory_31 : decode cX4_resizeDirectory 31 = .ok (.ireturn, 1) := by decide +kernel
theorem dX4_resizeDirectory_32 : decode cX4_resizeDirectory 32 = .ok (.iload_n 3, 1) := by decide +kernel
theorem dX4_resizeDirectory_33 : decode cX4_resizeDirectory 33 = .ok (.iconst 1, 1) := by decide +kernel
theorem dX4_resizeDirectory_34 : decode cX4_resizeDirectory 34 = .ok (.iadd, 1) := by decide +kernel
theorem dX4_resizeDirectory_35 : decode cX4_resizeDirectory 35 = .ok (.aload_n 0, 1) := by decide +kernel
theorem dX4_resizeDirectory_36 : decode cX4_resizeDirectory 36 = .ok (.getfield 10, 3) := by decide +kernel
theorem dX4_resizeDirectory_39 : decode cX4_resizeDirectory 39 = .ok (.invokevirtual 157, 3) := by decide +kernel
theorem dX4_resizeDirectory_42 : decode cX4_resizeDirectory 42 = .ok (.if_icmp .le 5, 3) := by decide +kernel
theorem dX4_resizeDirectory_45 : decode cX4_resizeDirectory 45 = .ok (.iconst 2, 1) := by decide +kernel
theorem dX4_resizeDirectory_46 : decode cX4_resizeDirectory 46 = .ok (.ireturn, 1) := by decide +kernel
theorem dX4_resizeDirectory_47 : decode cX4_resizeDirectory 47 = .ok (.aload_n 0, 1) := by decide +kernel
theorem dX4_resizeDirectory_48 : decode cX4_resizeDirectory 48 = .ok (.getfield 21, 3) := by decide +kernel
theorem dX4_resizeDirectory_51 : decode cX4_resizeDirectory 51 = .ok (.invokevirtual 209, 3) := by decide +kernel
theorem dX4_resizeDirectory_54 : decode cX4_resizeDirectory 54 = .ok (.aload_n 0, 1) := by decide +kernel
theorem dX4_resizeDirectory_55 : decode cX4_resizeDirectory 55 = .ok (.getfield 32, 3) := by decide +kernel
theorem dX4_resizeDirectory_58 : decode cX4_resizeDirectory 58 = .ok (.invokevirtual 212, 3) := by decide +kernel
theorem dX4_resizeDirectory_61 : decode cX4_resizeDirectory 61 = .ok (.aload_n 0, 1) := by decide +kernel
theorem dX4_resizeDirectory_62 : decode cX4_resizeDirectory 62 = .ok (.getfield 32, 3) := by decide +kernel
theorem dX4_resizeDirectory_65 : decode cX4_resizeDirectory 65 = .ok (.iconst 0, 1) := by decide +kernel
theorem dX4_resizeDirectory_66 : decode cX4_resizeDirectory 66 = .ok (.iload_n 1, 1) := by decide +kernel
theorem dX4_resizeDirectory_67 : decode cX4_resizeDirectory 67 = .ok (.invokevirtual 215, 3) := by decide +kernel
theorem dX4_resizeDirectory_70 : decode cX4_resizeDirectory 70 = .ok (.iconst (-1), 1) := by decide +kernel
theorem dX4_resizeDirectory_71 : decode cX4_resizeDirectory 71 = .ok (.istore 4, 2) := by decide +kernel
theorem dX4_resizeDirectory_73 : decode cX4_resizeDirectory 73 = .ok (.iconst 0, 1) := by decide +kernel
theorem dX4_resizeDirectory_74 : decode cX4_resizeDirectory 74 = .ok (.istore 5, 2) := by decide +kernel
theorem dX4_resizeDirectory_76 : decode cX4_resizeDirectory 76 = .ok (.iload 5, 2) := by decide +kernel
theorem dX4_resizeDirectory_78 : decode cX4_resizeDirectory 78 = .ok (.iload_n 3, 1) := by decide +kernel
theorem dX4_resizeDirectory_79 : decode cX4_resizeDirectory 79 = .ok (.if_icmp .ge 79, 3) := by decide +kernel
theorem dX4_resizeDirectory_82 : decode cX4_resizeDirectory 82 = .ok (.aload_n 0, 1) := by decide +kernel
theorem dX4_resizeDirectory_83 : decode cX4_resizeDirectory 83 = .ok (.getfield 10, 3) := by decide +kernel
theorem dX4_resizeDirectory_86 : decode cX4_resizeDirectory 86 = .ok (.iload 5, 2) := by decide +kernel
theorem dX4_resizeDirectory_88 : decode cX4_resizeDirectory 88 = .ok (.invokevirtual 218, 3) := by decide +kernel
theorem dX4_resizeDirectory_91 : decode cX4_resizeDirectory 91 = .ok (.istore 6, 2) := by decide +kernel
theorem dX4_resizeDirectory_93 : decode cX4_resizeDirectory 93 = .ok (.iload 5, 2) := by decide +kernel
theorem dX4_resizeDirectory_95 : decode cX4_resizeDirectory 95 = .ok (.iload_n 2, 1) := by decide +kernel
theorem dX4_resizeDirectory_96 : decode cX4_resizeDirectory 96 = .ok (.if_icmp .lt 18, 3) := by decide +kernel
theorem dX4_resizeDirectory_99 : decode cX4_resizeDirectory 99 = .ok (.aload_n 0, 1) := by decide +kernel
theorem dX4_resizeDirectory_100 : decode cX4_resizeDirectory 100 = .ok (.getfield 10, 3) := by decide +kernel
theorem dX4_resizeDirectory_103 : decode cX4_resizeDirectory 103 = .ok (.iload 4, 2) := by decide +kernel
theorem dX4_resizeDirectory_105 : decode cX4_resizeDirectory 105 = .ok (.invokevirtual 221, 3) := by decide +kernel
theorem dX4_resizeDirectory_108 : decode cX4_resizeDirectory 108 = .ok (.istore 4, 2) := by decide +kernel
theorem dX4_resizeDirectory_110 : decode cX4_resizeDirectory 110 = .ok (.iload 4, 2) := by decide +kernel
theorem dX4_resizeDirectory_112 : decode cX4_resizeDirectory 112 = .ok (.istore 6, 2) := by decide +kernel
theorem dX4_resizeDirectory_114 : decode cX4_resizeDirectory 114 = .ok (.aload_n 0, 1) := by decide +kernel
theorem dX4_resizeDirectory_115 : decode cX4_resizeDirectory 115 = .ok (.getfield 32, 3) := by decide +kernel
theorem dX4_resizeDirectory_118 : decode cX4_resizeDirectory 118 = .ok (.iconst 1, 1) := by decide +kernel
theorem dX4_resizeDirectory_119 : decode cX4_resizeDirectory 119 = .ok (.iload 5, 2) := by decide +kernel
theorem dX4_resizeDirectory_121 : decode cX4_resizeDirectory 121 = .ok (.iadd, 1) := by decide +kernel
theorem dX4_resizeDirectory_122 : decode cX4_resizeDirectory 122 = .ok (.iload 6, 2) := by decide +kernel
theorem dX4_resizeDirectory_124 : decode cX4_resizeDirectory 124 = .ok (.invokevirtual 215, 3) := by decide +kernel
theorem dX4_resizeDirectory_127 : decode cX4_resizeDirectory 127 = .ok (.aload_n 0, 1) := by decide +kernel
theorem dX4_resizeDirectory_128 : decode cX4_resizeDirectory 128 = .ok (.iload 5, 2) := by decide +kernel
theorem dX4_resizeDirectory_130 : decode cX4_resizeDirectory 130 = .ok (.iload_n 1, 1) := by decide +kernel
theorem dX4_resizeDirectory_131 : decode cX4_resizeDirectory 131 = .ok (.invokevirtual 224, 3) := by decide +kernel
theorem dX4_resizeDirectory_134 : decode cX4_resizeDirectory 134 = .ok (.aload_n 0, 1) := by decide +kernel
theorem dX4_resizeDirectory_135 : decode cX4_resizeDirectory 135 = .ok (.getfield 21, 3) := by decide +kernel
theorem dX4_resizeDirectory_138 : decode cX4_resizeDirectory 138 = .ok (.aload_n 0, 1) := by decide +kernel
theorem dX4_resizeDirectory_139 : decode cX4_resizeDirectory 139 = .ok (.getfield 28, 3) := by decide +kernel
theorem dX4_resizeDirectory_142 : decode cX4_resizeDirectory 142 = .ok (.iload 6, 2) := by decide +kernel
theorem dX4_resizeDirectory_144 : decode cX4_resizeDirectory 144 = .ok (.invokevirtual 227, 3) := by decide +kernel
theorem dX4_resizeDirectory_147 : decode cX4_resizeDirectory 147 = .ok (.ifCond .ne 5, 3) := by decide +kernel
theorem dX4_resizeDirectory_150 : decode cX4_resizeDirectory 150 = .ok (.iconst 4, 1) := by decide +kernel
theorem dX4_resizeDirectory_151 : decode cX4_resizeDirectory 151 = .ok (.ireturn, 1) := by decide +kernel
theorem dX4_resizeDirectory_152 : decode cX4_resizeDirectory 152 = .ok (.iinc 5 1, 3) := by decide +kernel
theorem dX4_resizeDirectory_155 : decode cX4_resizeDirectory 155 = .ok (.goto (-79), 3) := by decide +kernel
theorem dX4_resizeDirectory_158 : decode cX4_resizeDirectory 158 = .ok (.aload_n 0, 1) := by decide +kernel
theorem dX4_resizeDirectory_159 : decode cX4_resizeDirectory 159 = .ok (.getfield 21, 3) := by decide +kernel
theorem dX4_resizeDirectory_162 : decode cX4_resizeDirectory 162 = .ok (.aload_n 0, 1) := by decide +kernel
theorem dX4_resizeDirectory_163 : decode cX4_resizeDirectory 163 = .ok (.getfield 32, 3) := by decide +kernel
theorem dX4_resizeDirectory_166 : decode cX4_resizeDirectory 166 = .ok (.iconst 0, 1) := by decide +kernel
theorem dX4_resizeDirectory_167 : decode cX4_resizeDirectory 167 = .ok (.invokevirtual 227, 3) := by decide +kernel
theorem dX4_resizeDirectory_170 : decode cX4_resizeDirectory 170 = .ok (.ifCond .eq 17, 3) := by decide +kernel
theorem dX4_resizeDirectory_173 : decode cX4_resizeDirectory 173 = .ok (.aload_n 0, 1) := by decide +kernel
theorem dX4_resizeDirectory_174 : decode cX4_resizeDirectory 174 = .ok (.getfield 21, 3) := by decide +kernel
theorem dX4_resizeDirectory_177 : decode cX4_resizeDirectory 177 = .ok (.invokevirtual 231, 3) := by decide +kernel
theorem dX4_resizeDirectory_180 : decode cX4_resizeDirectory 180 = .ok (.ifCond .eq 7, 3) := by decide +kernel
theorem dX4_resizeDirectory_183 : decode cX4_resizeDirectory 183 = .ok (.iconst 0, 1) := by decide +kernel
theorem dX4_resizeDirectory_184 : decode cX4_resizeDirectory 184 = .ok (.goto 4, 3) := by decide +kernel
theorem dX4_resizeDirectory_187 : decode cX4_resizeDirectory 187 = .ok (.iconst 4, 1) := by decide +kernel
theorem dX4_resizeDirectory_188 : decode cX4_resizeDirectory 188 = .ok (.ireturn, 1) := by decide +kernel
theorem dX4_buildDirectoryPage_0 : decode cX4_buildDirectoryPage 0 = .ok (.iload_n 2, 1) := by decide +kernel
theorem dX4_buildDirectoryPage_1 : decode cX4_buildDirectoryPage 1 = .ok (.aload_n 0, 1) := by decide +kernel
theorem dX4_buildDirectoryPage_2 : decode cX4_buildDirectoryPage 2 = .ok (.getfield 10, 3) := by decide +kernel
theorem dX4_buildDirectoryPage_5 : decode cX4_buildDirectoryPage 5 = .ok (.invokevirtual 160, 3) := by decide +kernel
theorem dX4_buildDirectoryPage_8 : decode cX4_buildDirectoryPage 8 = .ok (.if_icmp .le 7, 3) := by decide +kernel
theorem dX4_buildDirectoryPage_11 : decode cX4_buildDirectoryPage 11 = .ok (.iconst 1, 1) := by decide +kernel
theorem dX4_buildDirectoryPage_12 : decode cX4_buildDirectoryPage 12 = .ok (.goto 4, 3) := by decide +kernel
theorem dX4_buildDirectoryPage_15 : decode cX4_buildDirectoryPage 15 = .ok (.iconst 0, 1) := by decide +kernel
theorem dX4_buildDirectoryPage_16 : decode cX4_buildDirectoryPage 16 = .ok (.istore_n 3, 1) := by decide +kernel
theorem dX4_buildDirectoryPage_17 : decode cX4_buildDirectoryPage 17 = .ok (.iload_n 1, 1) := by decide +kernel
theorem dX4_buildDirectoryPage_18 : decode cX4_buildDirectoryPage 18 = .ok (.sipush 256, 3) := by decide +kernel
theorem dX4_buildDirectoryPage_21 : decode cX4_buildDirectoryPage 21 = .ok (.imul, 1) := by decide +kernel
theorem dX4_buildDirectoryPage_22 : decode cX4_buildDirectoryPage 22 = .ok (.istore 4, 2) := by decide +kernel
theorem dX4_buildDirectoryPage_24 : decode cX4_buildDirectoryPage 24 = .ok (.iconst 1, 1) := by decide +kernel
theorem dX4_buildDirectoryPage_25 : decode cX4_buildDirectoryPage 25 = .ok (.iload_n 2, 1) := by decide +kernel
theorem dX4_buildDirectoryPage_26 : decode cX4_buildDirectoryPage 26 = .ok (.ishl, 1) := by decide +kernel
theorem dX4_buildDirectoryPage_27 : decode cX4_buildDirectoryPage 27 = .ok (.istore 5, 2) := by decide +kernel
theorem dX4_buildDirectoryPage_29 : decode cX4_buildDirectoryPage 29 = .ok (.aload_n 0, 1) := by decide +kernel
theorem dX4_buildDirectoryPage_30 : decode cX4_buildDirectoryPage 30 = .ok (.getfield 28, 3) := by decide +kernel
theorem dX4_buildDirectoryPage_33 : decode cX4_buildDirectoryPage 33 = .ok (.invokevirtual 212, 3) := by decide +kernel
theorem dX4_buildDirectoryPage_36 : decode cX4_buildDirectoryPage 36 = .ok (.iconst 0, 1) := by decide +kernel
theorem dX4_buildDirectoryPage_37 : decode cX4_buildDirectoryPage 37 = .ok (.istore 6, 2) := by decide +kernel
theorem dX4_buildDirectoryPage_39 : decode cX4_buildDirectoryPage 39 = .ok (.iload 6, 2) := by decide +kernel
theorem dX4_buildDirectoryPage_41 : decode cX4_buildDirectoryPage 41 = .ok (.sipush 256, 3) := by decide +kernel
theorem dX4_buildDirectoryPage_44 : decode cX4_buildDirectoryPage 44 = .ok (.if_icmp .ge 57, 3) := by decide +kernel
theorem dX4_buildDirectoryPage_47 : decode cX4_buildDirectoryPage 47 = .ok (.iload 4, 2) := by decide +kernel
theorem dX4_buildDirectoryPage_49 : decode cX4_buildDirectoryPage 49 = .ok (.iload 6, 2) := by decide +kernel
theorem dX4_buildDirectoryPage_51 : decode cX4_buildDirectoryPage 51 = .ok (.iadd, 1) := by decide +kernel
theorem dX4_buildDirectoryPage_52 : decode cX4_buildDirectoryPage 52 = .ok (.iload 5, 2) := by decide +kernel
theorem dX4_buildDirectoryPage_54 : decode cX4_buildDirectoryPage 54 = .ok (.if_icmp .ge 47, 3) := by decide +kernel
theorem dX4_buildDirectoryPage_57 : decode cX4_buildDirectoryPage 57 = .ok (.iload 4, 2) := by decide +kernel
theorem dX4_buildDirectoryPage_59 : decode cX4_buildDirectoryPage 59 = .ok (.iload 6, 2) := by decide +kernel
theorem dX4_buildDirectoryPage_61 : decode cX4_buildDirectoryPage 61 = .ok (.iadd, 1) := by decide +kernel
theorem dX4_buildDirectoryPage_62 : decode cX4_buildDirectoryPage 62 = .ok (.istore 7, 2) := by decide +kernel
theorem dX4_buildDirectoryPage_64 : decode cX4_buildDirectoryPage 64 = .ok (.aload_n 0, 1) := by decide +kernel
theorem dX4_buildDirectoryPage_65 : decode cX4_buildDirectoryPage 65 = .ok (.getfield 28, 3) := by decide +kernel
theorem dX4_buildDirectoryPage_68 : decode cX4_buildDirectoryPage 68 = .ok (.iload 6, 2) := by decide +kernel
theorem dX4_buildDirectoryPage_70 : decode cX4_buildDirectoryPage 70 = .ok (.aload_n 0, 1) := by decide +kernel
theorem dX4_buildDirectoryPage_71 : decode cX4_buildDirectoryPage 71 = .ok (.getfield 10, 3) := by decide +kernel
theorem dX4_buildDirectoryPage_74 : decode cX4_buildDirectoryPage 74 = .ok (.iload_n 3, 1) := by decide +kernel
theorem dX4_buildDirectoryPage_75 : decode cX4_buildDirectoryPage 75 = .ok (.ifCond .eq 10, 3) := by decide +kernel
theorem dX4_buildDirectoryPage_78 : decode cX4_buildDirectoryPage 78 = .ok (.iload 7, 2) := by decide +kernel
theorem dX4_buildDirectoryPage_80 : decode cX4_buildDirectoryPage 80 = .ok (.iconst 2, 1) := by decide +kernel
theorem dX4_buildDirectoryPage_81 : decode cX4_buildDirectoryPage 81 = .ok (.idiv, 1) := by decide +kernel
theorem dX4_buildDirectoryPage_82 : decode cX4_buildDirectoryPage 82 = .ok (.goto 7, 3) := by decide +kernel
theorem dX4_buildDirectoryPage_85 : decode cX4_buildDirectoryPage 85 = .ok (.iconst 2, 1) := by decide +kernel
theorem dX4_buildDirectoryPage_86 : decode cX4_buildDirectoryPage 86 = .ok (.iload 7, 2) := by decide +kernel
theorem dX4_buildDirectoryPage_88 : decode cX4_buildDirectoryPage 88 = .ok (.imul, 1) := by decide +kernel
theorem dX4_buildDirectoryPage_89 : decode cX4_buildDirectoryPage 89 = .ok (.invokevirtual 145, 3) := by decide +kernel
theorem dX4_buildDirectoryPage_92 : decode cX4_buildDirectoryPage 92 = .ok (.invokevirtual 215, 3) := by decide +kernel
theorem dX4_buildDirectoryPage_95 : decode cX4_buildDirectoryPage 95 = .ok (.iinc 6 1, 3) := by decide +kernel
theorem dX4_buildDirectoryPage_98 : decode cX4_buildDirectoryPage 98 = .ok (.goto (-59), 3) := by decide +kernel
theorem dX4_buildDirectoryPage_101 : decode cX4_buildDirectoryPage 101 = .ok (.return_, 1) := by decide +kernel
theorem dX4_split_0 : decode cX4_split 0 = .ok (.aload_n 0, 1) := by decide +kernel
theorem dX4_split_1 : decode cX4_split 1 = .ok (.getfield 10, 3) := by decide +kernel
theorem dX4_split_4 : decode cX4_split 4 = .ok (.iload_n 1, 1) := by decide +kernel
theorem dX4_split_5 : decode cX4_split 5 = .ok (.iconst 0, 1) := by decide +kernel
theorem dX4_split_6 : decode cX4_split 6 = .ok (.invokevirtual 130, 3) := by decide +kernel
theorem dX4_split_9 : decode cX4_split 9 = .ok (.istore_n 3, 1) := by decide +kernel
theorem dX4_split_10 : decode cX4_split 10 = .ok (.iconst 1, 1) := by decide +kernel
theorem dX4_split_11 : decode cX4_split 11 = .ok (.aload_n 0, 1) := by decide +kernel
theorem dX4_split_12 : decode cX4_split 12 = .ok (.getfield 10, 3) := by decide +kernel
theorem dX4_split_15 : decode cX4_split 15 = .ok (.invokevirtual 160, 3) := by decide +kernel
theorem dX4_split_18 : decode cX4_split 18 = .ok (.iload_n 3, 1) := by decide +kernel
theorem dX4_split_19 : decode cX4_split 19 = .ok (.isub, 1) := by decide +kernel
theorem dX4_split_20 : decode cX4_split 20 = .ok (.ishl, 1) := by decide +kernel
theorem dX4_split_21 : decode cX4_split 21 = .ok (.istore 4, 2) := by decide +kernel
theorem dX4_split_23 : decode cX4_split 23 = .ok (.aload_n 0, 1) := by decide +kernel
theorem dX4_split_24 : decode cX4_split 24 = .ok (.getfield 10, 3) := by decide +kernel
theorem dX4_split_27 : decode cX4_split 27 = .ok (.iload_n 2, 1) := by decide +kernel
theorem dX4_split_28 : decode cX4_split 28 = .ok (.invokevirtual 234, 3) := by decide +kernel
theorem dX4_split_31 : decode cX4_split 31 = .ok (.iload 4, 2) := by decide +kernel
theorem dX4_split_33 : decode cX4_split 33 = .ok (.ineg, 1) := by decide +kernel
theorem dX4_split_34 : decode cX4_split 34 = .ok (.iand, 1) := by decide +kernel
theorem dX4_split_35 : decode cX4_split 35 = .ok (.istore 5, 2) := by decide +kernel
theorem dX4_split_37 : decode cX4_split 37 = .ok (.iload 5, 2) := by decide +kernel
theorem dX4_split_39 : decode cX4_split 39 = .ok (.iload 4, 2) := by decide +kernel
theorem dX4_split_41 : decode cX4_split 41 = .ok (.iconst 2, 1) := by decide +kernel
theorem dX4_split_42 : decode cX4_split 42 = .ok (.idiv, 1) := by decide +kernel
theorem dX4_split_43 : decode cX4_split 43 = .ok (.iadd, 1) := by decide +kernel
theorem dX4_split_44 : decode cX4_split 44 = .ok (.istore 6, 2) := by decide +kernel
theorem dX4_split_46 : decode cX4_split 46 = .ok (.iload 5, 2) := by decide +kernel
theorem dX4_split_48 : decode cX4_split 48 = .ok (.iload 4, 2) := by decide +kernel
theorem dX4_split_50 : decode cX4_split 50 = .ok (.iadd, 1) := by decide +kernel
theorem dX4_split_51 : decode cX4_split 51 = .ok (.istore 7, 2) := by decide +kernel
theorem dX4_split_53 : decode cX4_split 53 = .ok (.aload_n 0, 1) := by decide +kernel
theorem dX4_split_54 : decode cX4_split 54 = .ok (.getfield 10, 3) := by decide +kernel
theorem dX4_split_57 : decode cX4_split 57 = .ok (.iconst (-1), 1) := by decide +kernel
theorem dX4_split_58 : decode cX4_split 58 = .ok (.invokevirtual 221, 3) := by decide +kernel
theorem dX4_split_61 : decode cX4_split 61 = .ok (.istore 8, 2) := by decide +kernel
theorem dX4_split_63 : decode cX4_split 63 = .ok (.iload 8, 2) := by decide +kernel
theorem dX4_split_65 : decode cX4_split 65 = .ok (.iconst (-1), 1) := by decide +kernel
theorem dX4_split_66 : decode cX4_split 66 = .ok (.if_icmp .ne 5, 3) := by decide +kernel
theorem dX4_split_69 : decode cX4_split 69 = .ok (.iconst 1, 1) := by decide +kernel
theorem dX4_split_70 : decode cX4_split 70 = .ok (.ireturn, 1) := by decide +kernel
theorem dX4_split_71 : decode cX4_split 71 = .ok (.iconst 2, 1) := by decide +kernel
theorem dX4_split_72 : decode cX4_split 72 = .ok (.iload 6, 2) := by decide +kernel
theorem dX4_split_74 : decode cX4_split 74 = .ok (.iload 7, 2) := by decide +kernel
theorem dX4_split_76 : decode cX4_split 76 = .ok (.invokestatic 237, 3) := by decide +kernel
theorem dX4_split_79 : decode cX4_split 79 = .ok (.iadd, 1) := by decide +kernel
theorem dX4_split_80 : decode cX4_split 80 = .ok (.aload_n 0, 1) := by decide +kernel
theorem dX4_split_81 : decode cX4_split 81 = .ok (.getfield 10, 3) := by decide +kernel
theorem dX4_split_84 : decode cX4_split 84 = .ok (.invokevirtual 157, 3) := by decide +kernel
theorem dX4_split_87 : decode cX4_split 87 = .ok (.if_icmp .le 5, 3) := by decide +kernel
theorem dX4_split_90 : decode cX4_split 90 = .ok (.iconst 2, 1) := by decide +kernel
theorem dX4_split_91 : decode cX4_split 91 = .ok (.ireturn, 1) := by decide +kernel
theorem dX4_split_92 : decode cX4_split 92 = .ok (.aload_n 0, 1) := by decide +kernel
theorem dX4_split_93 : decode cX4_split 93 = .ok (.getfield 21, 3) := by decide +kernel
theorem dX4_split_96 : decode cX4_split 96 = .ok (.invokevirtual 209, 3) := by decide +kernel
theorem dX4_split_99 : decode cX4_split 99 = .ok (.aload_n 0, 1) := by decide +kernel
theorem dX4_split_100 : decode cX4_split 100 = .ok (.iload_n 1, 1) := by decide +kernel
theorem dX4_split_101 : decode cX4_split 101 = .ok (.iload_n 3, 1) := by decide +kernel
theorem dX4_split_102 : decode cX4_split 102 = .ok (.iconst 0, 1) := by decide +kernel
theorem dX4_split_103 : decode cX4_split 103 = .ok (.invokevirtual 240, 3) := by decide +kernel
theorem dX4_split_106 : decode cX4_split 106 = .ok (.aload_n 0, 1) := by decide +kernel
theorem dX4_split_107 : decode cX4_split 107 = .ok (.getfield 21, 3) := by decide +kernel
theorem dX4_split_110 : decode cX4_split 110 = .ok (.aload_n 0, 1) := by decide +kernel
theorem dX4_split_111 : decode cX4_split 111 = .ok (.getfield 28, 3) := by decide +kernel
theorem dX4_split_114 : decode cX4_split 114 = .ok (.iload_n 1, 1) := by decide +kernel
theorem dX4_split_115 : decode cX4_split 115 = .ok (.invokevirtual 227, 3) := by decide +kernel
theorem dX4_split_118 : decode cX4_split 118 = .ok (.ifCond .ne 5, 3) := by decide +kernel
theorem dX4_split_121 : decode cX4_split 121 = .ok (.iconst 4, 1) := by decide +kernel
theorem dX4_split_122 : decode cX4_split 122 = .ok (.ireturn, 1) := by decide +kernel
theorem dX4_split_123 : decode cX4_split 123 = .ok (.aload_n 0, 1) := by decide +kernel
theorem dX4_split_124 : decode cX4_split 124 = .ok (.iload_n 1, 1) := by decide +kernel
theorem dX4_split_125 : decode cX4_split 125 = .ok (.iload_n 3, 1) := by decide +kernel
theorem dX4_split_126 : decode cX4_split 126 = .ok (.iconst 1, 1) := by decide +kernel
theorem dX4_split_127 : decode cX4_split 127 = .ok (.invokevirtual 240, 3) := by decide +kernel
theorem dX4_split_130 : decode cX4_split 130 = .ok (.aload_n 0, 1) := by decide +kernel
theorem dX4_split_131 : decode cX4_split 131 = .ok (.getfield 21, 3) := by decide +kernel
theorem dX4_split_134 : decode cX4_split 134 = .ok (.aload_n 0, 1) := by decide +kernel
theorem dX4_split_135 : decode cX4_split 135 = .ok (.getfield 28, 3) := by decide +kernel
theorem dX4_split_138 : decode cX4_split 138 = .ok (.iload 8, 2) := by decide +kernel
theorem dX4_split_140 : decode cX4_split 140 = .ok (.invokevirtual 227, 3) := by decide +kernel
theorem dX4_split_143 : decode cX4_split 143 = .ok (.ifCond .ne 5, 3) := by decide +kernel
theorem dX4_split_146 : decode cX4_split 146 = .ok (.iconst 4, 1) := by decide +kernel
theorem dX4_split_147 : decode cX4_split 147 = .ok (.ireturn, 1) := by decide +kernel
theorem dX4_split_148 : decode cX4_split 148 = .ok (.aload_n 0, 1) := by decide +kernel
theorem dX4_split_149 : decode cX4_split 149 = .ok (.iload 6, 2) := by decide +kernel
theorem dX4_split_151 : decode cX4_split 151 = .ok (.iload 7, 2) := by decide +kernel
theorem dX4_split_153 : decode cX4_split 153 = .ok (.iload 8, 2) := by decide +kernel
theorem dX4_split_155 : decode cX4_split 155 = .ok (.invokevirtual 244, 3) := by decide +kernel
theorem dX4_split_158 : decode cX4_split 158 = .ok (.ifCond .eq 17, 3) := by decide +kernel
theorem dX4_split_161 : decode cX4_split 161 = .ok (.aload_n 0, 1) := by decide +kernel
theorem dX4_split_162 : decode cX4_split 162 = .ok (.getfield 21, 3) := by decide +kernel
theorem dX4_split_165 : decode cX4_split 165 = .ok (.invokevirtual 231, 3) := by decide +kernel
theorem dX4_split_168 : decode cX4_split 168 = .ok (.ifCond .eq 7, 3) := by decide +kernel
theorem dX4_split_171 : decode cX4_split 171 = .ok (.iconst 0, 1) := by decide +kernel
theorem dX4_split_172 : decode cX4_split 172 = .ok (.goto 4, 3) := by decide +kernel
theorem dX4_split_175 : decode cX4_split 175 = .ok (.iconst 4, 1) := by decide +kernel
theorem dX4_split_176 : decode cX4_split 176 = .ok (.ireturn, 1) := by decide +kernel
theorem dX4_buildHalf_0 : decode cX4_buildHalf 0 = .ok (.aload_n 0, 1) := by decide +kernel
theorem dX4_buildHalf_1 : decode cX4_buildHalf 1 = .ok (.getfield 28, 3) := by decide +kernel
theorem dX4_buildHalf_4 : decode cX4_buildHalf 4 = .ok (.iload_n 2, 1) := by decide +kernel
theorem dX4_buildHalf_5 : decode cX4_buildHalf 5 = .ok (.iconst 1, 1) := by decide +kernel
theorem dX4_buildHalf_6 : decode cX4_buildHalf 6 = .ok (.iadd, 1) := by decide +kernel
theorem dX4_buildHalf_7 : decode cX4_buildHalf 7 = .ok (.invokevirtual 196, 3) := by decide +kernel
theorem dX4_buildHalf_10 : decode cX4_buildHalf 10 = .ok (.aload_n 0, 1) := by decide +kernel
theorem dX4_buildHalf_11 : decode cX4_buildHalf 11 = .ok (.getfield 10, 3) := by decide +kernel
theorem dX4_buildHalf_14 : decode cX4_buildHalf 14 = .ok (.iload_n 1, 1) := by decide +kernel
theorem dX4_buildHalf_15 : decode cX4_buildHalf 15 = .ok (.iconst 1, 1) := by decide +kernel
theorem dX4_buildHalf_16 : decode cX4_buildHalf 16 = .ok (.invokevirtual 130, 3) := by decide +kernel
theorem dX4_buildHalf_19 : decode cX4_buildHalf 19 = .ok (.istore 4, 2) := by decide +kernel
theorem dX4_buildHalf_21 : decode cX4_buildHalf 21 = .ok (.iconst 4, 1) := by decide +kernel
theorem dX4_buildHalf_22 : decode cX4_buildHalf 22 = .ok (.istore 5, 2) := by decide +kernel
theorem dX4_buildHalf_24 : decode cX4_buildHalf 24 = .ok (.iconst 0, 1) := by decide +kernel
theorem dX4_buildHalf_25 : decode cX4_buildHalf 25 = .ok (.istore 6, 2) := by decide +kernel
theorem dX4_buildHalf_27 : decode cX4_buildHalf 27 = .ok (.iload 6, 2) := by decide +kernel
theorem dX4_buildHalf_29 : decode cX4_buildHalf 29 = .ok (.iload 4, 2) := by decide +kernel
theorem dX4_buildHalf_31 : decode cX4_buildHalf 31 = .ok (.if_icmp .ge 63, 3) := by decide +kernel
theorem dX4_buildHalf_34 : decode cX4_buildHalf 34 = .ok (.aload_n 0, 1) := by decide +kernel
theorem dX4_buildHalf_35 : decode cX4_buildHalf 35 = .ok (.getfield 10, 3) := by decide +kernel
theorem dX4_buildHalf_38 : decode cX4_buildHalf 38 = .ok (.iload_n 1, 1) := by decide +kernel
theorem dX4_buildHalf_39 : decode cX4_buildHalf 39 = .ok (.iload 5, 2) := by decide +kernel
theorem dX4_buildHalf_41 : decode cX4_buildHalf 41 = .ok (.invokevirtual 247, 3) := by decide +kernel
theorem dX4_buildHalf_44 : decode cX4_buildHalf 44 = .ok (.istore 7, 2) := by decide +kernel
theorem dX4_buildHalf_46 : decode cX4_buildHalf 46 = .ok (.iload 7, 2) := by decide +kernel
theorem dX4_buildHalf_48 : decode cX4_buildHalf 48 = .ok (.bipush 15, 2) := by decide +kernel
theorem dX4_buildHalf_50 : decode cX4_buildHalf 50 = .ok (.iload_n 2, 1) := by decide +kernel
theorem dX4_buildHalf_51 : decode cX4_buildHalf 51 = .ok (.isub, 1) := by decide +kernel
theorem dX4_buildHalf_52 : decode cX4_buildHalf 52 = .ok (.ishr, 1) := by decide +kernel
theorem dX4_buildHalf_53 : decode cX4_buildHalf 53 = .ok (.iconst 1, 1) := by decide +kernel
theorem dX4_buildHalf_54 : decode cX4_buildHalf 54 = .ok (.iand, 1) := by decide +kernel
theorem dX4_buildHalf_55 : decode cX4_buildHalf 55 = .ok (.iload_n 3, 1) := by decide +kernel
theorem dX4_buildHalf_56 : decode cX4_buildHalf 56 = .ok (.if_icmp .ne 17, 3) := by decide +kernel
theorem dX4_buildHalf_59 : decode cX4_buildHalf 59 = .ok (.aload_n 0, 1) := by decide +kernel
theorem dX4_buildHalf_60 : decode cX4_buildHalf 60 = .ok (.getfield 28, 3) := by decide +kernel
theorem dX4_buildHalf_63 : decode cX4_buildHalf 63 = .ok (.aload_n 0, 1) := by decide +kernel
theorem dX4_buildHalf_64 : decode cX4_buildHalf 64 = .ok (.getfield 10, 3) := by decide +kernel
theorem dX4_buildHalf_67 : decode cX4_buildHalf 67 = .ok (.iload_n 1, 1) := by decide +kernel
theorem dX4_buildHalf_68 : decode cX4_buildHalf 68 = .ok (.iload 5, 2) := by decide +kernel
theorem dX4_buildHalf_70 : decode cX4_buildHalf 70 = .ok (.invokevirtual 202, 3) := by decide +kernel
theorem dX4_buildHalf_73 : decode cX4_buildHalf 73 = .ok (.iload 5, 2) := by decide +kernel
theorem dX4_buildHalf_75 : decode cX4_buildHalf 75 = .ok (.aload_n 0, 1) := by decide +kernel
theorem dX4_buildHalf_76 : decode cX4_buildHalf 76 = .ok (.getfield 10, 3) := by decide +kernel
theorem dX4_buildHalf_79 : decode cX4_buildHalf 79 = .ok (.iload_n 1, 1) := by decide +kernel
theorem dX4_buildHalf_80 : decode cX4_buildHalf 80 = .ok (.iload 5, 2) := by decide +kernel
theorem dX4_buildHalf_82 : decode cX4_buildHalf 82 = .ok (.invokevirtual 189, 3) := by decide +kernel
theorem dX4_buildHalf_85 : decode cX4_buildHalf 85 = .ok (.iadd, 1) := by decide +kernel
theorem dX4_buildHalf_86 : decode cX4_buildHalf 86 = .ok (.istore 5, 2) := by decide +kernel
theorem dX4_buildHalf_88 : decode cX4_buildHalf 88 = .ok (.iinc 6 1, 3) := by decide +kernel
theorem dX4_buildHalf_91 : decode cX4_buildHalf 91 = .ok (.goto (-64), 3) := by decide +kernel
theorem dX4_buildHalf_94 : decode cX4_buildHalf 94 = .ok (.return_, 1) := by decide +kernel
theorem dX4_directoryPagesOf_0 : decode cX4_directoryPagesOf 0 = .ok (.iload_n 1, 1) := by decide +kernel
theorem dX4_directoryPagesOf_1 : decode cX4_directoryPagesOf 1 = .ok (.iconst 1, 1) := by decide +kernel
theorem dX4_directoryPagesOf_2 : decode cX4_directoryPagesOf 2 = .ok (.isub, 1) := by decide +kernel
theorem dX4_directoryPagesOf_3 : decode cX4_directoryPagesOf 3 = .ok (.sipush 256, 3) := by decide +kernel
theorem dX4_directoryPagesOf_6 : decode cX4_directoryPagesOf 6 = .ok (.idiv, 1) := by decide +kernel
theorem dX4_directoryPagesOf_7 : decode cX4_directoryPagesOf 7 = .ok (.iload_n 0, 1) := by decide +kernel
theorem dX4_directoryPagesOf_8 : decode cX4_directoryPagesOf 8 = .ok (.sipush 256, 3) := by decide +kernel
theorem dX4_directoryPagesOf_11 : decode cX4_directoryPagesOf 11 = .ok (.idiv, 1) := by decide +kernel
theorem dX4_directoryPagesOf_12 : decode cX4_directoryPagesOf 12 = .ok (.isub, 1) := by decide +kernel
theorem dX4_directoryPagesOf_13 : decode cX4_directoryPagesOf 13 = .ok (.iconst 1, 1) := by decide +kernel
theorem dX4_directoryPagesOf_14 : decode cX4_directoryPagesOf 14 = .ok (.iadd, 1) := by decide +kernel
theorem dX4_directoryPagesOf_15 : decode cX4_directoryPagesOf 15 = .ok (.ireturn, 1) := by decide +kernel
theorem dX4_retell_0 : decode cX4_retell 0 = .ok (.iload_n 2, 1) := by decide +kernel
theorem dX4_retell_1 : decode cX4_retell 1 = .ok (.iconst 1, 1) := by decide +kernel
theorem dX4_retell_2 : decode cX4_retell 2 = .ok (.isub, 1) := by decide +kernel
theorem dX4_retell_3 : decode cX4_retell 3 = .ok (.sipush 256, 3) := by decide +kernel
theorem dX4_retell_6 : decode cX4_retell 6 = .ok (.idiv, 1) := by decide +kernel
theorem dX4_retell_7 : decode cX4_retell 7 = .ok (.istore 4, 2) := by decide +kernel
theorem dX4_retell_9 : decode cX4_retell 9 = .ok (.iload_n 1, 1) := by decide +kernel
theorem dX4_retell_10 : decode cX4_retell 10 = .ok (.sipush 256, 3) := by decide +kernel
theorem dX4_retell_13 : decode cX4_retell 13 = .ok (.idiv, 1) := by decide +kernel
theorem dX4_retell_14 : decode cX4_retell 14 = .ok (.istore 5, 2) := by decide +kernel
theorem dX4_retell_16 : decode cX4_retell 16 = .ok (.iload 5, 2) := by decide +kernel
theorem dX4_retell_18 : decode cX4_retell 18 = .ok (.iload 4, 2) := by decide +kernel
theorem dX4_retell_20 : decode cX4_retell 20 = .ok (.if_icmp .gt 104, 3) := by decide +kernel
theorem dX4_retell_23 : decode cX4_retell 23 = .ok (.aload_n 0, 1) := by decide +kernel
theorem dX4_retell_24 : decode cX4_retell 24 = .ok (.getfield 10, 3) := by decide +kernel
theorem dX4_retell_27 : decode cX4_retell 27 = .ok (.iload 5, 2) := by decide +kernel
theorem dX4_retell_29 : decode cX4_retell 29 = .ok (.invokevirtual 218, 3) := by decide +kernel
theorem dX4_retell_32 : decode cX4_retell 32 = .ok (.istore 6, 2) := by decide +kernel
theorem dX4_retell_34 : decode cX4_retell 34 = .ok (.iload 5, 2) := by decide +kernel
theorem dX4_retell_36 : decode cX4_retell 36 = .ok (.sipush 256, 3) := by decide +kernel
theorem dX4_retell_39 : decode cX4_retell 39 = .ok (.imul, 1) := by decide +kernel
theorem dX4_retell_40 : decode cX4_retell 40 = .ok (.istore 7, 2) := by decide +kernel
theorem dX4_retell_42 : decode cX4_retell 42 = .ok (.aload_n 0, 1) := by decide +kernel
theorem dX4_retell_43 : decode cX4_retell 43 = .ok (.getfield 10, 3) := by decide +kernel
theorem dX4_retell_46 : decode cX4_retell 46 = .ok (.iload 6, 2) := by decide +kernel
theorem dX4_retell_48 : decode cX4_retell 48 = .ok (.aload_n 0, 1) := by decide +kernel
theorem dX4_retell_49 : decode cX4_retell 49 = .ok (.getfield 28, 3) := by decide +kernel
theorem dX4_retell_52 : decode cX4_retell 52 = .ok (.invokevirtual 250, 3) := by decide +kernel
theorem dX4_retell_55 : decode cX4_retell 55 = .ok (.iconst 0, 1) := by decide +kernel
theorem dX4_retell_56 : decode cX4_retell 56 = .ok (.istore 8, 2) := by decide +kernel
theorem dX4_retell_58 : decode cX4_retell 58 = .ok (.iload 8, 2) := by decide +kernel
theorem dX4_retell_60 : decode cX4_retell 60 = .ok (.sipush 256, 3) := by decide +kernel
theorem dX4_retell_63 : decode cX4_retell 63 = .ok (.if_icmp .ge 37, 3) := by decide +kernel
theorem dX4_retell_66 : decode cX4_retell 66 = .ok (.iload 7, 2) := by decide +kernel
theorem dX4_retell_68 : decode cX4_retell 68 = .ok (.iload 8, 2) := by decide +kernel
theorem dX4_retell_70 : decode cX4_retell 70 = .ok (.iadd, 1) := by decide +kernel
theorem dX4_retell_71 : decode cX4_retell 71 = .ok (.iload_n 1, 1) := by decide +kernel
theorem dX4_retell_72 : decode cX4_retell 72 = .ok (.if_icmp .lt 22, 3) := by decide +kernel
theorem dX4_retell_75 : decode cX4_retell 75 = .ok (.iload 7, 2) := by decide +kernel
theorem dX4_retell_77 : decode cX4_retell 77 = .ok (.iload 8, 2) := by decide +kernel
theorem dX4_retell_79 : decode cX4_retell 79 = .ok (.iadd, 1) := by decide +kernel
theorem dX4_retell_80 : decode cX4_retell 80 = .ok (.iload_n 2, 1) := by decide +kernel
theorem dX4_retell_81 : decode cX4_retell 81 = .ok (.if_icmp .ge 13, 3) := by decide +kernel
theorem dX4_retell_84 : decode cX4_retell 84 = .ok (.aload_n 0, 1) := by decide +kernel
theorem dX4_retell_85 : decode cX4_retell 85 = .ok (.getfield 28, 3) := by decide +kernel
theorem dX4_retell_88 : decode cX4_retell 88 = .ok (.iload 8, 2) := by decide +kernel
theorem dX4_retell_90 : decode cX4_retell 90 = .ok (.iload_n 3, 1) := by decide +kernel
theorem dX4_retell_91 : decode cX4_retell 91 = .ok (.invokevirtual 215, 3) := by decide +kernel
theorem dX4_retell_94 : decode cX4_retell 94 = .ok (.iinc 8 1, 3) := by decide +kernel
theorem dX4_retell_97 : decode cX4_retell 97 = .ok (.goto (-39), 3) := by decide +kernel
theorem dX4_retell_100 : decode cX4_retell 100 = .ok (.aload_n 0, 1) := by decide +kernel
theorem dX4_retell_101 : decode cX4_retell 101 = .ok (.getfield 21, 3) := by decide +kernel
theorem dX4_retell_104 : decode cX4_retell 104 = .ok (.aload_n 0, 1) := by decide +kernel
theorem dX4_retell_105 : decode cX4_retell 105 = .ok (.getfield 28, 3) := by decide +kernel
theorem dX4_retell_108 : decode cX4_retell 108 = .ok (.iload 6, 2) := by decide +kernel
theorem dX4_retell_110 : decode cX4_retell 110 = .ok (.invokevirtual 227, 3) := by decide +kernel
theorem dX4_retell_113 : decode cX4_retell 113 = .ok (.ifCond .ne 5, 3) := by decide +kernel
theorem dX4_retell_116 : decode cX4_retell 116 = .ok (.iconst 0, 1) := by decide +kernel
theorem dX4_retell_117 : decode cX4_retell 117 = .ok (.ireturn, 1) := by decide +kernel
theorem dX4_retell_118 : decode cX4_retell 118 = .ok (.iinc 5 1, 3) := by decide +kernel
theorem dX4_retell_121 : decode cX4_retell 121 = .ok (.goto (-105), 3) := by decide +kernel
theorem dX4_retell_124 : decode cX4_retell 124 = .ok (.iconst 1, 1) := by decide +kernel
theorem dX4_retell_125 : decode cX4_retell 125 = .ok (.ireturn, 1) := by decide +kernel
theorem dX4_mergeAll_0 : decode cX4_mergeAll 0 = .ok (.iconst 0, 1) := by decide +kernel
theorem dX4_mergeAll_1 : decode cX4_mergeAll 1 = .ok (.istore_n 2, 1) := by decide +kernel
theorem dX4_mergeAll_2 : decode cX4_mergeAll 2 = .ok (.iload_n 2, 1) := by decide +kernel
theorem dX4_mergeAll_3 : decode cX4_mergeAll 3 = .ok (.bipush 64, 2) := by decide +kernel
theorem dX4_mergeAll_5 : decode cX4_mergeAll 5 = .ok (.if_icmp .ge 38, 3) := by decide +kernel
theorem dX4_mergeAll_8 : decode cX4_mergeAll 8 = .ok (.aload_n 0, 1) := by decide +kernel
theorem dX4_mergeAll_9 : decode cX4_mergeAll 9 = .ok (.iload_n 1, 1) := by decide +kernel
theorem dX4_mergeAll_10 : decode cX4_mergeAll 10 = .ok (.invokevirtual 254, 3) := by decide +kernel
theorem dX4_mergeAll_13 : decode cX4_mergeAll 13 = .ok (.istore_n 3, 1) := by decide +kernel
theorem dX4_mergeAll_14 : decode cX4_mergeAll 14 = .ok (.iload_n 3, 1) := by decide +kernel
theorem dX4_mergeAll_15 : decode cX4_mergeAll 15 = .ok (.iconst (-1), 1) := by decide +kernel
theorem dX4_mergeAll_16 : decode cX4_mergeAll 16 = .ok (.if_icmp .ne 5, 3) := by decide +kernel
theorem dX4_mergeAll_19 : decode cX4_mergeAll 19 = .ok (.iconst 0, 1) := by decide +kernel
theorem dX4_mergeAll_20 : decode cX4_mergeAll 20 = .ok (.ireturn, 1) := by decide +kernel
theorem dX4_mergeAll_21 : decode cX4_mergeAll 21 = .ok (.aload_n 0, 1) := by decide +kernel
theorem dX4_mergeAll_22 : decode cX4_mergeAll 22 = .ok (.iload_n 1, 1) := by decide +kernel
theorem dX4_mergeAll_23 : decode cX4_mergeAll 23 = .ok (.iload_n 3, 1) := by decide +kernel
theorem dX4_mergeAll_24 : decode cX4_mergeAll 24 = .ok (.invokevirtual 257, 3) := by decide +kernel
theorem dX4_mergeAll_27 : decode cX4_mergeAll 27 = .ok (.istore 4, 2) := by decide +kernel
theorem dX4_mergeAll_29 : decode cX4_mergeAll 29 = .ok (.iload 4, 2) := by decide +kernel
theorem dX4_mergeAll_31 : decode cX4_mergeAll 31 = .ok (.ifCond .eq 6, 3) := by decide +kernel
theorem dX4_mergeAll_34 : decode cX4_mergeAll 34 = .ok (.iload 4, 2) := by decide +kernel
theorem dX4_mergeAll_36 : decode cX4_mergeAll 36 = .ok (.ireturn, 1) := by decide +kernel
theorem dX4_mergeAll_37 : decode cX4_mergeAll 37 = .ok (.iinc 2 1, 3) := by decide +kernel
theorem dX4_mergeAll_40 : decode cX4_mergeAll 40 = .ok (.goto (-38), 3) := by decide +kernel
theorem dX4_mergeAll_43 : decode cX4_mergeAll 43 = .ok (.iconst 0, 1) := by decide +kernel
theorem dX4_mergeAll_44 : decode cX4_mergeAll 44 = .ok (.ireturn, 1) := by decide +kernel
theorem dX4_mergePartner_0 : decode cX4_mergePartner 0 = .ok (.aload_n 0, 1) := by decide +kernel
theorem dX4_mergePartner_1 : decode cX4_mergePartner 1 = .ok (.getfield 10, 3) := by decide +kernel
theorem dX4_mergePartner_4 : decode cX4_mergePartner 4 = .ok (.iload_n 1, 1) := by decide +kernel
theorem dX4_mergePartner_5 : decode cX4_mergePartner 5 = .ok (.invokevirtual 104, 3) := by decide +kernel
theorem dX4_mergePartner_8 : decode cX4_mergePartner 8 = .ok (.istore_n 2, 1) := by decide +kernel
theorem dX4_mergePartner_9 : decode cX4_mergePartner 9 = .ok (.aload_n 0, 1) := by decide +kernel
theorem dX4_mergePartner_10 : decode cX4_mergePartner 10 = .ok (.getfield 10, 3) := by decide +kernel
theorem dX4_mergePartner_13 : decode cX4_mergePartner 13 = .ok (.iload_n 2, 1) := by decide +kernel
theorem dX4_mergePartner_14 : decode cX4_mergePartner 14 = .ok (.iconst 0, 1) := by decide +kernel
theorem dX4_mergePartner_15 : decode cX4_mergePartner 15 = .ok (.invokevirtual 130, 3) := by decide +kernel
theorem dX4_mergePartner_18 : decode cX4_mergePartner 18 = .ok (.istore_n 3, 1) := by decide +kernel
theorem dX4_mergePartner_19 : decode cX4_mergePartner 19 = .ok (.iload_n 3, 1) := by decide +kernel
theorem dX4_mergePartner_20 : decode cX4_mergePartner 20 = .ok (.ifCond .gt 5, 3) := by decide +kernel
theorem dX4_mergePartner_23 : decode cX4_mergePartner 23 = .ok (.iconst (-1), 1) := by decide +kernel
theorem dX4_mergePartner_24 : decode cX4_mergePartner 24 = .ok (.ireturn, 1) := by decide +kernel
theorem dX4_mergePartner_25 : decode cX4_mergePartner 25 = .ok (.aload_n 0, 1) := by decide +kernel
theorem dX4_mergePartner_26 : decode cX4_mergePartner 26 = .ok (.getfield 10, 3) := by decide +kernel
theorem dX4_mergePartner_29 : decode cX4_mergePartner 29 = .ok (.aload_n 0, 1) := by decide +kernel
theorem dX4_mergePartner_30 : decode cX4_mergePartner 30 = .ok (.getfield 10, 3) := by decide +kernel
theorem dX4_mergePartner_33 : decode cX4_mergePartner 33 = .ok (.iload_n 1, 1) := by decide +kernel
theorem dX4_mergePartner_34 : decode cX4_mergePartner 34 = .ok (.invokevirtual 234, 3) := by decide +kernel
theorem dX4_mergePartner_37 : decode cX4_mergePartner 37 = .ok (.iconst 1, 1) := by decide +kernel
theorem dX4_mergePartner_38 : decode cX4_mergePartner 38 = .ok (.aload_n 0, 1) := by decide +kernel
theorem dX4_mergePartner_39 : decode cX4_mergePartner 39 = .ok (.getfield 10, 3) := by decide +kernel
theorem dX4_mergePartner_42 : decode cX4_mergePartner 42 = .ok (.invokevirtual 160, 3) := by decide +kernel
theorem dX4_mergePartner_45 : decode cX4_mergePartner 45 = .ok (.iload_n 3, 1) := by decide +kernel
theorem dX4_mergePartner_46 : decode cX4_mergePartner 46 = .ok (.isub, 1) := by decide +kernel
theorem dX4_mergePartner_47 : decode cX4_mergePartner 47 = .ok (.ishl, 1) := by decide +kernel
theorem dX4_mergePartner_48 : decode cX4_mergePartner 48 = .ok (.ixor, 1) := by decide +kernel
theorem dX4_mergePartner_49 : decode cX4_mergePartner 49 = .ok (.invokevirtual 145, 3) := by decide +kernel
theorem dX4_mergePartner_52 : decode cX4_mergePartner 52 = .ok (.istore 4, 2) := by decide +kernel
theorem dX4_mergePartner_54 : decode cX4_mergePartner 54 = .ok (.aload_n 0, 1) := by decide +kernel
theorem dX4_mergePartner_55 : decode cX4_mergePartner 55 = .ok (.getfield 10, 3) := by decide +kernel
theorem dX4_mergePartner_58 : decode cX4_mergePartner 58 = .ok (.iload 4, 2) := by decide +kernel
theorem dX4_mergePartner_60 : decode cX4_mergePartner 60 = .ok (.iconst 0, 1) := by decide +kernel
theorem dX4_mergePartner_61 : decode cX4_mergePartner 61 = .ok (.invokevirtual 130, 3) := by decide +kernel
theorem dX4_mergePartner_64 : decode cX4_mergePartner 64 = .ok (.iload_n 3, 1) := by decide +kernel
theorem dX4_mergePartner_65 : decode cX4_mergePartner 65 = .ok (.if_icmp .ne 26, 3) := by decide +kernel
theorem dX4_mergePartner_68 : decode cX4_mergePartner 68 = .ok (.aload_n 0, 1) := by decide +kernel
theorem dX4_mergePartner_69 : decode cX4_mergePartner 69 = .ok (.getfield 10, 3) := by decide +kernel
theorem dX4_mergePartner_72 : decode cX4_mergePartner 72 = .ok (.iload_n 2, 1) := by decide +kernel
theorem dX4_mergePartner_73 : decode cX4_mergePartner 73 = .ok (.invokevirtual 148, 3) := by decide +kernel
theorem dX4_mergePartner_76 : decode cX4_mergePartner 76 = .ok (.aload_n 0, 1) := by decide +kernel
theorem dX4_mergePartner_77 : decode cX4_mergePartner 77 = .ok (.getfield 10, 3) := by decide +kernel
theorem dX4_mergePartner_80 : decode cX4_mergePartner 80 = .ok (.iload 4, 2) := by decide +kernel
theorem dX4_mergePartner_82 : decode cX4_mergePartner 82 = .ok (.invokevirtual 148, 3) := by decide +kernel
theorem dX4_mergePartner_85 : decode cX4_mergePartner 85 = .ok (.iadd, 1) := by decide +kernel
theorem dX4_mergePartner_86 : decode cX4_mergePartner 86 = .ok (.bipush 126, 2) := by decide +kernel
theorem dX4_mergePartner_88 : decode cX4_mergePartner 88 = .ok (.if_icmp .le 5, 3) := by decide +kernel
theorem dX4_mergePartner_91 : decode cX4_mergePartner 91 = .ok (.iconst (-1), 1) := by decide +kernel
theorem dX4_mergePartner_92 : decode cX4_mergePartner 92 = .ok (.ireturn, 1) := by decide +kernel
theorem dX4_mergePartner_93 : decode cX4_mergePartner 93 = .ok (.iload 4, 2) := by decide +kernel
theorem dX4_mergePartner_95 : decode cX4_mergePartner 95 = .ok (.ireturn, 1) := by decide +kernel
theorem dX4_merge_0 : decode cX4_merge 0 = .ok (.aload_n 0, 1) := by decide +kernel
theorem dX4_merge_1 : decode cX4_merge 1 = .ok (.getfield 10, 3) := by decide +kernel
theorem dX4_merge_4 : decode cX4_merge 4 = .ok (.iload_n 1, 1) := by decide +kernel
theorem dX4_merge_5 : decode cX4_merge 5 = .ok (.invokevirtual 104, 3) := by decide +kernel
theorem dX4_merge_8 : decode cX4_merge 8 = .ok (.istore_n 3, 1) := by decide +kernel
theorem dX4_merge_9 : decode cX4_merge 9 = .ok (.aload_n 0, 1) := by decide +kernel
theorem dX4_merge_10 : decode cX4_merge 10 = .ok (.getfield 10, 3) := by decide +kernel
theorem dX4_merge_13 : decode cX4_merge 13 = .ok (.iload_n 3, 1) := by decide +kernel
theorem dX4_merge_14 : decode cX4_merge 14 = .ok (.iconst 0, 1) := by decide +kernel
theorem dX4_merge_15 : decode cX4_merge 15 = .ok (.invokevirtual 130, 3) := by decide +kernel
theorem dX4_merge_18 : decode cX4_merge 18 = .ok (.istore 4, 2) := by decide +kernel
theorem dX4_merge_20 : decode cX4_merge 20 = .ok (.iconst 1, 1) := by decide +kernel
theorem dX4_merge_21 : decode cX4_merge 21 = .ok (.aload_n 0, 1) := by decide +kernel
theorem dX4_merge_22 : decode cX4_merge 22 = .ok (.getfield 10, 3) := by decide +kernel
theorem dX4_merge_25 : decode cX4_merge 25 = .ok (.invokevirtual 160, 3) := by decide +kernel
theorem dX4_merge_28 : decode cX4_merge 28 = .ok (.iload 4, 2) := by decide +kernel
theorem dX4_merge_30 : decode cX4_merge 30 = .ok (.isub, 1) := by decide +kernel
theorem dX4_merge_31 : decode cX4_merge 31 = .ok (.ishl, 1) := by decide +kernel
theorem dX4_merge_32 : decode cX4_merge 32 = .ok (.istore 5, 2) := by decide +kernel
theorem dX4_merge_34 : decode cX4_merge 34 = .ok (.aload_n 0, 1) := by decide +kernel
theorem dX4_merge_35 : decode cX4_merge 35 = .ok (.getfield 10, 3) := by decide +kernel
theorem dX4_merge_38 : decode cX4_merge 38 = .ok (.iload_n 1, 1) := by decide +kernel
theorem dX4_merge_39 : decode cX4_merge 39 = .ok (.invokevirtual 234, 3) := by decide +kernel
theorem dX4_merge_42 : decode cX4_merge 42 = .ok (.istore 6, 2) := by decide +kernel
theorem dX4_merge_44 : decode cX4_merge 44 = .ok (.iload 6, 2) := by decide +kernel
theorem dX4_merge_46 : decode cX4_merge 46 = .ok (.iload 5, 2) := by decide +kernel
theorem dX4_merge_48 : decode cX4_merge 48 = .ok (.iand, 1) := by decide +kernel
theorem dX4_merge_49 : decode cX4_merge 49 = .ok (.ifCond .ne 7, 3) := by decide +kernel
theorem dX4_merge_52 : decode cX4_merge 52 = .ok (.iconst 1, 1) := by decide +kernel
theorem dX4_merge_53 : decode cX4_merge 53 = .ok (.goto 4, 3) := by decide +kernel
theorem dX4_merge_56 : decode cX4_merge 56 = .ok (.iconst 0, 1) := by decide +kernel
theorem dX4_merge_57 : decode cX4_merge 57 = .ok (.istore 7, 2) := by decide +kernel
theorem dX4_merge_59 : decode cX4_merge 59 = .ok (.iload 7, 2) := by decide +kernel
theorem dX4_merge_61 : decode cX4_merge 61 = .ok (.ifCond .eq 7, 3) := by decide +kernel
theorem dX4_merge_64 : decode cX4_merge 64 = .ok (.iload_n 3, 1) := by decide +kernel
theorem dX4_merge_65 : decode cX4_merge 65 = .ok (.goto 4, 3) := by decide +kernel
theorem dX4_merge_68 : decode cX4_merge 68 = .ok (.iload_n 2, 1) := by decide +kernel
theorem dX4_merge_69 : decode cX4_merge 69 = .ok (.istore 8, 2) := by decide +kernel
theorem dX4_merge_71 : decode cX4_merge 71 = .ok (.iload 7, 2) := by decide +kernel
theorem dX4_merge_73 : decode cX4_merge 73 = .ok (.ifCond .eq 7, 3) := by decide +kernel
theorem dX4_merge_76 : decode cX4_merge 76 = .ok (.iload_n 2, 1) := by decide +kernel
theorem dX4_merge_77 : decode cX4_merge 77 = .ok (.goto 4, 3) := by decide +kernel
theorem dX4_merge_80 : decode cX4_merge 80 = .ok (.iload_n 3, 1) := by decide +kernel
theorem dX4_merge_81 : decode cX4_merge 81 = .ok (.istore 9, 2) := by decide +kernel
theorem dX4_merge_83 : decode cX4_merge 83 = .ok (.iload 6, 2) := by decide +kernel
theorem dX4_merge_85 : decode cX4_merge 85 = .ok (.iload 5, 2) := by decide +kernel
theorem dX4_merge_87 : decode cX4_merge 87 = .ok (.ior, 1) := by decide +kernel
theorem dX4_merge_88 : decode cX4_merge 88 = .ok (.iload 5, 2) := by decide +kernel
theorem dX4_merge_90 : decode cX4_merge 90 = .ok (.ineg, 1) := by decide +kernel
theorem dX4_merge_91 : decode cX4_merge 91 = .ok (.iand, 1) := by decide +kernel
theorem dX4_merge_92 : decode cX4_merge 92 = .ok (.istore 10, 2) := by decide +kernel
theorem dX4_merge_94 : decode cX4_merge 94 = .ok (.iconst 1, 1) := by decide +kernel
theorem dX4_merge_95 : decode cX4_merge 95 = .ok (.iload 10, 2) := by decide +kernel
theorem dX4_merge_97 : decode cX4_merge 97 = .ok (.iload 10, 2) := by decide +kernel
theorem dX4_merge_99 : decode cX4_merge 99 = .ok (.iload 5, 2) := by decide +kernel
theorem dX4_merge_101 : decode cX4_merge 101 = .ok (.iadd, 1) := by decide +kernel
theorem dX4_merge_102 : decode cX4_merge 102 = .ok (.invokestatic 237, 3) := by decide +kernel
theorem dX4_merge_105 : decode cX4_merge 105 = .ok (.iadd, 1) := by decide +kernel
theorem dX4_merge_106 : decode cX4_merge 106 = .ok (.aload_n 0, 1) := by decide +kernel
theorem dX4_merge_107 : decode cX4_merge 107 = .ok (.getfield 10, 3) := by decide +kernel
theorem dX4_merge_110 : decode cX4_merge 110 = .ok (.invokevirtual 157, 3) := by decide +kernel
theorem dX4_merge_113 : decode cX4_merge 113 = .ok (.if_icmp .le 5, 3) := by decide +kernel
theorem dX4_merge_116 : decode cX4_merge 116 = .ok (.iconst 2, 1) := by decide +kernel
theorem dX4_merge_117 : decode cX4_merge 117 = .ok (.ireturn, 1) := by decide +kernel
theorem dX4_merge_118 : decode cX4_merge 118 = .ok (.aload_n 0, 1) := by decide +kernel
theorem dX4_merge_119 : decode cX4_merge 119 = .ok (.getfield 21, 3) := by decide +kernel
theorem dX4_merge_122 : decode cX4_merge 122 = .ok (.invokevirtual 209, 3) := by decide +kernel
theorem dX4_merge_125 : decode cX4_merge 125 = .ok (.aload_n 0, 1) := by decide +kernel
theorem dX4_merge_126 : decode cX4_merge 126 = .ok (.getfield 28, 3) := by decide +kernel
theorem dX4_merge_129 : decode cX4_merge 129 = .ok (.iload 4, 2) := by decide +kernel
theorem dX4_merge_131 : decode cX4_merge 131 = .ok (.iconst 1, 1) := by decide +kernel
theorem dX4_merge_132 : decode cX4_merge 132 = .ok (.isub, 1) := by decide +kernel
theorem dX4_merge_133 : decode cX4_merge 133 = .ok (.invokevirtual 196, 3) := by decide +kernel
theorem dX4_merge_136 : decode cX4_merge 136 = .ok (.aload_n 0, 1) := by decide +kernel
theorem dX4_merge_137 : decode cX4_merge 137 = .ok (.iload 8, 2) := by decide +kernel
theorem dX4_merge_139 : decode cX4_merge 139 = .ok (.iconst (-1), 1) := by decide +kernel
theorem dX4_merge_140 : decode cX4_merge 140 = .ok (.invokevirtual 199, 3) := by decide +kernel
theorem dX4_merge_143 : decode cX4_merge 143 = .ok (.aload_n 0, 1) := by decide +kernel
theorem dX4_merge_144 : decode cX4_merge 144 = .ok (.iload 9, 2) := by decide +kernel
theorem dX4_merge_146 : decode cX4_merge 146 = .ok (.iconst (-1), 1) := by decide +kernel
theorem dX4_merge_147 : decode cX4_merge 147 = .ok (.invokevirtual 199, 3) := by decide +kernel
theorem dX4_merge_150 : decode cX4_merge 150 = .ok (.aload_n 0, 1) := by decide +kernel
theorem dX4_merge_151 : decode cX4_merge 151 = .ok (.getfield 21, 3) := by decide +kernel
theorem dX4_merge_154 : decode cX4_merge 154 = .ok (.aload_n 0, 1) := by decide +kernel
theorem dX4_merge_155 : decode cX4_merge 155 = .ok (.getfield 28, 3) := by decide +kernel
theorem dX4_merge_158 : decode cX4_merge 158 = .ok (.iload 8, 2) := by decide +kernel
theorem dX4_merge_160 : decode cX4_merge 160 = .ok (.invokevirtual 227, 3) := by decide +kernel
theorem dX4_merge_163 : decode cX4_merge 163 = .ok (.ifCond .ne 5, 3) := by decide +kernel
theorem dX4_merge_166 : decode cX4_merge 166 = .ok (.iconst 4, 1) := by decide +kernel
theorem dX4_merge_167 : decode cX4_merge 167 = .ok (.ireturn, 1) := by decide +kernel
theorem dX4_merge_168 : decode cX4_merge 168 = .ok (.aload_n 0, 1) := by decide +kernel
theorem dX4_merge_169 : decode cX4_merge 169 = .ok (.iload 10, 2) := by decide +kernel
theorem dX4_merge_171 : decode cX4_merge 171 = .ok (.iload 10, 2) := by decide +kernel
theorem dX4_merge_173 : decode cX4_merge 173 = .ok (.iload 5, 2) := by decide +kernel
theorem dX4_merge_175 : decode cX4_merge 175 = .ok (.iadd, 1) := by decide +kernel
theorem dX4_merge_176 : decode cX4_merge 176 = .ok (.iload 8, 2) := by decide +kernel
theorem dX4_merge_178 : decode cX4_merge 178 = .ok (.invokevirtual 244, 3) := by decide +kernel
theorem dX4_merge_181 : decode cX4_merge 181 = .ok (.ifCond .eq 17, 3) := by decide +kernel
theorem dX4_merge_184 : decode cX4_merge 184 = .ok (.aload_n 0, 1) := by decide +kernel
theorem dX4_merge_185 : decode cX4_merge 185 = .ok (.getfield 21, 3) := by decide +kernel
theorem dX4_merge_188 : decode cX4_merge 188 = .ok (.invokevirtual 231, 3) := by decide +kernel
theorem dX4_merge_191 : decode cX4_merge 191 = .ok (.ifCond .eq 7, 3) := by decide +kernel
theorem dX4_merge_194 : decode cX4_merge 194 = .ok (.iconst 0, 1) := by decide +kernel
theorem dX4_merge_195 : decode cX4_merge 195 = .ok (.goto 4, 3) := by decide +kernel
theorem dX4_merge_198 : decode cX4_merge 198 = .ok (.iconst 4, 1) := by decide +kernel
theorem dX4_merge_199 : decode cX4_merge 199 = .ok (.ireturn, 1) := by decide +kernel
theorem dX4_halveAll_0 : decode cX4_halveAll 0 = .ok (.iconst 0, 1) := by decide +kernel
theorem dX4_halveAll_1 : decode cX4_halveAll 1 = .ok (.istore_n 1, 1) := by decide +kernel
theorem dX4_halveAll_2 : decode cX4_halveAll 2 = .ok (.iload_n 1, 1) := by decide +kernel
theorem dX4_halveAll_3 : decode cX4_halveAll 3 = .ok (.bipush 64, 2) := by decide +kernel
theorem dX4_halveAll_5 : decode cX4_halveAll 5 = .ok (.if_icmp .ge 57, 3) := by decide +kernel
theorem dX4_halveAll_8 : decode cX4_halveAll 8 = .ok (.aload_n 0, 1) := by decide +kernel
theorem dX4_halveAll_9 : decode cX4_halveAll 9 = .ok (.getfield 10, 3) := by decide +kernel
theorem dX4_halveAll_12 : decode cX4_halveAll 12 = .ok (.invokevirtual 160, 3) := by decide +kernel
theorem dX4_halveAll_15 : decode cX4_halveAll 15 = .ok (.istore_n 2, 1) := by decide +kernel
theorem dX4_halveAll_16 : decode cX4_halveAll 16 = .ok (.iload_n 2, 1) := by decide +kernel
theorem dX4_halveAll_17 : decode cX4_halveAll 17 = .ok (.ifCond .le 14, 3) := by decide +kernel
theorem dX4_halveAll_20 : decode cX4_halveAll 20 = .ok (.aload_n 0, 1) := by decide +kernel
theorem dX4_halveAll_21 : decode cX4_halveAll 21 = .ok (.getfield 10, 3) := by decide +kernel
theorem dX4_halveAll_24 : decode cX4_halveAll 24 = .ok (.iload_n 2, 1) := by decide +kernel
theorem dX4_halveAll_25 : decode cX4_halveAll 25 = .ok (.invokevirtual 260, 3) := by decide +kernel
theorem dX4_halveAll_28 : decode cX4_halveAll 28 = .ok (.ifCond .eq 5, 3) := by decide +kernel
theorem dX4_halveAll_31 : decode cX4_halveAll 31 = .ok (.iconst 0, 1) := by decide +kernel
theorem dX4_halveAll_32 : decode cX4_halveAll 32 = .ok (.ireturn, 1) := by decide +kernel
theorem dX4_halveAll_33 : decode cX4_halveAll 33 = .ok (.aload_n 0, 1) := by decide +kernel
theorem dX4_halveAll_34 : decode cX4_halveAll 34 = .ok (.iload_n 2, 1) := by decide +kernel
theorem dX4_halveAll_35 : decode cX4_halveAll 35 = .ok (.iconst 1, 1) := by decide +kernel
theorem dX4_halveAll_36 : decode cX4_halveAll 36 = .ok (.isub, 1) := by decide +kernel
theorem dX4_halveAll_37 : decode cX4_halveAll 37 = .ok (.invokevirtual 183, 3) := by decide +kernel
theorem dX4_halveAll_40 : decode cX4_halveAll 40 = .ok (.istore_n 3, 1) := by decide +kernel
theorem dX4_halveAll_41 : decode cX4_halveAll 41 = .ok (.iload_n 3, 1) := by decide +kernel
theorem dX4_halveAll_42 : decode cX4_halveAll 42 = .ok (.ifCond .eq 14, 3) := by decide +kernel
theorem dX4_halveAll_45 : decode cX4_halveAll 45 = .ok (.iload_n 3, 1) := by decide +kernel
theorem dX4_halveAll_46 : decode cX4_halveAll 46 = .ok (.iconst 4, 1) := by decide +kernel
theorem dX4_halveAll_47 : decode cX4_halveAll 47 = .ok (.if_icmp .ne 7, 3) := by decide +kernel
theorem dX4_halveAll_50 : decode cX4_halveAll 50 = .ok (.iconst 4, 1) := by decide +kernel
theorem dX4_halveAll_51 : decode cX4_halveAll 51 = .ok (.goto 4, 3) := by decide +kernel
theorem dX4_halveAll_54 : decode cX4_halveAll 54 = .ok (.iconst 0, 1) := by decide +kernel
theorem dX4_halveAll_55 : decode cX4_halveAll 55 = .ok (.ireturn, 1) := by decide +kernel
theorem dX4_halveAll_56 : decode cX4_halveAll 56 = .ok (.iinc 1 1, 3) := by decide +kernel
theorem dX4_halveAll_59 : decode cX4_halveAll 59 = .ok (.goto (-57), 3) := by decide +kernel
theorem dX4_halveAll_62 : decode cX4_halveAll 62 = .ok (.iconst 0, 1) := by decide +kernel
theorem dX4_halveAll_63 : decode cX4_halveAll 63 = .ok (.ireturn, 1) := by decide +kernel
theorem dX4_pagesFor_0 : decode cX4_pagesFor 0 = .ok (.iload_n 0, 1) := by decide +kernel
theorem dX4_pagesFor_1 : decode cX4_pagesFor 1 = .ok (.bipush 8, 2) := by decide +kernel
theorem dX4_pagesFor_3 : decode cX4_pagesFor 3 = .ok (.if_icmp .gt 7, 3) := by decide +kernel
theorem dX4_pagesFor_6 : decode cX4_pagesFor 6 = .ok (.iconst 1, 1) := by decide +kernel
theorem dX4_pagesFor_7 : decode cX4_pagesFor 7 = .ok (.goto 9, 3) := by decide +kernel
theorem dX4_pagesFor_10 : decode cX4_pagesFor 10 = .ok (.iconst 1, 1) := by decide +kernel
theorem dX4_pagesFor_11 : decode cX4_pagesFor 11 = .ok (.iload_n 0, 1) := by decide +kernel
theorem dX4_pagesFor_12 : decode cX4_pagesFor 12 = .ok (.bipush 8, 2) := by decide +kernel
theorem dX4_pagesFor_14 : decode cX4_pagesFor 14 = .ok (.isub, 1) := by decide +kernel
theorem dX4_pagesFor_15 : decode cX4_pagesFor 15 = .ok (.ishl, 1) := by decide +kernel
theorem dX4_pagesFor_16 : decode cX4_pagesFor 16 = .ok (.ireturn, 1) := by decide +kernel
theorem dX4_hashOf_0 : decode cX4_hashOf 0 = .ok (.ldc_w 264, 3) := by decide +kernel
theorem dX4_hashOf_3 : decode cX4_hashOf 3 = .ok (.istore_n 3, 1) := by decide +kernel
theorem dX4_hashOf_4 : decode cX4_hashOf 4 = .ok (.iload_n 1, 1) := by decide +kernel
theorem dX4_hashOf_5 : decode cX4_hashOf 5 = .ok (.istore 4, 2) := by decide +kernel
theorem dX4_hashOf_7 : decode cX4_hashOf 7 = .ok (.iload 4, 2) := by decide +kernel
theorem dX4_hashOf_9 : decode cX4_hashOf 9 = .ok (.iload_n 1, 1) := by decide +kernel
theorem dX4_hashOf_10 : decode cX4_hashOf 10 = .ok (.iload_n 2, 1) := by decide +kernel
theorem dX4_hashOf_11 : decode cX4_hashOf 11 = .ok (.iadd, 1) := by decide +kernel
theorem dX4_hashOf_12 : decode cX4_hashOf 12 = .ok (.if_icmp .ge 43, 3) := by decide +kernel
theorem dX4_hashOf_15 : decode cX4_hashOf 15 = .ok (.iload 4, 2) := by decide +kernel
theorem dX4_hashOf_17 : decode cX4_hashOf 17 = .ok (.ifCond .lt 32, 3) := by decide +kernel
theorem dX4_hashOf_20 : decode cX4_hashOf 20 = .ok (.iload 4, 2) := by decide +kernel
theorem dX4_hashOf_22 : decode cX4_hashOf 22 = .ok (.aload_n 0, 1) := by decide +kernel
theorem dX4_hashOf_23 : decode cX4_hashOf 23 = .ok (.arraylength, 1) := by decide +kernel
theorem dX4_hashOf_24 : decode cX4_hashOf 24 = .ok (.if_icmp .ge 25, 3) := by decide +kernel
theorem dX4_hashOf_27 : decode cX4_hashOf 27 = .ok (.iload_n 3, 1) := by decide +kernel
theorem dX4_hashOf_28 : decode cX4_hashOf 28 = .ok (.aload_n 0, 1) := by decide +kernel
theorem dX4_hashOf_29 : decode cX4_hashOf 29 = .ok (.iload 4, 2) := by decide +kernel
theorem dX4_hashOf_31 : decode cX4_hashOf 31 = .ok (.iaload, 1) := by decide +kernel
theorem dX4_hashOf_32 : decode cX4_hashOf 32 = .ok (.ixor, 1) := by decide +kernel
theorem dX4_hashOf_33 : decode cX4_hashOf 33 = .ok (.ldc_w 264, 3) := by decide +kernel
theorem dX4_hashOf_36 : decode cX4_hashOf 36 = .ok (.imul, 1) := by decide +kernel
theorem dX4_hashOf_37 : decode cX4_hashOf 37 = .ok (.ldc_w 265, 3) := by decide +kernel
theorem dX4_hashOf_40 : decode cX4_hashOf 40 = .ok (.iand, 1) := by decide +kernel
theorem dX4_hashOf_41 : decode cX4_hashOf 41 = .ok (.istore_n 3, 1) := by decide +kernel
theorem dX4_hashOf_42 : decode cX4_hashOf 42 = .ok (.iload_n 3, 1) := by decide +kernel
theorem dX4_hashOf_43 : decode cX4_hashOf 43 = .ok (.iload_n 3, 1) := by decide +kernel
theorem dX4_hashOf_44 : decode cX4_hashOf 44 = .ok (.bipush 32, 2) := by decide +kernel
theorem dX4_hashOf_46 : decode cX4_hashOf 46 = .ok (.idiv, 1) := by decide +kernel
theorem dX4_hashOf_47 : decode cX4_hashOf 47 = .ok (.ixor, 1) := by decide +kernel
theorem dX4_hashOf_48 : decode cX4_hashOf 48 = .ok (.istore_n 3, 1) := by decide +kernel
theorem dX4_hashOf_49 : decode cX4_hashOf 49 = .ok (.iinc 4 1, 3) := by decide +kernel
theorem dX4_hashOf_52 : decode cX4_hashOf 52 = .ok (.goto (-45), 3) := by decide +kernel
theorem dX4_hashOf_55 : decode cX4_hashOf 55 = .ok (.iload_n 3, 1) := by decide +kernel
theorem dX4_hashOf_56 : decode cX4_hashOf 56 = .ok (.ireturn, 1) := by decide +kernel
theorem dJ7_fill_53178_0 : decode cJ7_fill_53178 0 = .ok (.iconst 0, 1) := by decide +kernel
theorem dJ7_fill_53178_1 : decode cJ7_fill_53178 1 = .ok (.istore_n 2, 1) := by decide +kernel
theorem dJ7_fill_53178_2 : decode cJ7_fill_53178 2 = .ok (.aload_n 0, 1) := by decide +kernel
theorem dJ7_fill_53178_3 : decode cJ7_fill_53178 3 = .ok (.arraylength, 1) := by decide +kernel
theorem dJ7_fill_53178_4 : decode cJ7_fill_53178 4 = .ok (.istore_n 3, 1) := by decide +kernel
theorem dJ7_fill_53178_5 : decode cJ7_fill_53178 5 = .ok (.iload_n 2, 1) := by decide +kernel
theorem dJ7_fill_53178_6 : decode cJ7_fill_53178 6 = .ok (.iload_n 3, 1) := by decide +kernel
theorem dJ7_fill_53178_7 : decode cJ7_fill_53178 7 = .ok (.if_icmp .ge 13, 3) := by decide +kernel
theorem dJ7_fill_53178_10 : decode cJ7_fill_53178 10 = .ok (.aload_n 0, 1) := by decide +kernel
theorem dJ7_fill_53178_11 : decode cJ7_fill_53178 11 = .ok (.iload_n 2, 1) := by decide +kernel
theorem dJ7_fill_53178_12 : decode cJ7_fill_53178 12 = .ok (.iload_n 1, 1) := by decide +kernel
theorem dJ7_fill_53178_13 : decode cJ7_fill_53178 13 = .ok (.iastore, 1) := by decide +kernel
theorem dJ7_fill_53178_14 : decode cJ7_fill_53178 14 = .ok (.iinc 2 1, 3) := by decide +kernel
theorem dJ7_fill_53178_17 : decode cJ7_fill_53178 17 = .ok (.goto (-12), 3) := by decide +kernel
theorem dJ7_fill_53178_20 : decode cJ7_fill_53178 20 = .ok (.return_, 1) := by decide +kernel
