theorem dX5_thrown_0 : decode cX5_thrown 0 = .ok (.aload_n 0, 1) := by decide +kernel
theorem dX5_thrown_1 : decode cX5_thrown 1 = .ok (.getfield 1, 3) := by decide +kernel
theorem dX5_thrown_4 : decode cX5_thrown 4 = .ok (.ireturn, 1) := by decide +kernel
theorem dX5_throwing_0 : decode cX5_throwing 0 = .ok (.aload_n 0, 1) := by decide +kernel
theorem dX5_throwing_1 : decode cX5_throwing 1 = .ok (.iload_n 1, 1) := by decide +kernel
theorem dX5_throwing_2 : decode cX5_throwing 2 = .ok (.putfield 1, 3) := by decide +kernel
theorem dX5_throwing_5 : decode cX5_throwing 5 = .ok (.iconst 0, 1) := by decide +kernel
theorem dX5_throwing_6 : decode cX5_throwing 6 = .ok (.ireturn, 1) := by decide +kernel
theorem dX5_init_0 : decode cX5_init 0 = .ok (.aload_n 0, 1) := by decide +kernel
theorem dX5_init_1 : decode cX5_init 1 = .ok (.invokespecial 7, 3) := by decide +kernel
theorem dX5_init_4 : decode cX5_init 4 = .ok (.aload_n 0, 1) := by decide +kernel
theorem dX5_init_5 : decode cX5_init 5 = .ok (.ldc 13, 2) := by decide +kernel
theorem dX5_init_7 : decode cX5_init 7 = .ok (.newarray .byte, 2) := by decide +kernel
theorem dX5_init_9 : decode cX5_init 9 = .ok (.putfield 14, 3) := by decide +kernel
theorem dX5_init_12 : decode cX5_init 12 = .ok (.aload_n 0, 1) := by decide +kernel
theorem dX5_init_13 : decode cX5_init 13 = .ok (.sipush 256, 3) := by decide +kernel
theorem dX5_init_16 : decode cX5_init 16 = .ok (.newarray .int, 2) := by decide +kernel
theorem dX5_init_18 : decode cX5_init 18 = .ok (.putfield 18, 3) := by decide +kernel
theorem dX5_init_21 : decode cX5_init 21 = .ok (.aload_n 0, 1) := by decide +kernel
theorem dX5_init_22 : decode cX5_init 22 = .ok (.ldc 13, 2) := by decide +kernel
theorem dX5_init_24 : decode cX5_init 24 = .ok (.newarray .int, 2) := by decide +kernel
theorem dX5_init_26 : decode cX5_init 26 = .ok (.putfield 22, 3) := by decide +kernel
theorem dX5_init_29 : decode cX5_init 29 = .ok (.aload_n 0, 1) := by decide +kernel
theorem dX5_init_30 : decode cX5_init 30 = .ok (.ldc 13, 2) := by decide +kernel
theorem dX5_init_32 : decode cX5_init 32 = .ok (.newarray .int, 2) := by decide +kernel
theorem dX5_init_34 : decode cX5_init 34 = .ok (.putfield 25, 3) := by decide +kernel
theorem dX5_init_37 : decode cX5_init 37 = .ok (.aload_n 0, 1) := by decide +kernel
theorem dX5_init_38 : decode cX5_init 38 = .ok (.sipush 256, 3) := by decide +kernel
theorem dX5_init_41 : decode cX5_init 41 = .ok (.newarray .boolean, 2) := by decide +kernel
theorem dX5_init_43 : decode cX5_init 43 = .ok (.putfield 28, 3) := by decide +kernel
theorem dX5_init_46 : decode cX5_init 46 = .ok (.aload_n 0, 1) := by decide +kernel
theorem dX5_init_47 : decode cX5_init 47 = .ok (.sipush 256, 3) := by decide +kernel
theorem dX5_init_50 : decode cX5_init 50 = .ok (.newarray .int, 2) := by decide +kernel
theorem dX5_init_52 : decode cX5_init 52 = .ok (.putfield 32, 3) := by decide +kernel
theorem dX5_init_55 : decode cX5_init 55 = .ok (.aload_n 0, 1) := by decide +kernel
theorem dX5_init_56 : decode cX5_init 56 = .ok (.sipush 256, 3) := by decide +kernel
theorem dX5_init_59 : decode cX5_init 59 = .ok (.newarray .int, 2) := by decide +kernel
theorem dX5_init_61 : decode cX5_init 61 = .ok (.putfield 35, 3) := by decide +kernel
theorem dX5_init_64 : decode cX5_init 64 = .ok (.aload_n 0, 1) := by decide +kernel
theorem dX5_init_65 : decode cX5_init 65 = .ok (.sipush 23040, 3) := by decide +kernel
theorem dX5_init_68 : decode cX5_init 68 = .ok (.newarray .int, 2) := by decide +kernel
theorem dX5_init_70 : decode cX5_init 70 = .ok (.putfield 38, 3) := by decide +kernel
theorem dX5_init_73 : decode cX5_init 73 = .ok (.aload_n 0, 1) := by decide +kernel
theorem dX5_init_74 : decode cX5_init 74 = .ok (.sipush 23040, 3) := by decide +kernel
theorem dX5_init_77 : decode cX5_init 77 = .ok (.newarray .int, 2) := by decide +kernel
theorem dX5_init_79 : decode cX5_init 79 = .ok (.putfield 41, 3) := by decide +kernel
theorem dX5_init_82 : decode cX5_init 82 = .ok (.aload_n 0, 1) := by decide +kernel
theorem dX5_init_83 : decode cX5_init 83 = .ok (.ldc 44, 2) := by decide +kernel
theorem dX5_init_85 : decode cX5_init 85 = .ok (.newarray .long, 2) := by decide +kernel
theorem dX5_init_87 : decode cX5_init 87 = .ok (.putfield 45, 3) := by decide +kernel
theorem dX5_init_90 : decode cX5_init 90 = .ok (.aload_n 0, 1) := by decide +kernel
theorem dX5_init_91 : decode cX5_init 91 = .ok (.ldc 49, 2) := by decide +kernel
theorem dX5_init_93 : decode cX5_init 93 = .ok (.newarray .long, 2) := by decide +kernel
theorem dX5_init_95 : decode cX5_init 95 = .ok (.putfield 50, 3) := by decide +kernel
theorem dX5_init_98 : decode cX5_init 98 = .ok (.aload_n 0, 1) := by decide +kernel
theorem dX5_init_99 : decode cX5_init 99 = .ok (.bipush 48, 2) := by decide +kernel
theorem dX5_init_101 : decode cX5_init 101 = .ok (.newarray .byte, 2) := by decide +kernel
theorem dX5_init_103 : decode cX5_init 103 = .ok (.putfield 53, 3) := by decide +kernel
theorem dX5_init_106 : decode cX5_init 106 = .ok (.aload_n 0, 1) := by decide +kernel
theorem dX5_init_107 : decode cX5_init 107 = .ok (.bipush 32, 2) := by decide +kernel
theorem dX5_init_109 : decode cX5_init 109 = .ok (.newarray .byte, 2) := by decide +kernel
theorem dX5_init_111 : decode cX5_init 111 = .ok (.putfield 56, 3) := by decide +kernel
theorem dX5_init_114 : decode cX5_init 114 = .ok (.aload_n 0, 1) := by decide +kernel
theorem dX5_init_115 : decode cX5_init 115 = .ok (.sipush 256, 3) := by decide +kernel
theorem dX5_init_118 : decode cX5_init 118 = .ok (.newarray .int, 2) := by decide +kernel
theorem dX5_init_120 : decode cX5_init 120 = .ok (.putfield 59, 3) := by decide +kernel
theorem dX5_init_123 : decode cX5_init 123 = .ok (.aload_n 0, 1) := by decide +kernel
theorem dX5_init_124 : decode cX5_init 124 = .ok (.sipush 256, 3) := by decide +kernel
theorem dX5_init_127 : decode cX5_init 127 = .ok (.newarray .int, 2) := by decide +kernel
theorem dX5_init_129 : decode cX5_init 129 = .ok (.putfield 62, 3) := by decide +kernel
theorem dX5_init_132 : decode cX5_init 132 = .ok (.aload_n 0, 1) := by decide +kernel
theorem dX5_init_133 : decode cX5_init 133 = .ok (.bipush 64, 2) := by decide +kernel
theorem dX5_init_135 : decode cX5_init 135 = .ok (.bipush 8, 2) := by decide +kernel
theorem dX5_init_137 : decode cX5_init 137 = .ok (.invokevirtual 65, 3) := by decide +kernel
theorem dX5_init_140 : decode cX5_init 140 = .ok (.return_, 1) := by decide +kernel
theorem dX5_anew_0 : decode cX5_anew 0 = .ok (.aload_n 0, 1) := by decide +kernel
theorem dX5_anew_1 : decode cX5_anew 1 = .ok (.iload_n 1, 1) := by decide +kernel
theorem dX5_anew_2 : decode cX5_anew 2 = .ok (.putfield 69, 3) := by decide +kernel
theorem dX5_anew_5 : decode cX5_anew 5 = .ok (.aload_n 0, 1) := by decide +kernel
theorem dX5_anew_6 : decode cX5_anew 6 = .ok (.iload_n 2, 1) := by decide +kernel
theorem dX5_anew_7 : decode cX5_anew 7 = .ok (.putfield 72, 3) := by decide +kernel
theorem dX5_anew_10 : decode cX5_anew 10 = .ok (.aload_n 0, 1) := by decide +kernel
theorem dX5_anew_11 : decode cX5_anew 11 = .ok (.iconst 0, 1) := by decide +kernel
theorem dX5_anew_12 : decode cX5_anew 12 = .ok (.putfield 75, 3) := by decide +kernel
theorem dX5_anew_15 : decode cX5_anew 15 = .ok (.aload_n 0, 1) := by decide +kernel
theorem dX5_anew_16 : decode cX5_anew 16 = .ok (.iconst (-1), 1) := by decide +kernel
theorem dX5_anew_17 : decode cX5_anew 17 = .ok (.putfield 78, 3) := by decide +kernel
theorem dX5_anew_20 : decode cX5_anew 20 = .ok (.aload_n 0, 1) := by decide +kernel
theorem dX5_anew_21 : decode cX5_anew 21 = .ok (.iconst 0, 1) := by decide +kernel
theorem dX5_anew_22 : decode cX5_anew 22 = .ok (.putfield 81, 3) := by decide +kernel
theorem dX5_anew_25 : decode cX5_anew 25 = .ok (.aload_n 0, 1) := by decide +kernel
theorem dX5_anew_26 : decode cX5_anew 26 = .ok (.iconst 0, 1) := by decide +kernel
theorem dX5_anew_27 : decode cX5_anew 27 = .ok (.putfield 85, 3) := by decide +kernel
theorem dX5_anew_30 : decode cX5_anew 30 = .ok (.iconst 0, 1) := by decide +kernel
theorem dX5_anew_31 : decode cX5_anew 31 = .ok (.istore_n 3, 1) := by decide +kernel
theorem dX5_anew_32 : decode cX5_anew 32 = .ok (.iload_n 3, 1) := by decide +kernel
theorem dX5_anew_33 : decode cX5_anew 33 = .ok (.aload_n 0, 1) := by decide +kernel
theorem dX5_anew_34 : decode cX5_anew 34 = .ok (.getfield 14, 3) := by decide +kernel
theorem dX5_anew_37 : decode cX5_anew 37 = .ok (.arraylength, 1) := by decide +kernel
theorem dX5_anew_38 : decode cX5_anew 38 = .ok (.if_icmp .ge 16, 3) := by decide +kernel
theorem dX5_anew_41 : decode cX5_anew 41 = .ok (.aload_n 0, 1) := by decide +kernel
theorem dX5_anew_42 : decode cX5_anew 42 = .ok (.getfield 14, 3) := by decide +kernel
theorem dX5_anew_45 : decode cX5_anew 45 = .ok (.iload_n 3, 1) := by decide +kernel
theorem dX5_anew_46 : decode cX5_anew 46 = .ok (.iconst 0, 1) := by decide +kernel
theorem dX5_anew_47 : decode cX5_anew 47 = .ok (.bastore, 1) := by decide +kernel
theorem dX5_anew_48 : decode cX5_anew 48 = .ok (.iinc 3 1, 3) := by decide +kernel
theorem dX5_anew_51 : decode cX5_anew 51 = .ok (.goto (-19), 3) := by decide +kernel
theorem dX5_anew_54 : decode cX5_anew 54 = .ok (.aload_n 0, 1) := by decide +kernel
theorem dX5_anew_55 : decode cX5_anew 55 = .ok (.getfield 14, 3) := by decide +kernel
theorem dX5_anew_58 : decode cX5_anew 58 = .ok (.iconst 1, 1) := by decide +kernel
theorem dX5_anew_59 : decode cX5_anew 59 = .ok (.iload_n 2, 1) := by decide +kernel
theorem dX5_anew_60 : decode cX5_anew 60 = .ok (.iconst 2, 1) := by decide +kernel
theorem dX5_anew_61 : decode cX5_anew 61 = .ok (.iadd, 1) := by decide +kernel
theorem dX5_anew_62 : decode cX5_anew 62 = .ok (.i2b, 1) := by decide +kernel
theorem dX5_anew_63 : decode cX5_anew 63 = .ok (.bastore, 1) := by decide +kernel
theorem dX5_anew_64 : decode cX5_anew 64 = .ok (.aload_n 0, 1) := by decide +kernel
theorem dX5_anew_65 : decode cX5_anew 65 = .ok (.getfield 14, 3) := by decide +kernel
theorem dX5_anew_68 : decode cX5_anew 68 = .ok (.sipush 256, 3) := by decide +kernel
theorem dX5_anew_71 : decode cX5_anew 71 = .ok (.iload_n 2, 1) := by decide +kernel
theorem dX5_anew_72 : decode cX5_anew 72 = .ok (.iconst 2, 1) := by decide +kernel
theorem dX5_anew_73 : decode cX5_anew 73 = .ok (.iadd, 1) := by decide +kernel
theorem dX5_anew_74 : decode cX5_anew 74 = .ok (.imul, 1) := by decide +kernel
theorem dX5_anew_75 : decode cX5_anew 75 = .ok (.iload_n 2, 1) := by decide +kernel
theorem dX5_anew_76 : decode cX5_anew 76 = .ok (.iconst 3, 1) := by decide +kernel
theorem dX5_anew_77 : decode cX5_anew 77 = .ok (.iadd, 1) := by decide +kernel
theorem dX5_anew_78 : decode cX5_anew 78 = .ok (.i2b, 1) := by decide +kernel
theorem dX5_anew_79 : decode cX5_anew 79 = .ok (.bastore, 1) := by decide +kernel
theorem dX5_anew_80 : decode cX5_anew 80 = .ok (.aload_n 0, 1) := by decide +kernel
theorem dX5_anew_81 : decode cX5_anew 81 = .ok (.invokevirtual 88, 3) := by decide +kernel
theorem dX5_anew_84 : decode cX5_anew 84 = .ok (.return_, 1) := by decide +kernel
theorem dX5_format_0 : decode cX5_format 0 = .ok (.aload_n 0, 1) := by decide +kernel
theorem dX5_format_1 : decode cX5_format 1 = .ok (.iconst 0, 1) := by decide +kernel
theorem dX5_format_2 : decode cX5_format 2 = .ok (.putfield 1, 3) := by decide +kernel
theorem dX5_format_5 : decode cX5_format 5 = .ok (.iload_n 1, 1) := by decide +kernel
theorem dX5_format_6 : decode cX5_format 6 = .ok (.bipush 8, 2) := by decide +kernel
theorem dX5_format_8 : decode cX5_format 8 = .ok (.if_icmp .lt 28, 3) := by decide +kernel
theorem dX5_format_11 : decode cX5_format 11 = .ok (.iload_n 1, 1) := by decide +kernel
theorem dX5_format_12 : decode cX5_format 12 = .ok (.sipush 255, 3) := by decide +kernel
theorem dX5_format_15 : decode cX5_format 15 = .ok (.if_icmp .gt 21, 3) := by decide +kernel
theorem dX5_format_18 : decode cX5_format 18 = .ok (.iload_n 2, 1) := by decide +kernel
theorem dX5_format_19 : decode cX5_format 19 = .ok (.iconst 2, 1) := by decide +kernel
theorem dX5_format_20 : decode cX5_format 20 = .ok (.if_icmp .lt 16, 3) := by decide +kernel
theorem dX5_format_23 : decode cX5_format 23 = .ok (.iload_n 2, 1) := by decide +kernel
theorem dX5_format_24 : decode cX5_format 24 = .ok (.bipush 100, 2) := by decide +kernel
theorem dX5_format_26 : decode cX5_format 26 = .ok (.if_icmp .gt 10, 3) := by decide +kernel
theorem dX5_format_29 : decode cX5_format 29 = .ok (.iload_n 1, 1) := by decide +kernel
theorem dX5_format_30 : decode cX5_format 30 = .ok (.iload_n 2, 1) := by decide +kernel
theorem dX5_format_31 : decode cX5_format 31 = .ok (.iconst 4, 1) := by decide +kernel
theorem dX5_format_32 : decode cX5_format 32 = .ok (.iadd, 1) := by decide +kernel
theorem dX5_format_33 : decode cX5_format 33 = .ok (.if_icmp .ge 9, 3) := by decide +kernel
theorem dX5_format_36 : decode cX5_format 36 = .ok (.aload_n 0, 1) := by decide +kernel
theorem dX5_format_37 : decode cX5_format 37 = .ok (.iconst 1, 1) := by decide +kernel
theorem dX5_format_38 : decode cX5_format 38 = .ok (.putfield 1, 3) := by decide +kernel
theorem dX5_format_41 : decode cX5_format 41 = .ok (.return_, 1) := by decide +kernel
theorem dX5_format_42 : decode cX5_format 42 = .ok (.aload_n 0, 1) := by decide +kernel
theorem dX5_format_43 : decode cX5_format 43 = .ok (.iload_n 1, 1) := by decide +kernel
theorem dX5_format_44 : decode cX5_format 44 = .ok (.iload_n 2, 1) := by decide +kernel
theorem dX5_format_45 : decode cX5_format 45 = .ok (.invokevirtual 65, 3) := by decide +kernel
theorem dX5_format_48 : decode cX5_format 48 = .ok (.return_, 1) := by decide +kernel
theorem dX5_at_0 : decode cX5_at 0 = .ok (.aload_n 0, 1) := by decide +kernel
theorem dX5_at_1 : decode cX5_at 1 = .ok (.getfield 14, 3) := by decide +kernel
theorem dX5_at_4 : decode cX5_at 4 = .ok (.sipush 256, 3) := by decide +kernel
theorem dX5_at_7 : decode cX5_at 7 = .ok (.iload_n 1, 1) := by decide +kernel
theorem dX5_at_8 : decode cX5_at 8 = .ok (.imul, 1) := by decide +kernel
theorem dX5_at_9 : decode cX5_at 9 = .ok (.iload_n 2, 1) := by decide +kernel
theorem dX5_at_10 : decode cX5_at 10 = .ok (.iadd, 1) := by decide +kernel
theorem dX5_at_11 : decode cX5_at 11 = .ok (.baload, 1) := by decide +kernel
theorem dX5_at_12 : decode cX5_at 12 = .ok (.sipush 255, 3) := by decide +kernel
theorem dX5_at_15 : decode cX5_at 15 = .ok (.iand, 1) := by decide +kernel
theorem dX5_at_16 : decode cX5_at 16 = .ok (.ireturn, 1) := by decide +kernel
theorem dX5_decode_0 : decode cX5_decode 0 = .ok (.aload_n 0, 1) := by decide +kernel
theorem dX5_decode_1 : decode cX5_decode 1 = .ok (.aload_n 0, 1) := by decide +kernel
theorem dX5_decode_2 : decode cX5_decode 2 = .ok (.iconst 0, 1) := by decide +kernel
theorem dX5_decode_3 : decode cX5_decode 3 = .ok (.iconst 0, 1) := by decide +kernel
theorem dX5_decode_4 : decode cX5_decode 4 = .ok (.invokevirtual 91, 3) := by decide +kernel
theorem dX5_decode_7 : decode cX5_decode 7 = .ok (.putfield 95, 3) := by decide +kernel
theorem dX5_decode_10 : decode cX5_decode 10 = .ok (.iconst 1, 1) := by decide +kernel
theorem dX5_decode_11 : decode cX5_decode 11 = .ok (.aload_n 0, 1) := by decide +kernel
theorem dX5_decode_12 : decode cX5_decode 12 = .ok (.getfield 95, 3) := by decide +kernel
theorem dX5_decode_15 : decode cX5_decode 15 = .ok (.ishl, 1) := by decide +kernel
theorem dX5_decode_16 : decode cX5_decode 16 = .ok (.istore_n 1, 1) := by decide +kernel
theorem dX5_decode_17 : decode cX5_decode 17 = .ok (.aload_n 0, 1) := by decide +kernel
theorem dX5_decode_18 : decode cX5_decode 18 = .ok (.iload_n 1, 1) := by decide +kernel
theorem dX5_decode_19 : decode cX5_decode 19 = .ok (.sipush 255, 3) := by decide +kernel
theorem dX5_decode_22 : decode cX5_decode 22 = .ok (.iadd, 1) := by decide +kernel
theorem dX5_decode_23 : decode cX5_decode 23 = .ok (.sipush 256, 3) := by decide +kernel
theorem dX5_decode_26 : decode cX5_decode 26 = .ok (.idiv, 1) := by decide +kernel
theorem dX5_decode_27 : decode cX5_decode 27 = .ok (.putfield 98, 3) := by decide +kernel
theorem dX5_decode_30 : decode cX5_decode 30 = .ok (.iconst 0, 1) := by decide +kernel
theorem dX5_decode_31 : decode cX5_decode 31 = .ok (.istore_n 2, 1) := by decide +kernel
theorem dX5_decode_32 : decode cX5_decode 32 = .ok (.iload_n 2, 1) := by decide +kernel
theorem dX5_decode_33 : decode cX5_decode 33 = .ok (.sipush 256, 3) := by decide +kernel
theorem dX5_decode_36 : decode cX5_decode 36 = .ok (.if_icmp .ge 16, 3) := by decide +kernel
theorem dX5_decode_39 : decode cX5_decode 39 = .ok (.aload_n 0, 1) := by decide +kernel
theorem dX5_decode_40 : decode cX5_decode 40 = .ok (.getfield 28, 3) := by decide +kernel
theorem dX5_decode_43 : decode cX5_decode 43 = .ok (.iload_n 2, 1) := by decide +kernel
theorem dX5_decode_44 : decode cX5_decode 44 = .ok (.iconst 0, 1) := by decide +kernel
theorem dX5_decode_45 : decode cX5_decode 45 = .ok (.bastore, 1) := by decide +kernel
theorem dX5_decode_46 : decode cX5_decode 46 = .ok (.iinc 2 1, 3) := by decide +kernel
theorem dX5_decode_49 : decode cX5_decode 49 = .ok (.goto (-17), 3) := by decide +kernel
theorem dX5_decode_52 : decode cX5_decode 52 = .ok (.iconst 0, 1) := by decide +kernel
theorem dX5_decode_53 : decode cX5_decode 53 = .ok (.istore_n 2, 1) := by decide +kernel
theorem dX5_decode_54 : decode cX5_decode 54 = .ok (.iload_n 2, 1) := by decide +kernel
theorem dX5_decode_55 : decode cX5_decode 55 = .ok (.aload_n 0, 1) := by decide +kernel
theorem dX5_decode_56 : decode cX5_decode 56 = .ok (.getfield 98, 3) := by decide +kernel
theorem dX5_decode_59 : decode cX5_decode 59 = .ok (.if_icmp .ge 23, 3) := by decide +kernel
theorem dX5_decode_62 : decode cX5_decode 62 = .ok (.aload_n 0, 1) := by decide +kernel
theorem dX5_decode_63 : decode cX5_decode 63 = .ok (.getfield 18, 3) := by decide +kernel
theorem dX5_decode_66 : decode cX5_decode 66 = .ok (.iload_n 2, 1) := by decide +kernel
theorem dX5_decode_67 : decode cX5_decode 67 = .ok (.aload_n 0, 1) := by decide +kernel
theorem dX5_decode_68 : decode cX5_decode 68 = .ok (.iconst 0, 1) := by decide +kernel
theorem dX5_decode_69 : decode cX5_decode 69 = .ok (.iconst 1, 1) := by decide +kernel
theorem dX5_decode_70 : decode cX5_decode 70 = .ok (.iload_n 2, 1) := by decide +kernel
theorem dX5_decode_71 : decode cX5_decode 71 = .ok (.iadd, 1) := by decide +kernel
theorem dX5_decode_72 : decode cX5_decode 72 = .ok (.invokevirtual 91, 3) := by decide +kernel
theorem dX5_decode_75 : decode cX5_decode 75 = .ok (.iastore, 1) := by decide +kernel
theorem dX5_decode_76 : decode cX5_decode 76 = .ok (.iinc 2 1, 3) := by decide +kernel
theorem dX5_decode_79 : decode cX5_decode 79 = .ok (.goto (-25), 3) := by decide +kernel
theorem dX5_decode_82 : decode cX5_decode 82 = .ok (.iconst 0, 1) := by decide +kernel
theorem dX5_decode_83 : decode cX5_decode 83 = .ok (.istore_n 2, 1) := by decide +kernel
theorem dX5_decode_84 : decode cX5_decode 84 = .ok (.iload_n 2, 1) := by decide +kernel
theorem dX5_decode_85 : decode cX5_decode 85 = .ok (.iload_n 1, 1) := by decide +kernel
theorem dX5_decode_86 : decode cX5_decode 86 = .ok (.if_icmp .ge 34, 3) := by decide +kernel
theorem dX5_decode_89 : decode cX5_decode 89 = .ok (.aload_n 0, 1) := by decide +kernel
theorem dX5_decode_90 : decode cX5_decode 90 = .ok (.getfield 22, 3) := by decide +kernel
theorem dX5_decode_93 : decode cX5_decode 93 = .ok (.iload_n 2, 1) := by decide +kernel
theorem dX5_decode_94 : decode cX5_decode 94 = .ok (.aload_n 0, 1) := by decide +kernel
theorem dX5_decode_95 : decode cX5_decode 95 = .ok (.aload_n 0, 1) := by decide +kernel
theorem dX5_decode_96 : decode cX5_decode 96 = .ok (.getfield 18, 3) := by decide +kernel
theorem dX5_decode_99 : decode cX5_decode 99 = .ok (.iload_n 2, 1) := by decide +kernel
theorem dX5_decode_100 : decode cX5_decode 100 = .ok (.sipush 256, 3) := by decide +kernel
theorem dX5_decode_103 : decode cX5_decode 103 = .ok (.idiv, 1) := by decide +kernel
theorem dX5_decode_104 : decode cX5_decode 104 = .ok (.iaload, 1) := by decide +kernel
theorem dX5_decode_105 : decode cX5_decode 105 = .ok (.iload_n 2, 1) := by decide +kernel
theorem dX5_decode_106 : decode cX5_decode 106 = .ok (.sipush 256, 3) := by decide +kernel
theorem dX5_decode_109 : decode cX5_decode 109 = .ok (.irem, 1) := by decide +kernel
theorem dX5_decode_110 : decode cX5_decode 110 = .ok (.invokevirtual 91, 3) := by decide +kernel
theorem dX5_decode_113 : decode cX5_decode 113 = .ok (.iastore, 1) := by decide +kernel
theorem dX5_decode_114 : decode cX5_decode 114 = .ok (.iinc 2 1, 3) := by decide +kernel
theorem dX5_decode_117 : decode cX5_decode 117 = .ok (.goto (-33), 3) := by decide +kernel
theorem dX5_decode_120 : decode cX5_decode 120 = .ok (.iconst 0, 1) := by decide +kernel
theorem dX5_decode_121 : decode cX5_decode 121 = .ok (.istore_n 2, 1) := by decide +kernel
theorem dX5_decode_122 : decode cX5_decode 122 = .ok (.iload_n 2, 1) := by decide +kernel
theorem dX5_decode_123 : decode cX5_decode 123 = .ok (.iload_n 1, 1) := by decide +kernel
theorem dX5_decode_124 : decode cX5_decode 124 = .ok (.if_icmp .ge 48, 3) := by decide +kernel
theorem dX5_decode_127 : decode cX5_decode 127 = .ok (.aload_n 0, 1) := by decide +kernel
theorem dX5_decode_128 : decode cX5_decode 128 = .ok (.getfield 22, 3) := by decide +kernel
theorem dX5_decode_131 : decode cX5_decode 131 = .ok (.iload_n 2, 1) := by decide +kernel
theorem dX5_decode_132 : decode cX5_decode 132 = .ok (.iaload, 1) := by decide +kernel
theorem dX5_decode_133 : decode cX5_decode 133 = .ok (.istore_n 3, 1) := by decide +kernel
theorem dX5_decode_134 : decode cX5_decode 134 = .ok (.iload_n 3, 1) := by decide +kernel
theorem dX5_decode_135 : decode cX5_decode 135 = .ok (.aload_n 0, 1) := by decide +kernel
theorem dX5_decode_136 : decode cX5_decode 136 = .ok (.getfield 72, 3) := by decide +kernel
theorem dX5_decode_139 : decode cX5_decode 139 = .ok (.iconst 2, 1) := by decide +kernel
theorem dX5_decode_140 : decode cX5_decode 140 = .ok (.iadd, 1) := by decide +kernel
theorem dX5_decode_141 : decode cX5_decode 141 = .ok (.if_icmp .lt 25, 3) := by decide +kernel
theorem dX5_decode_144 : decode cX5_decode 144 = .ok (.aload_n 0, 1) := by decide +kernel
theorem dX5_decode_145 : decode cX5_decode 145 = .ok (.iload_n 3, 1) := by decide +kernel
theorem dX5_decode_146 : decode cX5_decode 146 = .ok (.invokevirtual 101, 3) := by decide +kernel
theorem dX5_decode_149 : decode cX5_decode 149 = .ok (.ifCond .ne 17, 3) := by decide +kernel
theorem dX5_decode_152 : decode cX5_decode 152 = .ok (.aload_n 0, 1) := by decide +kernel
theorem dX5_decode_153 : decode cX5_decode 153 = .ok (.getfield 28, 3) := by decide +kernel
theorem dX5_decode_156 : decode cX5_decode 156 = .ok (.iload_n 3, 1) := by decide +kernel
theorem dX5_decode_157 : decode cX5_decode 157 = .ok (.baload, 1) := by decide +kernel
theorem dX5_decode_158 : decode cX5_decode 158 = .ok (.ifCond .ne 8, 3) := by decide +kernel
theorem dX5_decode_161 : decode cX5_decode 161 = .ok (.aload_n 0, 1) := by decide +kernel
theorem dX5_decode_162 : decode cX5_decode 162 = .ok (.iload_n 3, 1) := by decide +kernel
theorem dX5_decode_163 : decode cX5_decode 163 = .ok (.invokevirtual 105, 3) := by decide +kernel
theorem dX5_decode_166 : decode cX5_decode 166 = .ok (.iinc 2 1, 3) := by decide +kernel
theorem dX5_decode_169 : decode cX5_decode 169 = .ok (.goto (-47), 3) := by decide +kernel
theorem dX5_decode_172 : decode cX5_decode 172 = .ok (.return_, 1) := by decide +kernel
theorem dX5_isDirectory_0 : decode cX5_isDirectory 0 = .ok (.iconst 0, 1) := by decide +kernel
theorem dX5_isDirectory_1 : decode cX5_isDirectory 1 = .ok (.istore_n 2, 1) := by decide +kernel
theorem dX5_isDirectory_2 : decode cX5_isDirectory 2 = .ok (.iload_n 2, 1) := by decide +kernel
theorem dX5_isDirectory_3 : decode cX5_isDirectory 3 = .ok (.aload_n 0, 1) := by decide +kernel
theorem dX5_isDirectory_4 : decode cX5_isDirectory 4 = .ok (.getfield 98, 3) := by decide +kernel
theorem dX5_isDirectory_7 : decode cX5_isDirectory 7 = .ok (.if_icmp .ge 21, 3) := by decide +kernel
theorem dX5_isDirectory_10 : decode cX5_isDirectory 10 = .ok (.aload_n 0, 1) := by decide +kernel
theorem dX5_isDirectory_11 : decode cX5_isDirectory 11 = .ok (.getfield 18, 3) := by decide +kernel
theorem dX5_isDirectory_14 : decode cX5_isDirectory 14 = .ok (.iload_n 2, 1) := by decide +kernel
theorem dX5_isDirectory_15 : decode cX5_isDirectory 15 = .ok (.iaload, 1) := by decide +kernel
theorem dX5_isDirectory_16 : decode cX5_isDirectory 16 = .ok (.iload_n 1, 1) := by decide +kernel
theorem dX5_isDirectory_17 : decode cX5_isDirectory 17 = .ok (.if_icmp .ne 5, 3) := by decide +kernel
theorem dX5_isDirectory_20 : decode cX5_isDirectory 20 = .ok (.iconst 1, 1) := by decide +kernel
theorem dX5_isDirectory_21 : decode cX5_isDirectory 21 = .ok (.ireturn, 1) := by decide +kernel
theorem dX5_isDirectory_22 : decode cX5_isDirectory 22 = .ok (.iinc 2 1, 3) := by decide +kernel
theorem dX5_isDirectory_25 : decode cX5_isDirectory 25 = .ok (.goto (-23), 3) := by decide +kernel
theorem dX5_isDirectory_28 : decode cX5_isDirectory 28 = .ok (.iconst 0, 1) := by decide +kernel
theorem dX5_isDirectory_29 : decode cX5_isDirectory 29 = .ok (.ireturn, 1) := by decide +kernel
theorem dX5_bucket_0 : decode cX5_bucket 0 = .ok (.aload_n 0, 1) := by decide +kernel
theorem dX5_bucket_1 : decode cX5_bucket 1 = .ok (.getfield 28, 3) := by decide +kernel
theorem dX5_bucket_4 : decode cX5_bucket 4 = .ok (.iload_n 1, 1) := by decide +kernel
theorem dX5_bucket_5 : decode cX5_bucket 5 = .ok (.iconst 1, 1) := by decide +kernel
theorem dX5_bucket_6 : decode cX5_bucket 6 = .ok (.bastore, 1) := by decide +kernel
theorem dX5_bucket_7 : decode cX5_bucket 7 = .ok (.aload_n 0, 1) := by decide +kernel
theorem dX5_bucket_8 : decode cX5_bucket 8 = .ok (.getfield 32, 3) := by decide +kernel
theorem dX5_bucket_11 : decode cX5_bucket 11 = .ok (.iload_n 1, 1) := by decide +kernel
theorem dX5_bucket_12 : decode cX5_bucket 12 = .ok (.aload_n 0, 1) := by decide +kernel
theorem dX5_bucket_13 : decode cX5_bucket 13 = .ok (.iload_n 1, 1) := by decide +kernel
theorem dX5_bucket_14 : decode cX5_bucket 14 = .ok (.iconst 0, 1) := by decide +kernel
theorem dX5_bucket_15 : decode cX5_bucket 15 = .ok (.invokevirtual 91, 3) := by decide +kernel
theorem dX5_bucket_18 : decode cX5_bucket 18 = .ok (.iastore, 1) := by decide +kernel
theorem dX5_bucket_19 : decode cX5_bucket 19 = .ok (.aload_n 0, 1) := by decide +kernel
theorem dX5_bucket_20 : decode cX5_bucket 20 = .ok (.getfield 35, 3) := by decide +kernel
theorem dX5_bucket_23 : decode cX5_bucket 23 = .ok (.iload_n 1, 1) := by decide +kernel
theorem dX5_bucket_24 : decode cX5_bucket 24 = .ok (.aload_n 0, 1) := by decide +kernel
theorem dX5_bucket_25 : decode cX5_bucket 25 = .ok (.iload_n 1, 1) := by decide +kernel
theorem dX5_bucket_26 : decode cX5_bucket 26 = .ok (.iconst 1, 1) := by decide +kernel
theorem dX5_bucket_27 : decode cX5_bucket 27 = .ok (.invokevirtual 91, 3) := by decide +kernel
theorem dX5_bucket_30 : decode cX5_bucket 30 = .ok (.iastore, 1) := by decide +kernel
theorem dX5_bucket_31 : decode cX5_bucket 31 = .ok (.iconst 4, 1) := by decide +kernel
theorem dX5_bucket_32 : decode cX5_bucket 32 = .ok (.istore_n 2, 1) := by decide +kernel
theorem dX5_bucket_33 : decode cX5_bucket 33 = .ok (.iconst 0, 1) := by decide +kernel
theorem dX5_bucket_34 : decode cX5_bucket 34 = .ok (.istore_n 3, 1) := by decide +kernel
theorem dX5_bucket_35 : decode cX5_bucket 35 = .ok (.iload_n 3, 1) := by decide +kernel
theorem dX5_bucket_36 : decode cX5_bucket 36 = .ok (.aload_n 0, 1) := by decide +kernel
theorem dX5_bucket_37 : decode cX5_bucket 37 = .ok (.getfield 35, 3) := by decide +kernel
theorem dX5_bucket_40 : decode cX5_bucket 40 = .ok (.iload_n 1, 1) := by decide +kernel
theorem dX5_bucket_41 : decode cX5_bucket 41 = .ok (.iaload, 1) := by decide +kernel
theorem dX5_bucket_42 : decode cX5_bucket 42 = .ok (.if_icmp .ge 220, 3) := by decide +kernel
theorem dX5_bucket_45 : decode cX5_bucket 45 = .ok (.bipush 90, 2) := by decide +kernel
theorem dX5_bucket_47 : decode cX5_bucket 47 = .ok (.iload_n 1, 1) := by decide +kernel
theorem dX5_bucket_48 : decode cX5_bucket 48 = .ok (.imul, 1) := by decide +kernel
theorem dX5_bucket_49 : decode cX5_bucket 49 = .ok (.iload_n 3, 1) := by decide +kernel
theorem dX5_bucket_50 : decode cX5_bucket 50 = .ok (.iadd, 1) := by decide +kernel
theorem dX5_bucket_51 : decode cX5_bucket 51 = .ok (.istore 4, 2) := by decide +kernel
theorem dX5_bucket_53 : decode cX5_bucket 53 = .ok (.aload_n 0, 1) := by decide +kernel
theorem dX5_bucket_54 : decode cX5_bucket 54 = .ok (.getfield 38, 3) := by decide +kernel
theorem dX5_bucket_57 : decode cX5_bucket 57 = .ok (.iload 4, 2) := by decide +kernel
theorem dX5_bucket_59 : decode cX5_bucket 59 = .ok (.aload_n 0, 1) := by decide +kernel
theorem dX5_bucket_60 : decode cX5_bucket 60 = .ok (.iload_n 1, 1) := by decide +kernel
theorem dX5_bucket_61 : decode cX5_bucket 61 = .ok (.iload_n 2, 1) := by decide +kernel
theorem dX5_bucket_62 : decode cX5_bucket 62 = .ok (.invokevirtual 91, 3) := by decide +kernel
theorem dX5_bucket_65 : decode cX5_bucket 65 = .ok (.iastore, 1) := by decide +kernel
theorem dX5_bucket_66 : decode cX5_bucket 66 = .ok (.aload_n 0, 1) := by decide +kernel
theorem dX5_bucket_67 : decode cX5_bucket 67 = .ok (.getfield 41, 3) := by decide +kernel
theorem dX5_bucket_70 : decode cX5_bucket 70 = .ok (.iload 4, 2) := by decide +kernel
theorem dX5_bucket_72 : decode cX5_bucket 72 = .ok (.aload_n 0, 1) := by decide +kernel
theorem dX5_bucket_73 : decode cX5_bucket 73 = .ok (.iload_n 1, 1) := by decide +kernel
theorem dX5_bucket_74 : decode cX5_bucket 74 = .ok (.iload_n 2, 1) := by decide +kernel
theorem dX5_bucket_75 : decode cX5_bucket 75 = .ok (.iconst 1, 1) := by decide +kernel
theorem dX5_bucket_76 : decode cX5_bucket 76 = .ok (.iadd, 1) := by decide +kernel
theorem dX5_bucket_77 : decode cX5_bucket 77 = .ok (.invokevirtual 91, 3) := by decide +kernel
theorem dX5_bucket_80 : decode cX5_bucket 80 = .ok (.iastore, 1) := by decide +kernel
theorem dX5_bucket_81 : decode cX5_bucket 81 = .ok (.iinc 2 2, 3) := by decide +kernel
theorem dX5_bucket_84 : decode cX5_bucket 84 = .ok (.iconst 0, 1) := by decide +kernel
theorem dX5_bucket_85 : decode cX5_bucket 85 = .ok (.istore 5, 2) := by decide +kernel
theorem dX5_bucket_87 : decode cX5_bucket 87 = .ok (.iload 5, 2) := by decide +kernel
theorem dX5_bucket_89 : decode cX5_bucket 89 = .ok (.iconst 2, 1) := by decide +kernel
theorem dX5_bucket_90 : decode cX5_bucket 90 = .ok (.if_icmp .ge 22, 3) := by decide +kernel
theorem dX5_bucket_93 : decode cX5_bucket 93 = .ok (.aload_n 0, 1) := by decide +kernel
theorem dX5_bucket_94 : decode cX5_bucket 94 = .ok (.getfield 45, 3) := by decide +kernel
theorem dX5_bucket_97 : decode cX5_bucket 97 = .ok (.iconst 2, 1) := by decide +kernel
theorem dX5_bucket_98 : decode cX5_bucket 98 = .ok (.iload 4, 2) := by decide +kernel
theorem dX5_bucket_100 : decode cX5_bucket 100 = .ok (.imul, 1) := by decide +kernel
theorem dX5_bucket_101 : decode cX5_bucket 101 = .ok (.iload 5, 2) := by decide +kernel
theorem dX5_bucket_103 : decode cX5_bucket 103 = .ok (.iadd, 1) := by decide +kernel
theorem dX5_bucket_104 : decode cX5_bucket 104 = .ok (.lconst 0, 1) := by decide +kernel
theorem dX5_bucket_105 : decode cX5_bucket 105 = .ok (.lastore, 1) := by decide +kernel
theorem dX5_bucket_106 : decode cX5_bucket 106 = .ok (.iinc 5 1, 3) := by decide +kernel
theorem dX5_bucket_109 : decode cX5_bucket 109 = .ok (.goto (-22), 3) := by decide +kernel
theorem dX5_bucket_112 : decode cX5_bucket 112 = .ok (.iconst 0, 1) := by decide +kernel
theorem dX5_bucket_113 : decode cX5_bucket 113 = .ok (.istore 5, 2) := by decide +kernel
theorem dX5_bucket_115 : decode cX5_bucket 115 = .ok (.iload 5, 2) := by decide +kernel
theorem dX5_bucket_117 : decode cX5_bucket 117 = .ok (.iconst 4, 1) := by decide +kernel
theorem dX5_bucket_118 : decode cX5_bucket 118 = .ok (.if_icmp .ge 22, 3) := by decide +kernel
theorem dX5_bucket_121 : decode cX5_bucket 121 = .ok (.aload_n 0, 1) := by decide +kernel
theorem dX5_bucket_122 : decode cX5_bucket 122 = .ok (.getfield 50, 3) := by decide +kernel
theorem dX5_bucket_125 : decode cX5_bucket 125 = .ok (.iconst 4, 1) := by decide +kernel
theorem dX5_bucket_126 : decode cX5_bucket 126 = .ok (.iload 4, 2) := by decide +kernel
theorem dX5_bucket_128 : decode cX5_bucket 128 = .ok (.imul, 1) := by decide +kernel
theorem dX5_bucket_129 : decode cX5_bucket 129 = .ok (.iload 5, 2) := by decide +kernel
theorem dX5_bucket_131 : decode cX5_bucket 131 = .ok (.iadd, 1) := by decide +kernel
theorem dX5_bucket_132 : decode cX5_bucket 132 = .ok (.lconst 0, 1) := by decide +kernel
theorem dX5_bucket_133 : decode cX5_bucket 133 = .ok (.lastore, 1) := by decide +kernel
theorem dX5_bucket_134 : decode cX5_bucket 134 = .ok (.iinc 5 1, 3) := by decide +kernel
theorem dX5_bucket_137 : decode cX5_bucket 137 = .ok (.goto (-22), 3) := by decide +kernel
theorem dX5_bucket_140 : decode cX5_bucket 140 = .ok (.iconst 0, 1) := by decide +kernel
theorem dX5_bucket_141 : decode cX5_bucket 141 = .ok (.istore 5, 2) := by decide +kernel
theorem dX5_bucket_143 : decode cX5_bucket 143 = .ok (.iload 5, 2) := by decide +kernel
theorem dX5_bucket_145 : decode cX5_bucket 145 = .ok (.aload_n 0, 1) := by decide +kernel
theorem dX5_bucket_146 : decode cX5_bucket 146 = .ok (.getfield 38, 3) := by decide +kernel
theorem dX5_bucket_149 : decode cX5_bucket 149 = .ok (.iload 4, 2) := by decide +kernel
theorem dX5_bucket_151 : decode cX5_bucket 151 = .ok (.iaload, 1) := by decide +kernel
theorem dX5_bucket_152 : decode cX5_bucket 152 = .ok (.if_icmp .ge 46, 3) := by decide +kernel
theorem dX5_bucket_155 : decode cX5_bucket 155 = .ok (.aload_n 0, 1) := by decide +kernel
theorem dX5_bucket_156 : decode cX5_bucket 156 = .ok (.getfield 45, 3) := by decide +kernel
theorem dX5_bucket_159 : decode cX5_bucket 159 = .ok (.iconst 2, 1) := by decide +kernel
theorem dX5_bucket_160 : decode cX5_bucket 160 = .ok (.iload 4, 2) := by decide +kernel
theorem dX5_bucket_162 : decode cX5_bucket 162 = .ok (.imul, 1) := by decide +kernel
theorem dX5_bucket_163 : decode cX5_bucket 163 = .ok (.iload 5, 2) := by decide +kernel
theorem dX5_bucket_165 : decode cX5_bucket 165 = .ok (.bipush 8, 2) := by decide +kernel
theorem dX5_bucket_167 : decode cX5_bucket 167 = .ok (.idiv, 1) := by decide +kernel
theorem dX5_bucket_168 : decode cX5_bucket 168 = .ok (.iadd, 1) := by decide +kernel
theorem dX5_bucket_169 : decode cX5_bucket 169 = .ok (.dup2, 1) := by decide +kernel
theorem dX5_bucket_170 : decode cX5_bucket 170 = .ok (.laload, 1) := by decide +kernel
theorem dX5_bucket_171 : decode cX5_bucket 171 = .ok (.aload_n 0, 1) := by decide +kernel
theorem dX5_bucket_172 : decode cX5_bucket 172 = .ok (.iload_n 1, 1) := by decide +kernel
theorem dX5_bucket_173 : decode cX5_bucket 173 = .ok (.iload_n 2, 1) := by decide +kernel
theorem dX5_bucket_174 : decode cX5_bucket 174 = .ok (.invokevirtual 91, 3) := by decide +kernel
theorem dX5_bucket_177 : decode cX5_bucket 177 = .ok (.i2l, 1) := by decide +kernel
theorem dX5_bucket_178 : decode cX5_bucket 178 = .ok (.bipush 8, 2) := by decide +kernel
theorem dX5_bucket_180 : decode cX5_bucket 180 = .ok (.iload 5, 2) := by decide +kernel
theorem dX5_bucket_182 : decode cX5_bucket 182 = .ok (.bipush 8, 2) := by decide +kernel
theorem dX5_bucket_184 : decode cX5_bucket 184 = .ok (.irem, 1) := by decide +kernel
theorem dX5_bucket_185 : decode cX5_bucket 185 = .ok (.imul, 1) := by decide +kernel
theorem dX5_bucket_186 : decode cX5_bucket 186 = .ok (.lshl, 1) := by decide +kernel
theorem dX5_bucket_187 : decode cX5_bucket 187 = .ok (.lor, 1) := by decide +kernel
theorem dX5_bucket_188 : decode cX5_bucket 188 = .ok (.lastore, 1) := by decide +kernel
theorem dX5_bucket_189 : decode cX5_bucket 189 = .ok (.iinc 2 1, 3) := by decide +kernel
theorem dX5_bucket_192 : decode cX5_bucket 192 = .ok (.iinc 5 1, 3) := by decide +kernel
theorem dX5_bucket_195 : decode cX5_bucket 195 = .ok (.goto (-52), 3) := by decide +kernel
theorem dX5_bucket_198 : decode cX5_bucket 198 = .ok (.iconst 0, 1) := by decide +kernel
theorem dX5_bucket_199 : decode cX5_bucket 199 = .ok (.istore 5, 2) := by decide +kernel
theorem dX5_bucket_201 : decode cX5_bucket 201 = .ok (.iload 5, 2) := by decide +kernel
theorem dX5_bucket_203 : decode cX5_bucket 203 = .ok (.aload_n 0, 1) := by decide +kernel
theorem dX5_bucket_204 : decode cX5_bucket 204 = .ok (.getfield 41, 3) := by decide +kernel
theorem dX5_bucket_207 : decode cX5_bucket 207 = .ok (.iload 4, 2) := by decide +kernel
theorem dX5_bucket_209 : decode cX5_bucket 209 = .ok (.iaload, 1) := by decide +kernel
theorem dX5_bucket_210 : decode cX5_bucket 210 = .ok (.if_icmp .ge 46, 3) := by decide +kernel
theorem dX5_bucket_213 : decode cX5_bucket 213 = .ok (.aload_n 0, 1) := by decide +kernel
theorem dX5_bucket_214 : decode cX5_bucket 214 = .ok (.getfield 50, 3) := by decide +kernel
theorem dX5_bucket_217 : decode cX5_bucket 217 = .ok (.iconst 4, 1) := by decide +kernel
theorem dX5_bucket_218 : decode cX5_bucket 218 = .ok (.iload 4, 2) := by decide +kernel
theorem dX5_bucket_220 : decode cX5_bucket 220 = .ok (.imul, 1) := by decide +kernel
theorem dX5_bucket_221 : decode cX5_bucket 221 = .ok (.iload 5, 2) := by decide +kernel
theorem dX5_bucket_223 : decode cX5_bucket 223 = .ok (.bipush 8, 2) := by decide +kernel
theorem dX5_bucket_225 : decode cX5_bucket 225 = .ok (.idiv, 1) := by decide +kernel
theorem dX5_bucket_226 : decode cX5_bucket 226 = .ok (.iadd, 1) := by decide +kernel
theorem dX5_bucket_227 : decode cX5_bucket 227 = .ok (.dup2, 1) := by decide +kernel
theorem dX5_bucket_228 : decode cX5_bucket 228 = .ok (.laload, 1) := by decide +kernel
theorem dX5_bucket_229 : decode cX5_bucket 229 = .ok (.aload_n 0, 1) := by decide +kernel
theorem dX5_bucket_230 : decode cX5_bucket 230 = .ok (.iload_n 1, 1) := by decide +kernel
theorem dX5_bucket_231 : decode cX5_bucket 231 = .ok (.iload_n 2, 1) := by decide +kernel
theorem dX5_bucket_232 : decode cX5_bucket 232 = .ok (.invokevirtual 91, 3) := by decide +kernel
theorem dX5_bucket_235 : decode cX5_bucket 235 = .ok (.i2l, 1) := by decide +kernel
theorem dX5_bucket_236 : decode cX5_bucket 236 = .ok (.bipush 8, 2) := by decide +kernel
theorem dX5_bucket_238 : decode cX5_bucket 238 = .ok (.iload 5, 2) := by decide +kernel
theorem dX5_bucket_240 : decode cX5_bucket 240 = .ok (.bipush 8, 2) := by decide +kernel
theorem dX5_bucket_242 : decode cX5_bucket 242 = .ok (.irem, 1) := by decide +kernel
theorem dX5_bucket_243 : decode cX5_bucket 243 = .ok (.imul, 1) := by decide +kernel
theorem dX5_bucket_244 : decode cX5_bucket 244 = .ok (.lshl, 1) := by decide +kernel
theorem dX5_bucket_245 : decode cX5_bucket 245 = .ok (.lor, 1) := by decide +kernel
theorem dX5_bucket_246 : decode cX5_bucket 246 = .ok (.lastore, 1) := by decide +kernel
theorem dX5_bucket_247 : decode cX5_bucket 247 = .ok (.iinc 2 1, 3) := by decide +kernel
theorem dX5_bucket_250 : decode cX5_bucket 250 = .ok (.iinc 5 1, 3) := by decide +kernel
theorem dX5_bucket_253 : decode cX5_bucket 253 = .ok (.goto (-52), 3) := by decide +kernel
theorem dX5_bucket_256 : decode cX5_bucket 256 = .ok (.iinc 3 1, 3) := by decide +kernel
theorem dX5_bucket_259 : decode cX5_bucket 259 = .ok (.goto (-224), 3) := by decide +kernel
theorem dX5_bucket_262 : decode cX5_bucket 262 = .ok (.return_, 1) := by decide +kernel
theorem dX5_keyByte_0 : decode cX5_keyByte 0 = .ok (.aload_n 0, 1) := by decide +kernel
theorem dX5_keyByte_1 : decode cX5_keyByte 1 = .ok (.getfield 45, 3) := by decide +kernel
theorem dX5_keyByte_4 : decode cX5_keyByte 4 = .ok (.iconst 2, 1) := by decide +kernel
theorem dX5_keyByte_5 : decode cX5_keyByte 5 = .ok (.iload_n 1, 1) := by decide +kernel
theorem dX5_keyByte_6 : decode cX5_keyByte 6 = .ok (.imul, 1) := by decide +kernel
theorem dX5_keyByte_7 : decode cX5_keyByte 7 = .ok (.iload_n 2, 1) := by decide +kernel
theorem dX5_keyByte_8 : decode cX5_keyByte 8 = .ok (.bipush 8, 2) := by decide +kernel
theorem dX5_keyByte_10 : decode cX5_keyByte 10 = .ok (.idiv, 1) := by decide +kernel
theorem dX5_keyByte_11 : decode cX5_keyByte 11 = .ok (.iadd, 1) := by decide +kernel
theorem dX5_keyByte_12 : decode cX5_keyByte 12 = .ok (.laload, 1) := by decide +kernel
theorem dX5_keyByte_13 : decode cX5_keyByte 13 = .ok (.bipush 8, 2) := by decide +kernel
theorem dX5_keyByte_15 : decode cX5_keyByte 15 = .ok (.iload_n 2, 1) := by decide +kernel
theorem dX5_keyByte_16 : decode cX5_keyByte 16 = .ok (.bipush 8, 2) := by decide +kernel
theorem dX5_keyByte_18 : decode cX5_keyByte 18 = .ok (.irem, 1) := by decide +kernel
theorem dX5_keyByte_19 : decode cX5_keyByte 19 = .ok (.imul, 1) := by decide +kernel
theorem dX5_keyByte_20 : decode cX5_keyByte 20 = .ok (.lshr, 1) := by decide +kernel
theorem dX5_keyByte_21 : decode cX5_keyByte 21 = .ok (.l2i, 1) := by decide +kernel
theorem dX5_keyByte_22 : decode cX5_keyByte 22 = .ok (.sipush 255, 3) := by decide +kernel
theorem dX5_keyByte_25 : decode cX5_keyByte 25 = .ok (.iand, 1) := by decide +kernel
theorem dX5_keyByte_26 : decode cX5_keyByte 26 = .ok (.ireturn, 1) := by decide +kernel
theorem dX5_valueByte_0 : decode cX5_valueByte 0 = .ok (.aload_n 0, 1) := by decide +kernel
theorem dX5_valueByte_1 : decode cX5_valueByte 1 = .ok (.getfield 50, 3) := by decide +kernel
theorem dX5_valueByte_4 : decode cX5_valueByte 4 = .ok (.iconst 4, 1) := by decide +kernel
theorem dX5_valueByte_5 : decode cX5_valueByte 5 = .ok (.iload_n 1, 1) := by decide +kernel
theorem dX5_valueByte_6 : decode cX5_valueByte 6 = .ok (.imul, 1) := by decide +kernel
theorem dX5_valueByte_7 : decode cX5_valueByte 7 = .ok (.iload_n 2, 1) := by decide +kernel
theorem dX5_valueByte_8 : decode cX5_valueByte 8 = .ok (.bipush 8, 2) := by decide +kernel
theorem dX5_valueByte_10 : decode cX5_valueByte 10 = .ok (.idiv, 1) := by decide +kernel
theorem dX5_valueByte_11 : decode cX5_valueByte 11 = .ok (.iadd, 1) := by decide +kernel
theorem dX5_valueByte_12 : decode cX5_valueByte 12 = .ok (.laload, 1) := by decide +kernel
theorem dX5_valueByte_13 : decode cX5_valueByte 13 = .ok (.bipush 8, 2) := by decide +kernel
theorem dX5_valueByte_15 : decode cX5_valueByte 15 = .ok (.iload_n 2, 1) := by decide +kernel
theorem dX5_valueByte_16 : decode cX5_valueByte 16 = .ok (.bipush 8, 2) := by decide +kernel
theorem dX5_valueByte_18 : decode cX5_valueByte 18 = .ok (.irem, 1) := by decide +kernel
theorem dX5_valueByte_19 : decode cX5_valueByte 19 = .ok (.imul, 1) := by decide +kernel
theorem dX5_valueByte_20 : decode cX5_valueByte 20 = .ok (.lshr, 1) := by decide +kernel
theorem dX5_valueByte_21 : decode cX5_valueByte 21 = .ok (.l2i, 1) := by decide +kernel
theorem dX5_valueByte_22 : decode cX5_valueByte 22 = .ok (.sipush 255, 3) := by decide +kernel
theorem dX5_valueByte_25 : decode cX5_valueByte 25 = .ok (.iand, 1) := by decide +kernel
theorem dX5_valueByte_26 : decode cX5_valueByte 26 = .ok (.ireturn, 1) := by decide +kernel
theorem dX5_bytesOf_0 : decode cX5_bytesOf 0 = .ok (.iconst 0, 1) := by decide +kernel
theorem dX5_bytesOf_1 : decode cX5_bytesOf 1 = .ok (.istore_n 2, 1) := by decide +kernel
theorem dX5_bytesOf_2 : decode cX5_bytesOf 2 = .ok (.iconst 0, 1) := by decide +kernel
theorem dX5_bytesOf_3 : decode cX5_bytesOf 3 = .ok (.istore_n 3, 1) := by decide +kernel
theorem dX5_bytesOf_4 : decode cX5_bytesOf 4 = .ok (.iload_n 3, 1) := by decide +kernel
theorem dX5_bytesOf_5 : decode cX5_bytesOf 5 = .ok (.aload_n 0, 1) := by decide +kernel
theorem dX5_bytesOf_6 : decode cX5_bytesOf 6 = .ok (.getfield 35, 3) := by decide +kernel
theorem dX5_bytesOf_9 : decode cX5_bytesOf 9 = .ok (.iload_n 1, 1) := by decide +kernel
theorem dX5_bytesOf_10 : decode cX5_bytesOf 10 = .ok (.iaload, 1) := by decide +kernel
theorem dX5_bytesOf_11 : decode cX5_bytesOf 11 = .ok (.if_icmp .ge 37, 3) := by decide +kernel
theorem dX5_bytesOf_14 : decode cX5_bytesOf 14 = .ok (.iload_n 2, 1) := by decide +kernel
theorem dX5_bytesOf_15 : decode cX5_bytesOf 15 = .ok (.iconst 2, 1) := by decide +kernel
theorem dX5_bytesOf_16 : decode cX5_bytesOf 16 = .ok (.aload_n 0, 1) := by decide +kernel
theorem dX5_bytesOf_17 : decode cX5_bytesOf 17 = .ok (.getfield 38, 3) := by decide +kernel
theorem dX5_bytesOf_20 : decode cX5_bytesOf 20 = .ok (.bipush 90, 2) := by decide +kernel
theorem dX5_bytesOf_22 : decode cX5_bytesOf 22 = .ok (.iload_n 1, 1) := by decide +kernel
theorem dX5_bytesOf_23 : decode cX5_bytesOf 23 = .ok (.imul, 1) := by decide +kernel
theorem dX5_bytesOf_24 : decode cX5_bytesOf 24 = .ok (.iload_n 3, 1) := by decide +kernel
theorem dX5_bytesOf_25 : decode cX5_bytesOf 25 = .ok (.iadd, 1) := by decide +kernel
theorem dX5_bytesOf_26 : decode cX5_bytesOf 26 = .ok (.iaload, 1) := by decide +kernel
theorem dX5_bytesOf_27 : decode cX5_bytesOf 27 = .ok (.iadd, 1) := by decide +kernel
theorem dX5_bytesOf_28 : decode cX5_bytesOf 28 = .ok (.aload_n 0, 1) := by decide +kernel
theorem dX5_bytesOf_29 : decode cX5_bytesOf 29 = .ok (.getfield 41, 3) := by decide +kernel
theorem dX5_bytesOf_32 : decode cX5_bytesOf 32 = .ok (.bipush 90, 2) := by decide +kernel
theorem dX5_bytesOf_34 : decode cX5_bytesOf 34 = .ok (.iload_n 1, 1) := by decide +kernel
theorem dX5_bytesOf_35 : decode cX5_bytesOf 35 = .ok (.imul, 1) := by decide +kernel
theorem dX5_bytesOf_36 : decode cX5_bytesOf 36 = .ok (.iload_n 3, 1) := by decide +kernel
theorem dX5_bytesOf_37 : decode cX5_bytesOf 37 = .ok (.iadd, 1) := by decide +kernel
theorem dX5_bytesOf_38 : decode cX5_bytesOf 38 = .ok (.iaload, 1) := by decide +kernel
theorem dX5_bytesOf_39 : decode cX5_bytesOf 39 = .ok (.iadd, 1) := by decide +kernel
theorem dX5_bytesOf_40 : decode cX5_bytesOf 40 = .ok (.iadd, 1) := by decide +kernel
theorem dX5_bytesOf_41 : decode cX5_bytesOf 41 = .ok (.istore_n 2, 1) := by decide +kernel
theorem dX5_bytesOf_42 : decode cX5_bytesOf 42 = .ok (.iinc 3 1, 3) := by decide +kernel
theorem dX5_bytesOf_45 : decode cX5_bytesOf 45 = .ok (.goto (-41), 3) := by decide +kernel
theorem dX5_bytesOf_48 : decode cX5_bytesOf 48 = .ok (.iload_n 2, 1) := by decide +kernel
theorem dX5_bytesOf_49 : decode cX5_bytesOf 49 = .ok (.ireturn, 1) := by decide +kernel
theorem dX5_step_0 : decode cX5_step 0 = .ok (.iload_n 0, 1) := by decide +kernel
theorem dX5_step_1 : decode cX5_step 1 = .ok (.iload_n 1, 1) := by decide +kernel
theorem dX5_step_2 : decode cX5_step 2 = .ok (.ixor, 1) := by decide +kernel
theorem dX5_step_3 : decode cX5_step 3 = .ok (.ldc 109, 2) := by decide +kernel
theorem dX5_step_5 : decode cX5_step 5 = .ok (.imul, 1) := by decide +kernel
theorem dX5_step_6 : decode cX5_step 6 = .ok (.ldc 110, 2) := by decide +kernel
theorem dX5_step_8 : decode cX5_step 8 = .ok (.iand, 1) := by decide +kernel
theorem dX5_step_9 : decode cX5_step 9 = .ok (.istore_n 2, 1) := by decide +kernel
theorem dX5_step_10 : decode cX5_step 10 = .ok (.iload_n 2, 1) := by decide +kernel
theorem dX5_step_11 : decode cX5_step 11 = .ok (.iload_n 2, 1) := by decide +kernel
theorem dX5_step_12 : decode cX5_step 12 = .ok (.iconst 5, 1) := by decide +kernel
theorem dX5_step_13 : decode cX5_step 13 = .ok (.ishr, 1) := by decide +kernel
theorem dX5_step_14 : decode cX5_step 14 = .ok (.ixor, 1) := by decide +kernel
theorem dX5_step_15 : decode cX5_step 15 = .ok (.ireturn, 1) := by decide +kernel
theorem dX5_hashOf_0 : decode cX5_hashOf 0 = .ok (.ldc 109, 2) := by decide +kernel
theorem dX5_hashOf_2 : decode cX5_hashOf 2 = .ok (.istore_n 2, 1) := by decide +kernel
theorem dX5_hashOf_3 : decode cX5_hashOf 3 = .ok (.iconst 0, 1) := by decide +kernel
theorem dX5_hashOf_4 : decode cX5_hashOf 4 = .ok (.istore_n 3, 1) := by decide +kernel
theorem dX5_hashOf_5 : decode cX5_hashOf 5 = .ok (.iload_n 3, 1) := by decide +kernel
theorem dX5_hashOf_6 : decode cX5_hashOf 6 = .ok (.aload_n 0, 1) := by decide +kernel
theorem dX5_hashOf_7 : decode cX5_hashOf 7 = .ok (.getfield 38, 3) := by decide +kernel
theorem dX5_hashOf_10 : decode cX5_hashOf 10 = .ok (.iload_n 1, 1) := by decide +kernel
theorem dX5_hashOf_11 : decode cX5_hashOf 11 = .ok (.iaload, 1) := by decide +kernel
theorem dX5_hashOf_12 : decode cX5_hashOf 12 = .ok (.if_icmp .ge 20, 3) := by decide +kernel
theorem dX5_hashOf_15 : decode cX5_hashOf 15 = .ok (.iload_n 2, 1) := by decide +kernel
theorem dX5_hashOf_16 : decode cX5_hashOf 16 = .ok (.aload_n 0, 1) := by decide +kernel
theorem dX5_hashOf_17 : decode cX5_hashOf 17 = .ok (.iload_n 1, 1) := by decide +kernel
theorem dX5_hashOf_18 : decode cX5_hashOf 18 = .ok (.iload_n 3, 1) := by decide +kernel
theorem dX5_hashOf_19 : decode cX5_hashOf 19 = .ok (.invokevirtual 111, 3) := by decide +kernel
theorem dX5_hashOf_22 : decode cX5_hashOf 22 = .ok (.invokestatic 114, 3) := by decide +kernel
theorem dX5_hashOf_25 : decode cX5_hashOf 25 = .ok (.istore_n 2, 1) := by decide +kernel
theorem dX5_hashOf_26 : decode cX5_hashOf 26 = .ok (.iinc 3 1, 3) := by decide +kernel
theorem dX5_hashOf_29 : decode cX5_hashOf 29 = .ok (.goto (-24), 3) := by decide +kernel
theorem dX5_hashOf_32 : decode cX5_hashOf 32 = .ok (.iload_n 2, 1) := by decide +kernel
theorem dX5_hashOf_33 : decode cX5_hashOf 33 = .ok (.ireturn, 1) := by decide +kernel
theorem dX5_tapeHash_0 : decode cX5_tapeHash 0 = .ok (.ldc 109, 2) := by decide +kernel
theorem dX5_tapeHash_2 : decode cX5_tapeHash 2 = .ok (.istore_n 2, 1) := by decide +kernel
theorem dX5_tapeHash_3 : decode cX5_tapeHash 3 = .ok (.iconst 0, 1) := by decide +kernel
theorem dX5_tapeHash_4 : decode cX5_tapeHash 4 = .ok (.istore_n 3, 1) := by decide +kernel
theorem dX5_tapeHash_5 : decode cX5_tapeHash 5 = .ok (.iload_n 3, 1) := by decide +kernel
theorem dX5_tapeHash_6 : decode cX5_tapeHash 6 = .ok (.iload_n 1, 1) := by decide +kernel
theorem dX5_tapeHash_7 : decode cX5_tapeHash 7 = .ok (.if_icmp .ge 24, 3) := by decide +kernel
theorem dX5_tapeHash_10 : decode cX5_tapeHash 10 = .ok (.iload_n 2, 1) := by decide +kernel
theorem dX5_tapeHash_11 : decode cX5_tapeHash 11 = .ok (.aload_n 0, 1) := by decide +kernel
theorem dX5_tapeHash_12 : decode cX5_tapeHash 12 = .ok (.getfield 53, 3) := by decide +kernel
theorem dX5_tapeHash_15 : decode cX5_tapeHash 15 = .ok (.iload_n 3, 1) := by decide +kernel
theorem dX5_tapeHash_16 : decode cX5_tapeHash 16 = .ok (.baload, 1) := by decide +kernel
theorem dX5_tapeHash_17 : decode cX5_tapeHash 17 = .ok (.sipush 255, 3) := by decide +kernel
theorem dX5_tapeHash_20 : decode cX5_tapeHash 20 = .ok (.iand, 1) := by decide +kernel
theorem dX5_tapeHash_21 : decode cX5_tapeHash 21 = .ok (.invokestatic 114, 3) := by decide +kernel
theorem dX5_tapeHash_24 : decode cX5_tapeHash 24 = .ok (.istore_n 2, 1) := by decide +kernel
theorem dX5_tapeHash_25 : decode cX5_tapeHash 25 = .ok (.iinc 3 1, 3) := by decide +kernel
theorem dX5_tapeHash_28 : decode cX5_tapeHash 28 = .ok (.goto (-23), 3) := by decide +kernel
theorem dX5_tapeHash_31 : decode cX5_tapeHash 31 = .ok (.iload_n 2, 1) := by decide +kernel
theorem dX5_tapeHash_32 : decode cX5_tapeHash 32 = .ok (.ireturn, 1) := by decide +kernel
theorem dX5_first_0 : decode cX5_first 0 = .ok (.iload_n 0, 1) := by decide +kernel
theorem dX5_first_1 : decode cX5_first 1 = .ok (.bipush 16, 2) := by decide +kernel
theorem dX5_first_3 : decode cX5_first 3 = .ok (.iload_n 1, 1) := by decide +kernel
theorem dX5_first_4 : decode cX5_first 4 = .ok (.isub, 1) := by decide +kernel
theorem dX5_first_5 : decode cX5_first 5 = .ok (.ishr, 1) := by decide +kernel
theorem dX5_first_6 : decode cX5_first 6 = .ok (.ireturn, 1) := by decide +kernel
theorem dX5_render_0 : decode cX5_render 0 = .ok (.iconst 0, 1) := by decide +kernel
theorem dX5_render_1 : decode cX5_render 1 = .ok (.istore_n 2, 1) := by decide +kernel
theorem dX5_render_2 : decode cX5_render 2 = .ok (.iload_n 2, 1) := by decide +kernel
theorem dX5_render_3 : decode cX5_render 3 = .ok (.sipush 256, 3) := by decide +kernel
theorem dX5_render_6 : decode cX5_render 6 = .ok (.if_icmp .ge 16, 3) := by decide +kernel
theorem dX5_render_9 : decode cX5_render 9 = .ok (.aload_n 0, 1) := by decide +kernel
theorem dX5_render_10 : decode cX5_render 10 = .ok (.getfield 59, 3) := by decide +kernel
theorem dX5_render_13 : decode cX5_render 13 = .ok (.iload_n 2, 1) := by decide +kernel
theorem dX5_render_14 : decode cX5_render 14 = .ok (.iconst 0, 1) := by decide +kernel
theorem dX5_render_15 : decode cX5_render 15 = .ok (.iastore, 1) := by decide +kernel
theorem dX5_render_16 : decode cX5_render 16 = .ok (.iinc 2 1, 3) := by decide +kernel
theorem dX5_render_19 : decode cX5_render 19 = .ok (.goto (-17), 3) := by decide +kernel
theorem dX5_render_22 : decode cX5_render 22 = .ok (.iload_n 1, 1) := by decide +kernel
theorem dX5_render_23 : decode cX5_render 23 = .ok (.ifCond .ne 44, 3) := by decide +kernel
theorem dX5_render_26 : decode cX5_render 26 = .ok (.aload_n 0, 1) := by decide +kernel
theorem dX5_render_27 : decode cX5_render 27 = .ok (.getfield 59, 3) := by decide +kernel
theorem dX5_render_30 : decode cX5_render 30 = .ok (.iconst 0, 1) := by decide +kernel
theorem dX5_render_31 : decode cX5_render 31 = .ok (.aload_n 0, 1) := by decide +kernel
theorem dX5_render_32 : decode cX5_render 32 = .ok (.getfield 95, 3) := by decide +kernel
theorem dX5_render_35 : decode cX5_render 35 = .ok (.iastore, 1) := by decide +kernel
theorem dX5_render_36 : decode cX5_render 36 = .ok (.iconst 0, 1) := by decide +kernel
theorem dX5_render_37 : decode cX5_render 37 = .ok (.istore_n 2, 1) := by decide +kernel
theorem dX5_render_38 : decode cX5_render 38 = .ok (.iload_n 2, 1) := by decide +kernel
theorem dX5_render_39 : decode cX5_render 39 = .ok (.aload_n 0, 1) := by decide +kernel
theorem dX5_render_40 : decode cX5_render 40 = .ok (.getfield 98, 3) := by decide +kernel
theorem dX5_render_43 : decode cX5_render 43 = .ok (.if_icmp .ge 23, 3) := by decide +kernel
theorem dX5_render_46 : decode cX5_render 46 = .ok (.aload_n 0, 1) := by decide +kernel
theorem dX5_render_47 : decode cX5_render 47 = .ok (.getfield 59, 3) := by decide +kernel
theorem dX5_render_50 : decode cX5_render 50 = .ok (.iconst 1, 1) := by decide +kernel
theorem dX5_render_51 : decode cX5_render 51 = .ok (.iload_n 2, 1) := by decide +kernel
theorem dX5_render_52 : decode cX5_render 52 = .ok (.iadd, 1) := by decide +kernel
theorem dX5_render_53 : decode cX5_render 53 = .ok (.aload_n 0, 1) := by decide +kernel
theorem dX5_render_54 : decode cX5_render 54 = .ok (.getfield 18, 3) := by decide +kernel
theorem dX5_render_57 : decode cX5_render 57 = .ok (.iload_n 2, 1) := by decide +kernel
theorem dX5_render_58 : decode cX5_render 58 = .ok (.iaload, 1) := by decide +kernel
theorem dX5_render_59 : decode cX5_render 59 = .ok (.iastore, 1) := by decide +kernel
theorem dX5_render_60 : decode cX5_render 60 = .ok (.iinc 2 1, 3) := by decide +kernel
theorem dX5_render_63 : decode cX5_render 63 = .ok (.goto (-25), 3) := by decide +kernel
theorem dX5_render_66 : decode cX5_render 66 = .ok (.return_, 1) := by decide +kernel
theorem dX5_render_67 : decode cX5_render 67 = .ok (.iconst 0, 1) := by decide +kernel
theorem dX5_render_68 : decode cX5_render 68 = .ok (.istore_n 2, 1) := by decide +kernel
theorem dX5_render_69 : decode cX5_render 69 = .ok (.iload_n 2, 1) := by decide +kernel
theorem dX5_render_70 : decode cX5_render 70 = .ok (.aload_n 0, 1) := by decide +kernel
theorem dX5_render_71 : decode cX5_render 71 = .ok (.getfield 98, 3) := by decide +kernel
theorem dX5_render_74 : decode cX5_render 74 = .ok (.if_icmp .ge 69, 3) := by decide +kernel
theorem dX5_render_77 : decode cX5_render 77 = .ok (.aload_n 0, 1) := by decide +kernel
theorem dX5_render_78 : decode cX5_render 78 = .ok (.getfield 18, 3) := by decide +kernel
theorem dX5_render_81 : decode cX5_render 81 = .ok (.iload_n 2, 1) := by decide +kernel
theorem dX5_render_82 : decode cX5_render 82 = .ok (.iaload, 1) := by decide +kernel
theorem dX5_render_83 : decode cX5_render 83 = .ok (.iload_n 1, 1) := by decide +kernel
theorem dX5_render_84 : decode cX5_render 84 = .ok (.if_icmp .ne 53, 3) := by decide +kernel
theorem dX5_render_87 : decode cX5_render 87 = .ok (.iconst 0, 1) := by decide +kernel
theorem dX5_render_88 : decode cX5_render 88 = .ok (.istore_n 3, 1) := by decide +kernel
theorem dX5_render_89 : decode cX5_render 89 = .ok (.iload_n 3, 1) := by decide +kernel
theorem dX5_render_90 : decode cX5_render 90 = .ok (.sipush 256, 3) := by decide +kernel
theorem dX5_render_93 : decode cX5_render 93 = .ok (.if_icmp .ge 43, 3) := by decide +kernel
theorem dX5_render_96 : decode cX5_render 96 = .ok (.sipush 256, 3) := by decide +kernel
theorem dX5_render_99 : decode cX5_render 99 = .ok (.iload_n 2, 1) := by decide +kernel
theorem dX5_render_100 : decode cX5_render 100 = .ok (.imul, 1) := by decide +kernel
theorem dX5_render_101 : decode cX5_render 101 = .ok (.iload_n 3, 1) := by decide +kernel
theorem dX5_render_102 : decode cX5_render 102 = .ok (.iadd, 1) := by decide +kernel
theorem dX5_render_103 : decode cX5_render 103 = .ok (.iconst 1, 1) := by decide +kernel
theorem dX5_render_104 : decode cX5_render 104 = .ok (.aload_n 0, 1) := by decide +kernel
theorem dX5_render_105 : decode cX5_render 105 = .ok (.getfield 95, 3) := by decide +kernel
theorem dX5_render_108 : decode cX5_render 108 = .ok (.ishl, 1) := by decide +kernel
theorem dX5_render_109 : decode cX5_render 109 = .ok (.if_icmp .ge 27, 3) := by decide +kernel
theorem dX5_render_112 : decode cX5_render 112 = .ok (.aload_n 0, 1) := by decide +kernel
theorem dX5_render_113 : decode cX5_render 113 = .ok (.getfield 59, 3) := by decide +kernel
theorem dX5_render_116 : decode cX5_render 116 = .ok (.iload_n 3, 1) := by decide +kernel
theorem dX5_render_117 : decode cX5_render 117 = .ok (.aload_n 0, 1) := by decide +kernel
theorem dX5_render_118 : decode cX5_render 118 = .ok (.getfield 22, 3) := by decide +kernel
theorem dX5_render_121 : decode cX5_render 121 = .ok (.sipush 256, 3) := by decide +kernel
theorem dX5_render_124 : decode cX5_render 124 = .ok (.iload_n 2, 1) := by decide +kernel
theorem dX5_render_125 : decode cX5_render 125 = .ok (.imul, 1) := by decide +kernel
theorem dX5_render_126 : decode cX5_render 126 = .ok (.iload_n 3, 1) := by decide +kernel
theorem dX5_render_127 : decode cX5_render 127 = .ok (.iadd, 1) := by decide +kernel
theorem dX5_render_128 : decode cX5_render 128 = .ok (.iaload, 1) := by decide +kernel
theorem dX5_render_129 : decode cX5_render 129 = .ok (.iastore, 1) := by decide +kernel
theorem dX5_render_130 : decode cX5_render 130 = .ok (.iinc 3 1, 3) := by decide +kernel
theorem dX5_render_133 : decode cX5_render 133 = .ok (.goto (-44), 3) := by decide +kernel
theorem dX5_render_136 : decode cX5_render 136 = .ok (.return_, 1) := by decide +kernel
theorem dX5_render_137 : decode cX5_render 137 = .ok (.iinc 2 1, 3) := by decide +kernel
theorem dX5_render_140 : decode cX5_render 140 = .ok (.goto (-71), 3) := by decide +kernel
theorem dX5_render_143 : decode cX5_render 143 = .ok (.aload_n 0, 1) := by decide +kernel
theorem dX5_render_144 : decode cX5_render 144 = .ok (.iload_n 1, 1) := by decide +kernel
theorem dX5_render_145 : decode cX5_render 145 = .ok (.invokevirtual 117, 3) := by decide +kernel
theorem dX5_render_148 : decode cX5_render 148 = .ok (.istore_n 2, 1) := by decide +kernel
theorem dX5_render_149 : decode cX5_render 149 = .ok (.aload_n 0, 1) := by decide +kernel
theorem dX5_render_150 : decode cX5_render 150 = .ok (.getfield 59, 3) := by decide +kernel
theorem dX5_render_153 : decode cX5_render 153 = .ok (.iconst 0, 1) := by decide +kernel
theorem dX5_render_154 : decode cX5_render 154 = .ok (.aload_n 0, 1) := by decide +kernel
theorem dX5_render_155 : decode cX5_render 155 = .ok (.getfield 32, 3) := by decide +kernel
theorem dX5_render_158 : decode cX5_render 158 = .ok (.iload_n 1, 1) := by decide +kernel
theorem dX5_render_159 : decode cX5_render 159 = .ok (.iaload, 1) := by decide +kernel
theorem dX5_render_160 : decode cX5_render 160 = .ok (.iastore, 1) := by decide +kernel
theorem dX5_render_161 : decode cX5_render 161 = .ok (.aload_n 0, 1) := by decide +kernel
theorem dX5_render_162 : decode cX5_render 162 = .ok (.getfield 59, 3) := by decide +kernel
theorem dX5_render_165 : decode cX5_render 165 = .ok (.iconst 1, 1) := by decide +kernel
theorem dX5_render_166 : decode cX5_render 166 = .ok (.aload_n 0, 1) := by decide +kernel
theorem dX5_render_167 : decode cX5_render 167 = .ok (.getfield 35, 3) := by decide +kernel
theorem dX5_render_170 : decode cX5_render 170 = .ok (.iload_n 1, 1) := by decide +kernel
theorem dX5_render_171 : decode cX5_render 171 = .ok (.iaload, 1) := by decide +kernel
theorem dX5_render_172 : decode cX5_render 172 = .ok (.iastore, 1) := by decide +kernel
theorem dX5_render_173 : decode cX5_render 173 = .ok (.aload_n 0, 1) := by decide +kernel
theorem dX5_render_174 : decode cX5_render 174 = .ok (.getfield 59, 3) := by decide +kernel
theorem dX5_render_177 : decode cX5_render 177 = .ok (.iconst 2, 1) := by decide +kernel
theorem dX5_render_178 : decode cX5_render 178 = .ok (.iload_n 2, 1) := by decide +kernel
theorem dX5_render_179 : decode cX5_render 179 = .ok (.sipush 256, 3) := by decide +kernel
theorem dX5_render_182 : decode cX5_render 182 = .ok (.idiv, 1) := by decide +kernel
theorem dX5_render_183 : decode cX5_render 183 = .ok (.iastore, 1) := by decide +kernel
theorem dX5_render_184 : decode cX5_render 184 = .ok (.aload_n 0, 1) := by decide +kernel
theorem dX5_render_185 : decode cX5_render 185 = .ok (.getfield 59, 3) := by decide +kernel
theorem dX5_render_188 : decode cX5_render 188 = .ok (.iconst 3, 1) := by decide +kernel
theorem dX5_render_189 : decode cX5_render 189 = .ok (.iload_n 2, 1) := by decide +kernel
theorem dX5_render_190 : decode cX5_render 190 = .ok (.sipush 256, 3) := by decide +kernel
theorem dX5_render_193 : decode cX5_render 193 = .ok (.irem, 1) := by decide +kernel
theorem dX5_render_194 : decode cX5_render 194 = .ok (.iastore, 1) := by decide +kernel
theorem dX5_render_195 : decode cX5_render 195 = .ok (.iconst 4, 1) := by decide +kernel
theorem dX5_render_196 : decode cX5_render 196 = .ok (.istore_n 3, 1) := by decide +kernel
theorem dX5_render_197 : decode cX5_render 197 = .ok (.iconst 0, 1) := by decide +kernel
theorem dX5_render_198 : decode cX5_render 198 = .ok (.istore 4, 2) := by decide +kernel
theorem dX5_render_200 : decode cX5_render 200 = .ok (.iload 4, 2) := by decide +kernel
theorem dX5_render_202 : decode cX5_render 202 = .ok (.aload_n 0, 1) := by decide +kernel
theorem dX5_render_203 : decode cX5_render 203 = .ok (.getfield 35, 3) := by decide +kernel
theorem dX5_render_206 : decode cX5_render 206 = .ok (.iload_n 1, 1) := by decide +kernel
theorem dX5_render_207 : decode cX5_render 207 = .ok (.iaload, 1) := by decide +kernel
theorem dX5_render_208 : decode cX5_render 208 = .ok (.if_icmp .ge 125, 3) := by decide +kernel
theorem dX5_render_211 : decode cX5_render 211 = .ok (.bipush 90, 2) := by decide +kernel
theorem dX5_render_213 : decode cX5_render 213 = .ok (.iload_n 1, 1) := by decide +kernel
theorem dX5_render_214 : decode cX5_render 214 = .ok (.imul, 1) := by decide +kernel
theorem dX5_render_215 : decode cX5_render 215 = .ok (.iload 4, 2) := by decide +kernel
theorem dX5_render_217 : decode cX5_render 217 = .ok (.iadd, 1) := by decide +kernel
theorem dX5_render_218 : decode cX5_render 218 = .ok (.istore 5, 2) := by decide +kernel
theorem dX5_render_220 : decode cX5_render 220 = .ok (.aload_n 0, 1) := by decide +kernel
theorem dX5_render_221 : decode cX5_render 221 = .ok (.getfield 59, 3) := by decide +kernel
theorem dX5_render_224 : decode cX5_render 224 = .ok (.iload_n 3, 1) := by decide +kernel
theorem dX5_render_225 : decode cX5_render 225 = .ok (.aload_n 0, 1) := by decide +kernel
theorem dX5_render_226 : decode cX5_render 226 = .ok (.getfield 38, 3) := by decide +kernel
theorem dX5_render_229 : decode cX5_render 229 = .ok (.iload 5, 2) := by decide +kernel
theorem dX5_render_231 : decode cX5_render 231 = .ok (.iaload, 1) := by decide +kernel
theorem dX5_render_232 : decode cX5_render 232 = .ok (.iastore, 1) := by decide +kernel
theorem dX5_render_233 : decode cX5_render 233 = .ok (.aload_n 0, 1) := by decide +kernel
theorem dX5_render_234 : decode cX5_render 234 = .ok (.getfield 59, 3) := by decide +kernel
theorem dX5_render_237 : decode cX5_render 237 = .ok (.iload_n 3, 1) := by decide +kernel
theorem dX5_render_238 : decode cX5_render 238 = .ok (.iconst 1, 1) := by decide +kernel
theorem dX5_render_239 : decode cX5_render 239 = .ok (.iadd, 1) := by decide +kernel
theorem dX5_render_240 : decode cX5_render 240 = .ok (.aload_n 0, 1) := by decide +kernel
theorem dX5_render_241 : decode cX5_render 241 = .ok (.getfield 41, 3) := by decide +kernel
theorem dX5_render_244 : decode cX5_render 244 = .ok (.iload 5, 2) := by decide +kernel
theorem dX5_render_246 : decode cX5_render 246 = .ok (.iaload, 1) := by decide +kernel
theorem dX5_render_247 : decode cX5_render 247 = .ok (.iastore, 1) := by decide +kernel
theorem dX5_render_248 : decode cX5_render 248 = .ok (.iinc 3 2, 3) := by decide +kernel
theorem dX5_render_251 : decode cX5_render 251 = .ok (.iconst 0, 1) := by decide +kernel
theorem dX5_render_252 : decode cX5_render 252 = .ok (.istore 6, 2) := by decide +kernel
theorem dX5_render_254 : decode cX5_render 254 = .ok (.iload 6, 2) := by decide +kernel
theorem dX5_render_256 : decode cX5_render 256 = .ok (.aload_n 0, 1) := by decide +kernel
theorem dX5_render_257 : decode cX5_render 257 = .ok (.getfield 38, 3) := by decide +kernel
theorem dX5_render_260 : decode cX5_render 260 = .ok (.iload 5, 2) := by decide +kernel
theorem dX5_render_262 : decode cX5_render 262 = .ok (.iaload, 1) := by decide +kernel
theorem dX5_render_263 : decode cX5_render 263 = .ok (.if_icmp .ge 26, 3) := by decide +kernel
theorem dX5_render_266 : decode cX5_render 266 = .ok (.aload_n 0, 1) := by decide +kernel
theorem dX5_render_267 : decode cX5_render 267 = .ok (.getfield 59, 3) := by decide +kernel
theorem dX5_render_270 : decode cX5_render 270 = .ok (.iload_n 3, 1) := by decide +kernel
theorem dX5_render_271 : decode cX5_render 271 = .ok (.aload_n 0, 1) := by decide +kernel
theorem dX5_render_272 : decode cX5_render 272 = .ok (.iload 5, 2) := by decide +kernel
theorem dX5_render_274 : decode cX5_render 274 = .ok (.iload 6, 2) := by decide +kernel
theorem dX5_render_276 : decode cX5_render 276 = .ok (.invokevirtual 111, 3) := by decide +kernel
theorem dX5_render_279 : decode cX5_render 279 = .ok (.iastore, 1) := by decide +kernel
theorem dX5_render_280 : decode cX5_render 280 = .ok (.iinc 3 1, 3) := by decide +kernel
theorem dX5_render_283 : decode cX5_render 283 = .ok (.iinc 6 1, 3) := by decide +kernel
theorem dX5_render_286 : decode cX5_render 286 = .ok (.goto (-32), 3) := by decide +kernel
theorem dX5_render_289 : decode cX5_render 289 = .ok (.iconst 0, 1) := by decide +kernel
theorem dX5_render_290 : decode cX5_render 290 = .ok (.istore 6, 2) := by decide +kernel
theorem dX5_render_292 : decode cX5_render 292 = .ok (.iload 6, 2) := by decide +kernel
theorem dX5_render_294 : decode cX5_render 294 = .ok (.aload_n 0, 1) := by decide +kernel
theorem dX5_render_295 : decode cX5_render 295 = .ok (.getfield 41, 3) := by decide +kernel
theorem dX5_render_298 : decode cX5_render 298 = .ok (.iload 5, 2) := by decide +kernel
theorem dX5_render_300 : decode cX5_render 300 = .ok (.iaload, 1) := by decide +kernel
theorem dX5_render_301 : decode cX5_render 301 = .ok (.if_icmp .ge 26, 3) := by decide +kernel
theorem dX5_render_304 : decode cX5_render 304 = .ok (.aload_n 0, 1) := by decide +kernel
theorem dX5_render_305 : decode cX5_render 305 = .ok (.getfield 59, 3) := by decide +kernel
theorem dX5_render_308 : decode cX5_render 308 = .ok (.iload_n 3, 1) := by decide +kernel
theorem dX5_render_309 : decode cX5_render 309 = .ok (.aload_n 0, 1) := by decide +kernel
theorem dX5_render_310 : decode cX5_render 310 = .ok (.iload 5, 2) := by decide +kernel
theorem dX5_render_312 : decode cX5_render 312 = .ok (.iload 6, 2) := by decide +kernel
theorem dX5_render_314 : decode cX5_render 314 = .ok (.invokevirtual 121, 3) := by decide +kernel
theorem dX5_render_317 : decode cX5_render 317 = .ok (.iastore, 1) := by decide +kernel
theorem dX5_render_318 : decode cX5_render 318 = .ok (.iinc 3 1, 3) := by decide +kernel
theorem dX5_render_321 : decode cX5_render 321 = .ok (.iinc 6 1, 3) := by decide +kernel
theorem dX5_render_324 : decode cX5_render 324 = .ok (.goto (-32), 3) := by decide +kernel
theorem dX5_render_327 : decode cX5_render 327 = .ok (.iinc 4 1, 3) := by decide +kernel
theorem dX5_render_330 : decode cX5_render 330 = .ok (.goto (-130), 3) := by decide +kernel
theorem dX5_render_333 : decode cX5_render 333 = .ok (.return_, 1) := by decide +kernel
theorem dX5_writes_0 : decode cX5_writes 0 = .ok (.aload_n 0, 1) := by decide +kernel
theorem dX5_writes_1 : decode cX5_writes 1 = .ok (.getfield 78, 3) := by decide +kernel
theorem dX5_writes_4 : decode cX5_writes 4 = .ok (.ifCond .ne 10, 3) := by decide +kernel
theorem dX5_writes_7 : decode cX5_writes 7 = .ok (.aload_n 0, 1) := by decide +kernel
theorem dX5_writes_8 : decode cX5_writes 8 = .ok (.iconst 1, 1) := by decide +kernel
theorem dX5_writes_9 : decode cX5_writes 9 = .ok (.putfield 81, 3) := by decide +kernel
theorem dX5_writes_12 : decode cX5_writes 12 = .ok (.iconst 0, 1) := by decide +kernel
theorem dX5_writes_13 : decode cX5_writes 13 = .ok (.ireturn, 1) := by decide +kernel
theorem dX5_writes_14 : decode cX5_writes 14 = .ok (.iconst 0, 1) := by decide +kernel
theorem dX5_writes_15 : decode cX5_writes 15 = .ok (.istore_n 2, 1) := by decide +kernel
theorem dX5_writes_16 : decode cX5_writes 16 = .ok (.iload_n 2, 1) := by decide +kernel
theorem dX5_writes_17 : decode cX5_writes 17 = .ok (.sipush 256, 3) := by decide +kernel
theorem dX5_writes_20 : decode cX5_writes 20 = .ok (.if_icmp .ge 28, 3) := by decide +kernel
theorem dX5_writes_23 : decode cX5_writes 23 = .ok (.aload_n 0, 1) := by decide +kernel
theorem dX5_writes_24 : decode cX5_writes 24 = .ok (.getfield 14, 3) := by decide +kernel
theorem dX5_writes_27 : decode cX5_writes 27 = .ok (.sipush 256, 3) := by decide +kernel
theorem dX5_writes_30 : decode cX5_writes 30 = .ok (.iload_n 1, 1) := by decide +kernel
theorem dX5_writes_31 : decode cX5_writes 31 = .ok (.imul, 1) := by decide +kernel
theorem dX5_writes_32 : decode cX5_writes 32 = .ok (.iload_n 2, 1) := by decide +kernel
theorem dX5_writes_33 : decode cX5_writes 33 = .ok (.iadd, 1) := by decide +kernel
theorem dX5_writes_34 : decode cX5_writes 34 = .ok (.aload_n 0, 1) := by decide +kernel
theorem dX5_writes_35 : decode cX5_writes 35 = .ok (.getfield 59, 3) := by decide +kernel
theorem dX5_writes_38 : decode cX5_writes 38 = .ok (.iload_n 2, 1) := by decide +kernel
theorem dX5_writes_39 : decode cX5_writes 39 = .ok (.iaload, 1) := by decide +kernel
theorem dX5_writes_40 : decode cX5_writes 40 = .ok (.i2b, 1) := by decide +kernel
theorem dX5_writes_41 : decode cX5_writes 41 = .ok (.bastore, 1) := by decide +kernel
theorem dX5_writes_42 : decode cX5_writes 42 = .ok (.iinc 2 1, 3) := by decide +kernel
theorem dX5_writes_45 : decode cX5_writes 45 = .ok (.goto (-29), 3) := by decide +kernel
theorem dX5_writes_48 : decode cX5_writes 48 = .ok (.aload_n 0, 1) := by decide +kernel
theorem dX5_writes_49 : decode cX5_writes 49 = .ok (.dup, 1) := by decide +kernel
theorem dX5_writes_50 : decode cX5_writes 50 = .ok (.getfield 75, 3) := by decide +kernel
theorem dX5_writes_53 : decode cX5_writes 53 = .ok (.iconst 1, 1) := by decide +kernel
theorem dX5_writes_54 : decode cX5_writes 54 = .ok (.iadd, 1) := by decide +kernel
theorem dX5_writes_55 : decode cX5_writes 55 = .ok (.putfield 75, 3) := by decide +kernel
theorem dX5_writes_58 : decode cX5_writes 58 = .ok (.aload_n 0, 1) := by decide +kernel
theorem dX5_writes_59 : decode cX5_writes 59 = .ok (.getfield 78, 3) := by decide +kernel
theorem dX5_writes_62 : decode cX5_writes 62 = .ok (.ifCond .le 13, 3) := by decide +kernel
theorem dX5_writes_65 : decode cX5_writes 65 = .ok (.aload_n 0, 1) := by decide +kernel
theorem dX5_writes_66 : decode cX5_writes 66 = .ok (.dup, 1) := by decide +kernel
theorem dX5_writes_67 : decode cX5_writes 67 = .ok (.getfield 78, 3) := by decide +kernel
theorem dX5_writes_70 : decode cX5_writes 70 = .ok (.iconst 1, 1) := by decide +kernel
theorem dX5_writes_71 : decode cX5_writes 71 = .ok (.isub, 1) := by decide +kernel
theorem dX5_writes_72 : decode cX5_writes 72 = .ok (.putfield 78, 3) := by decide +kernel
theorem dX5_writes_75 : decode cX5_writes 75 = .ok (.iconst 1, 1) := by decide +kernel
theorem dX5_writes_76 : decode cX5_writes 76 = .ok (.ireturn, 1) := by decide +kernel
theorem dX5_journal_0 : decode cX5_journal 0 = .ok (.iconst 0, 1) := by decide +kernel
theorem dX5_journal_1 : decode cX5_journal 1 = .ok (.istore_n 2, 1) := by decide +kernel
theorem dX5_journal_2 : decode cX5_journal 2 = .ok (.iload_n 2, 1) := by decide +kernel
theorem dX5_journal_3 : decode cX5_journal 3 = .ok (.sipush 256, 3) := by decide +kernel
theorem dX5_journal_6 : decode cX5_journal 6 = .ok (.if_icmp .ge 40, 3) := by decide +kernel
theorem dX5_journal_9 : decode cX5_journal 9 = .ok (.aload_n 0, 1) := by decide +kernel
theorem dX5_journal_10 : decode cX5_journal 10 = .ok (.getfield 59, 3) := by decide +kernel
theorem dX5_journal_13 : decode cX5_journal 13 = .ok (.iload_n 2, 1) := by decide +kernel
theorem dX5_journal_14 : decode cX5_journal 14 = .ok (.iload_n 2, 1) := by decide +kernel
theorem dX5_journal_15 : decode cX5_journal 15 = .ok (.ifCond .ne 7, 3) := by decide +kernel
theorem dX5_journal_18 : decode cX5_journal 18 = .ok (.iload_n 1, 1) := by decide +kernel
theorem dX5_journal_19 : decode cX5_journal 19 = .ok (.goto 20, 3) := by decide +kernel
theorem dX5_journal_22 : decode cX5_journal 22 = .ok (.iload_n 2, 1) := by decide +kernel
theorem dX5_journal_23 : decode cX5_journal 23 = .ok (.iload_n 1, 1) := by decide +kernel
theorem dX5_journal_24 : decode cX5_journal 24 = .ok (.if_icmp .gt 14, 3) := by decide +kernel
theorem dX5_journal_27 : decode cX5_journal 27 = .ok (.aload_n 0, 1) := by decide +kernel
theorem dX5_journal_28 : decode cX5_journal 28 = .ok (.getfield 62, 3) := by decide +kernel
theorem dX5_journal_31 : decode cX5_journal 31 = .ok (.iload_n 2, 1) := by decide +kernel
theorem dX5_journal_32 : decode cX5_journal 32 = .ok (.iconst 1, 1) := by decide +kernel
theorem dX5_journal_33 : decode cX5_journal 33 = .ok (.isub, 1) := by decide +kernel
theorem dX5_journal_34 : decode cX5_journal 34 = .ok (.iaload, 1) := by decide +kernel
theorem dX5_journal_35 : decode cX5_journal 35 = .ok (.goto 4, 3) := by decide +kernel
theorem dX5_journal_38 : decode cX5_journal 38 = .ok (.iconst 0, 1) := by decide +kernel
theorem dX5_journal_39 : decode cX5_journal 39 = .ok (.iastore, 1) := by decide +kernel
theorem dX5_journal_40 : decode cX5_journal 40 = .ok (.iinc 2 1, 3) := by decide +kernel
theorem dX5_journal_43 : decode cX5_journal 43 = .ok (.goto (-41), 3) := by decide +kernel
theorem dX5_journal_46 : decode cX5_journal 46 = .ok (.return_, 1) := by decide +kernel
theorem dX5_allWritten_0 : decode cX5_allWritten 0 = .ok (.iconst 0, 1) := by decide +kernel
theorem dX5_allWritten_1 : decode cX5_allWritten 1 = .ok (.istore_n 1, 1) := by decide +kernel
theorem dX5_allWritten_2 : decode cX5_allWritten 2 = .ok (.iload_n 1, 1) := by decide +kernel
theorem dX5_allWritten_3 : decode cX5_allWritten 3 = .ok (.aload_n 0, 1) := by decide +kernel
theorem dX5_allWritten_4 : decode cX5_allWritten 4 = .ok (.getfield 124, 3) := by decide +kernel
theorem dX5_allWritten_7 : decode cX5_allWritten 7 = .ok (.if_icmp .ge 31, 3) := by decide +kernel
theorem dX5_allWritten_10 : decode cX5_allWritten 10 = .ok (.aload_n 0, 1) := by decide +kernel
theorem dX5_allWritten_11 : decode cX5_allWritten 11 = .ok (.aload_n 0, 1) := by decide +kernel
theorem dX5_allWritten_12 : decode cX5_allWritten 12 = .ok (.getfield 62, 3) := by decide +kernel
theorem dX5_allWritten_15 : decode cX5_allWritten 15 = .ok (.iload_n 1, 1) := by decide +kernel
theorem dX5_allWritten_16 : decode cX5_allWritten 16 = .ok (.iaload, 1) := by decide +kernel
theorem dX5_allWritten_17 : decode cX5_allWritten 17 = .ok (.invokevirtual 127, 3) := by decide +kernel
theorem dX5_allWritten_20 : decode cX5_allWritten 20 = .ok (.aload_n 0, 1) := by decide +kernel
theorem dX5_allWritten_21 : decode cX5_allWritten 21 = .ok (.iconst 2, 1) := by decide +kernel
theorem dX5_allWritten_22 : decode cX5_allWritten 22 = .ok (.iload_n 1, 1) := by decide +kernel
theorem dX5_allWritten_23 : decode cX5_allWritten 23 = .ok (.iadd, 1) := by decide +kernel
theorem dX5_allWritten_24 : decode cX5_allWritten 24 = .ok (.invokevirtual 130, 3) := by decide +kernel
theorem dX5_allWritten_27 : decode cX5_allWritten 27 = .ok (.ifCond .ne 5, 3) := by decide +kernel
theorem dX5_allWritten_30 : decode cX5_allWritten 30 = .ok (.iconst 0, 1) := by decide +kernel
theorem dX5_allWritten_31 : decode cX5_allWritten 31 = .ok (.ireturn, 1) := by decide +kernel
theorem dX5_allWritten_32 : decode cX5_allWritten 32 = .ok (.iinc 1 1, 3) := by decide +kernel
theorem dX5_allWritten_35 : decode cX5_allWritten 35 = .ok (.goto (-33), 3) := by decide +kernel
theorem dX5_allWritten_38 : decode cX5_allWritten 38 = .ok (.aload_n 0, 1) := by decide +kernel
theorem dX5_allWritten_39 : decode cX5_allWritten 39 = .ok (.aload_n 0, 1) := by decide +kernel
theorem dX5_allWritten_40 : decode cX5_allWritten 40 = .ok (.getfield 124, 3) := by decide +kernel
theorem dX5_allWritten_43 : decode cX5_allWritten 43 = .ok (.invokevirtual 133, 3) := by decide +kernel
theorem dX5_allWritten_46 : decode cX5_allWritten 46 = .ok (.aload_n 0, 1) := by decide +kernel
theorem dX5_allWritten_47 : decode cX5_allWritten 47 = .ok (.iconst 1, 1) := by decide +kernel
theorem dX5_allWritten_48 : decode cX5_allWritten 48 = .ok (.invokevirtual 130, 3) := by decide +kernel
theorem dX5_allWritten_51 : decode cX5_allWritten 51 = .ok (.ifCond .ne 5, 3) := by decide +kernel
theorem dX5_allWritten_54 : decode cX5_allWritten 54 = .ok (.iconst 0, 1) := by decide +kernel
theorem dX5_allWritten_55 : decode cX5_allWritten 55 = .ok (.ireturn, 1) := by decide +kernel
theorem dX5_allWritten_56 : decode cX5_allWritten 56 = .ok (.iconst 0, 1) := by decide +kernel
theorem dX5_allWritten_57 : decode cX5_allWritten 57 = .ok (.istore_n 1, 1) := by decide +kernel
theorem dX5_allWritten_58 : decode cX5_allWritten 58 = .ok (.iload_n 1, 1) := by decide +kernel
theorem dX5_allWritten_59 : decode cX5_allWritten 59 = .ok (.aload_n 0, 1) := by decide +kernel
theorem dX5_allWritten_60 : decode cX5_allWritten 60 = .ok (.getfield 124, 3) := by decide +kernel
theorem dX5_allWritten_63 : decode cX5_allWritten 63 = .ok (.if_icmp .ge 34, 3) := by decide +kernel
theorem dX5_allWritten_66 : decode cX5_allWritten 66 = .ok (.aload_n 0, 1) := by decide +kernel
theorem dX5_allWritten_67 : decode cX5_allWritten 67 = .ok (.aload_n 0, 1) := by decide +kernel
theorem dX5_allWritten_68 : decode cX5_allWritten 68 = .ok (.getfield 62, 3) := by decide +kernel
theorem dX5_allWritten_71 : decode cX5_allWritten 71 = .ok (.iload_n 1, 1) := by decide +kernel
theorem dX5_allWritten_72 : decode cX5_allWritten 72 = .ok (.iaload, 1) := by decide +kernel
theorem dX5_allWritten_73 : decode cX5_allWritten 73 = .ok (.invokevirtual 127, 3) := by decide +kernel
theorem dX5_allWritten_76 : decode cX5_allWritten 76 = .ok (.aload_n 0, 1) := by decide +kernel
theorem dX5_allWritten_77 : decode cX5_allWritten 77 = .ok (.aload_n 0, 1) := by decide +kernel
theorem dX5_allWritten_78 : decode cX5_allWritten 78 = .ok (.getfield 62, 3) := by decide +kernel
theorem dX5_allWritten_81 : decode cX5_allWritten 81 = .ok (.iload_n 1, 1) := by decide +kernel
theorem dX5_allWritten_82 : decode cX5_allWritten 82 = .ok (.iaload, 1) := by decide +kernel
theorem dX5_allWritten_83 : decode cX5_allWritten 83 = .ok (.invokevirtual 130, 3) := by decide +kernel
theorem dX5_allWritten_86 : decode cX5_allWritten 86 = .ok (.ifCond .ne 5, 3) := by decide +kernel
theorem dX5_allWritten_89 : decode cX5_allWritten 89 = .ok (.iconst 0, 1) := by decide +kernel
theorem dX5_allWritten_90 : decode cX5_allWritten 90 = .ok (.ireturn, 1) := by decide +kernel
theorem dX5_allWritten_91 : decode cX5_allWritten 91 = .ok (.iinc 1 1, 3) := by decide +kernel
theorem dX5_allWritten_94 : decode cX5_allWritten 94 = .ok (.goto (-36), 3) := by decide +kernel
theorem dX5_allWritten_97 : decode cX5_allWritten 97 = .ok (.aload_n 0, 1) := by decide +kernel
theorem dX5_allWritten_98 : decode cX5_allWritten 98 = .ok (.iconst 0, 1) := by decide +kernel
theorem dX5_allWritten_99 : decode cX5_allWritten 99 = .ok (.invokevirtual 133, 3) := by decide +kernel
theorem dX5_allWritten_102 : decode cX5_allWritten 102 = .ok (.aload_n 0, 1) := by decide +kernel
theorem dX5_allWritten_103 : decode cX5_allWritten 103 = .ok (.iconst 1, 1) := by decide +kernel
theorem dX5_allWritten_104 : decode cX5_allWritten 104 = .ok (.invokevirtual 130, 3) := by decide +kernel
theorem dX5_allWritten_107 : decode cX5_allWritten 107 = .ok (.ireturn, 1) := by decide +kernel
theorem dX5_changed_0 : decode cX5_changed 0 = .ok (.aload_n 0, 1) := by decide +kernel
theorem dX5_changed_1 : decode cX5_changed 1 = .ok (.invokevirtual 136, 3) := by decide +kernel
theorem dX5_changed_4 : decode cX5_changed 4 = .ok (.ifCond .eq 5, 3) := by decide +kernel
theorem dX5_changed_7 : decode cX5_changed 7 = .ok (.iconst 0, 1) := by decide +kernel
theorem dX5_changed_8 : decode cX5_changed 8 = .ok (.ireturn, 1) := by decide +kernel
theorem dX5_changed_9 : decode cX5_changed 9 = .ok (.aload_n 0, 1) := by decide +kernel
theorem dX5_changed_10 : decode cX5_changed 10 = .ok (.invokevirtual 88, 3) := by decide +kernel
theorem dX5_changed_13 : decode cX5_changed 13 = .ok (.iconst 4, 1) := by decide +kernel
theorem dX5_changed_14 : decode cX5_changed 14 = .ok (.ireturn, 1) := by decide +kernel
theorem dX5_wroteBucket_0 : decode cX5_wroteBucket 0 = .ok (.aload_n 0, 1) := by decide +kernel
theorem dX5_wroteBucket_1 : decode cX5_wroteBucket 1 = .ok (.iload_n 1, 1) := by decide +kernel
theorem dX5_wroteBucket_2 : decode cX5_wroteBucket 2 = .ok (.invokevirtual 127, 3) := by decide +kernel
theorem dX5_wroteBucket_5 : decode cX5_wroteBucket 5 = .ok (.aload_n 0, 1) := by decide +kernel
theorem dX5_wroteBucket_6 : decode cX5_wroteBucket 6 = .ok (.iload_n 1, 1) := by decide +kernel
theorem dX5_wroteBucket_7 : decode cX5_wroteBucket 7 = .ok (.invokevirtual 130, 3) := by decide +kernel
theorem dX5_wroteBucket_10 : decode cX5_wroteBucket 10 = .ok (.ifCond .eq 5, 3) := by decide +kernel
theorem dX5_wroteBucket_13 : decode cX5_wroteBucket 13 = .ok (.iconst 0, 1) := by decide +kernel
theorem dX5_wroteBucket_14 : decode cX5_wroteBucket 14 = .ok (.ireturn, 1) := by decide +kernel
theorem dX5_wroteBucket_15 : decode cX5_wroteBucket 15 = .ok (.aload_n 0, 1) := by decide +kernel
theorem dX5_wroteBucket_16 : decode cX5_wroteBucket 16 = .ok (.invokevirtual 88, 3) := by decide +kernel
theorem dX5_wroteBucket_19 : decode cX5_wroteBucket 19 = .ok (.iconst 4, 1) := by decide +kernel
theorem dX5_wroteBucket_20 : decode cX5_wroteBucket 20 = .ok (.ireturn, 1) := by decide +kernel
theorem dX5_isKey_0 : decode cX5_isKey 0 = .ok (.aload_n 0, 1) := by decide +kernel
theorem dX5_isKey_1 : decode cX5_isKey 1 = .ok (.getfield 38, 3) := by decide +kernel
theorem dX5_isKey_4 : decode cX5_isKey 4 = .ok (.iload_n 1, 1) := by decide +kernel
theorem dX5_isKey_5 : decode cX5_isKey 5 = .ok (.iaload, 1) := by decide +kernel
theorem dX5_isKey_6 : decode cX5_isKey 6 = .ok (.iload_n 2, 1) := by decide +kernel
theorem dX5_isKey_7 : decode cX5_isKey 7 = .ok (.if_icmp .ne 7, 3) := by decide +kernel
theorem dX5_isKey_10 : decode cX5_isKey 10 = .ok (.iconst 1, 1) := by decide +kernel
theorem dX5_isKey_11 : decode cX5_isKey 11 = .ok (.goto 4, 3) := by decide +kernel
theorem dX5_isKey_14 : decode cX5_isKey 14 = .ok (.iconst 0, 1) := by decide +kernel
theorem dX5_isKey_15 : decode cX5_isKey 15 = .ok (.istore_n 3, 1) := by decide +kernel
theorem dX5_isKey_16 : decode cX5_isKey 16 = .ok (.iconst 0, 1) := by decide +kernel
theorem dX5_isKey_17 : decode cX5_isKey 17 = .ok (.istore 4, 2) := by decide +kernel
theorem dX5_isKey_19 : decode cX5_isKey 19 = .ok (.iload 4, 2) := by decide +kernel
theorem dX5_isKey_21 : decode cX5_isKey 21 = .ok (.iload_n 2, 1) := by decide +kernel
theorem dX5_isKey_22 : decode cX5_isKey 22 = .ok (.if_icmp .ge 40, 3) := by decide +kernel
theorem dX5_isKey_25 : decode cX5_isKey 25 = .ok (.iload_n 3, 1) := by decide +kernel
theorem dX5_isKey_26 : decode cX5_isKey 26 = .ok (.ifCond .eq 36, 3) := by decide +kernel
theorem dX5_isKey_29 : decode cX5_isKey 29 = .ok (.aload_n 0, 1) := by decide +kernel
theorem dX5_isKey_30 : decode cX5_isKey 30 = .ok (.iload_n 1, 1) := by decide +kernel
theorem dX5_isKey_31 : decode cX5_isKey 31 = .ok (.iload 4, 2) := by decide +kernel
theorem dX5_isKey_33 : decode cX5_isKey 33 = .ok (.invokevirtual 111, 3) := by decide +kernel
theorem dX5_isKey_36 : decode cX5_isKey 36 = .ok (.aload_n 0, 1) := by decide +kernel
theorem dX5_isKey_37 : decode cX5_isKey 37 = .ok (.getfield 53, 3) := by decide +kernel
theorem dX5_isKey_40 : decode cX5_isKey 40 = .ok (.iload 4, 2) := by decide +kernel
theorem dX5_isKey_42 : decode cX5_isKey 42 = .ok (.baload, 1) := by decide +kernel
theorem dX5_isKey_43 : decode cX5_isKey 43 = .ok (.sipush 255, 3) := by decide +kernel
theorem dX5_isKey_46 : decode cX5_isKey 46 = .ok (.iand, 1) := by decide +kernel
theorem dX5_isKey_47 : decode cX5_isKey 47 = .ok (.if_icmp .ne 7, 3) := by decide +kernel
theorem dX5_isKey_50 : decode cX5_isKey 50 = .ok (.iconst 1, 1) := by decide +kernel
theorem dX5_isKey_51 : decode cX5_isKey 51 = .ok (.goto 4, 3) := by decide +kernel
theorem dX5_isKey_54 : decode cX5_isKey 54 = .ok (.iconst 0, 1) := by decide +kernel
theorem dX5_isKey_55 : decode cX5_isKey 55 = .ok (.istore_n 3, 1) := by decide +kernel
theorem dX5_isKey_56 : decode cX5_isKey 56 = .ok (.iinc 4 1, 3) := by decide +kernel
theorem dX5_isKey_59 : decode cX5_isKey 59 = .ok (.goto (-40), 3) := by decide +kernel
theorem dX5_isKey_62 : decode cX5_isKey 62 = .ok (.iload_n 3, 1) := by decide +kernel
theorem dX5_isKey_63 : decode cX5_isKey 63 = .ok (.ireturn, 1) := by decide +kernel
theorem dX5_bucketOf_0 : decode cX5_bucketOf 0 = .ok (.aload_n 0, 1) := by decide +kernel
theorem dX5_bucketOf_1 : decode cX5_bucketOf 1 = .ok (.getfield 22, 3) := by decide +kernel
theorem dX5_bucketOf_4 : decode cX5_bucketOf 4 = .ok (.aload_n 0, 1) := by decide +kernel
theorem dX5_bucketOf_5 : decode cX5_bucketOf 5 = .ok (.iload_n 1, 1) := by decide +kernel
theorem dX5_bucketOf_6 : decode cX5_bucketOf 6 = .ok (.invokevirtual 140, 3) := by decide +kernel
theorem dX5_bucketOf_9 : decode cX5_bucketOf 9 = .ok (.aload_n 0, 1) := by decide +kernel
theorem dX5_bucketOf_10 : decode cX5_bucketOf 10 = .ok (.getfield 95, 3) := by decide +kernel
theorem dX5_bucketOf_13 : decode cX5_bucketOf 13 = .ok (.invokestatic 143, 3) := by decide +kernel
theorem dX5_bucketOf_16 : decode cX5_bucketOf 16 = .ok (.iaload, 1) := by decide +kernel
theorem dX5_bucketOf_17 : decode cX5_bucketOf 17 = .ok (.ireturn, 1) := by decide +kernel
theorem dX5_find_0 : decode cX5_find 0 = .ok (.iconst 0, 1) := by decide +kernel
theorem dX5_find_1 : decode cX5_find 1 = .ok (.istore_n 3, 1) := by decide +kernel
theorem dX5_find_2 : decode cX5_find 2 = .ok (.iload_n 3, 1) := by decide +kernel
theorem dX5_find_3 : decode cX5_find 3 = .ok (.aload_n 0, 1) := by decide +kernel
theorem dX5_find_4 : decode cX5_find 4 = .ok (.getfield 35, 3) := by decide +kernel
theorem dX5_find_7 : decode cX5_find 7 = .ok (.iload_n 1, 1) := by decide +kernel
theorem dX5_find_8 : decode cX5_find 8 = .ok (.iaload, 1) := by decide +kernel
theorem dX5_find_9 : decode cX5_find 9 = .ok (.if_icmp .ge 25, 3) := by decide +kernel
theorem dX5_find_12 : decode cX5_find 12 = .ok (.aload_n 0, 1) := by decide +kernel
theorem dX5_find_13 : decode cX5_find 13 = .ok (.bipush 90, 2) := by decide +kernel
theorem dX5_find_15 : decode cX5_find 15 = .ok (.iload_n 1, 1) := by decide +kernel
theorem dX5_find_16 : decode cX5_find 16 = .ok (.imul, 1) := by decide +kernel
theorem dX5_find_17 : decode cX5_find 17 = .ok (.iload_n 3, 1) := by decide +kernel
theorem dX5_find_18 : decode cX5_find 18 = .ok (.iadd, 1) := by decide +kernel
theorem dX5_find_19 : decode cX5_find 19 = .ok (.iload_n 2, 1) := by decide +kernel
theorem dX5_find_20 : decode cX5_find 20 = .ok (.invokevirtual 146, 3) := by decide +kernel
theorem dX5_find_23 : decode cX5_find 23 = .ok (.ifCond .eq 5, 3) := by decide +kernel
theorem dX5_find_26 : decode cX5_find 26 = .ok (.iload_n 3, 1) := by decide +kernel
theorem dX5_find_27 : decode cX5_find 27 = .ok (.ireturn, 1) := by decide +kernel
theorem dX5_find_28 : decode cX5_find 28 = .ok (.iinc 3 1, 3) := by decide +kernel
theorem dX5_find_31 : decode cX5_find 31 = .ok (.goto (-29), 3) := by decide +kernel
theorem dX5_find_34 : decode cX5_find 34 = .ok (.iconst (-1), 1) := by decide +kernel
theorem dX5_find_35 : decode cX5_find 35 = .ok (.ireturn, 1) := by decide +kernel
theorem dX5_free_0 : decode cX5_free 0 = .ok (.iload_n 1, 1) := by decide +kernel
theorem dX5_free_1 : decode cX5_free 1 = .ok (.istore_n 2, 1) := by decide +kernel
theorem dX5_free_2 : decode cX5_free 2 = .ok (.iload_n 2, 1) := by decide +kernel
theorem dX5_free_3 : decode cX5_free 3 = .ok (.aload_n 0, 1) := by decide +kernel
theorem dX5_free_4 : decode cX5_free 4 = .ok (.getfield 69, 3) := by decide +kernel
theorem dX5_free_7 : decode cX5_free 7 = .ok (.if_icmp .ge 38, 3) := by decide +kernel
theorem dX5_free_10 : decode cX5_free 10 = .ok (.iload_n 2, 1) := by decide +kernel
theorem dX5_free_11 : decode cX5_free 11 = .ok (.aload_n 0, 1) := by decide +kernel
theorem dX5_free_12 : decode cX5_free 12 = .ok (.getfield 72, 3) := by decide +kernel
theorem dX5_free_15 : decode cX5_free 15 = .ok (.iconst 2, 1) := by decide +kernel
theorem dX5_free_16 : decode cX5_free 16 = .ok (.iadd, 1) := by decide +kernel
theorem dX5_free_17 : decode cX5_free 17 = .ok (.if_icmp .lt 22, 3) := by decide +kernel
theorem dX5_free_20 : decode cX5_free 20 = .ok (.aload_n 0, 1) := by decide +kernel
theorem dX5_free_21 : decode cX5_free 21 = .ok (.getfield 28, 3) := by decide +kernel
theorem dX5_free_24 : decode cX5_free 24 = .ok (.iload_n 2, 1) := by decide +kernel
theorem dX5_free_25 : decode cX5_free 25 = .ok (.baload, 1) := by decide +kernel
theorem dX5_free_26 : decode cX5_free 26 = .ok (.ifCond .ne 13, 3) := by decide +kernel
theorem dX5_free_29 : decode cX5_free 29 = .ok (.aload_n 0, 1) := by decide +kernel
theorem dX5_free_30 : decode cX5_free 30 = .ok (.iload_n 2, 1) := by decide +kernel
theorem dX5_free_31 : decode cX5_free 31 = .ok (.invokevirtual 101, 3) := by decide +kernel
theorem dX5_free_34 : decode cX5_free 34 = .ok (.ifCond .ne 5, 3) := by decide +kernel
theorem dX5_free_37 : decode cX5_free 37 = .ok (.iload_n 2, 1) := by decide +kernel
theorem dX5_free_38 : decode cX5_free 38 = .ok (.ireturn, 1) := by decide +kernel
theorem dX5_free_39 : decode cX5_free 39 = .ok (.iinc 2 1, 3) := by decide +kernel
theorem dX5_free_42 : decode cX5_free 42 = .ok (.goto (-40), 3) := by decide +kernel
theorem dX5_free_45 : decode cX5_free 45 = .ok (.iconst (-1), 1) := by decide +kernel
theorem dX5_free_46 : decode cX5_free 46 = .ok (.ireturn, 1) := by decide +kernel
theorem dX5_copyRecord_0 : decode cX5_copyRecord 0 = .ok (.aload_n 0, 1) := by decide +kernel
theorem dX5_copyRecord_1 : decode cX5_copyRecord 1 = .ok (.getfield 38, 3) := by decide +kernel
theorem dX5_copyRecord_4 : decode cX5_copyRecord 4 = .ok (.iload_n 2, 1) := by decide +kernel
theorem dX5_copyRecord_5 : decode cX5_copyRecord 5 = .ok (.aload_n 0, 1) := by decide +kernel
theorem dX5_copyRecord_6 : decode cX5_copyRecord 6 = .ok (.getfield 38, 3) := by decide +kernel
theorem dX5_copyRecord_9 : decode cX5_copyRecord 9 = .ok (.iload_n 1, 1) := by decide +kernel
theorem dX5_copyRecord_10 : decode cX5_copyRecord 10 = .ok (.iaload, 1) := by decide +kernel
theorem dX5_copyRecord_11 : decode cX5_copyRecord 11 = .ok (.iastore, 1) := by decide +kernel
theorem dX5_copyRecord_12 : decode cX5_copyRecord 12 = .ok (.aload_n 0, 1) := by decide +kernel
theorem dX5_copyRecord_13 : decode cX5_copyRecord 13 = .ok (.getfield 41, 3) := by decide +kernel
theorem dX5_copyRecord_16 : decode cX5_copyRecord 16 = .ok (.iload_n 2, 1) := by decide +kernel
theorem dX5_copyRecord_17 : decode cX5_copyRecord 17 = .ok (.aload_n 0, 1) := by decide +kernel
theorem dX5_copyRecord_18 : decode cX5_copyRecord 18 = .ok (.getfield 41, 3) := by decide +kernel
theorem dX5_copyRecord_21 : decode cX5_copyRecord 21 = .ok (.iload_n 1, 1) := by decide +kernel
theorem dX5_copyRecord_22 : decode cX5_copyRecord 22 = .ok (.iaload, 1) := by decide +kernel
theorem dX5_copyRecord_23 : decode cX5_copyRecord 23 = .ok (.iastore, 1) := by decide +kernel
theorem dX5_copyRecord_24 : decode cX5_copyRecord 24 = .ok (.iconst 0, 1) := by decide +kernel
theorem dX5_copyRecord_25 : decode cX5_copyRecord 25 = .ok (.istore_n 3, 1) := by decide +kernel
theorem dX5_copyRecord_26 : decode cX5_copyRecord 26 = .ok (.iload_n 3, 1) := by decide +kernel
theorem dX5_copyRecord_27 : decode cX5_copyRecord 27 = .ok (.iconst 2, 1) := by decide +kernel
theorem dX5_copyRecord_28 : decode cX5_copyRecord 28 = .ok (.if_icmp .ge 29, 3) := by decide +kernel
theorem dX5_copyRecord_31 : decode cX5_copyRecord 31 = .ok (.aload_n 0, 1) := by decide +kernel
theorem dX5_copyRecord_32 : decode cX5_copyRecord 32 = .ok (.getfield 45, 3) := by decide +kernel
theorem dX5_copyRecord_35 : decode cX5_copyRecord 35 = .ok (.iconst 2, 1) := by decide +kernel
theorem dX5_copyRecord_36 : decode cX5_copyRecord 36 = .ok (.iload_n 2, 1) := by decide +kernel
theorem dX5_copyRecord_37 : decode cX5_copyRecord 37 = .ok (.imul, 1) := by decide +kernel
theorem dX5_copyRecord_38 : decode cX5_copyRecord 38 = .ok (.iload_n 3, 1) := by decide +kernel
theorem dX5_copyRecord_39 : decode cX5_copyRecord 39 = .ok (.iadd, 1) := by decide +kernel
theorem dX5_copyRecord_40 : decode cX5_copyRecord 40 = .ok (.aload_n 0, 1) := by decide +kernel
theorem dX5_copyRecord_41 : decode cX5_copyRecord 41 = .ok (.getfield 45, 3) := by decide +kernel
theorem dX5_copyRecord_44 : decode cX5_copyRecord 44 = .ok (.iconst 2, 1) := by decide +kernel
theorem dX5_copyRecord_45 : decode cX5_copyRecord 45 = .ok (.iload_n 1, 1) := by decide +kernel
theorem dX5_copyRecord_46 : decode cX5_copyRecord 46 = .ok (.imul, 1) := by decide +kernel
theorem dX5_copyRecord_47 : decode cX5_copyRecord 47 = .ok (.iload_n 3, 1) := by decide +kernel
theorem dX5_copyRecord_48 : decode cX5_copyRecord 48 = .ok (.iadd, 1) := by decide +kernel
theorem dX5_copyRecord_49 : decode cX5_copyRecord 49 = .ok (.laload, 1) := by decide +kernel
theorem dX5_copyRecord_50 : decode cX5_copyRecord 50 = .ok (.lastore, 1) := by decide +kernel
theorem dX5_copyRecord_51 : decode cX5_copyRecord 51 = .ok (.iinc 3 1, 3) := by decide +kernel
theorem dX5_copyRecord_54 : decode cX5_copyRecord 54 = .ok (.goto (-28), 3) := by decide +kernel
theorem dX5_copyRecord_57 : decode cX5_copyRecord 57 = .ok (.iconst 0, 1) := by decide +kernel
theorem dX5_copyRecord_58 : decode cX5_copyRecord 58 = .ok (.istore_n 3, 1) := by decide +kernel
theorem dX5_copyRecord_59 : decode cX5_copyRecord 59 = .ok (.iload_n 3, 1) := by decide +kernel
theorem dX5_copyRecord_60 : decode cX5_copyRecord 60 = .ok (.iconst 4, 1) := by decide +kernel
theorem dX5_copyRecord_61 : decode cX5_copyRecord 61 = .ok (.if_icmp .ge 29, 3) := by decide +kernel
theorem dX5_copyRecord_64 : decode cX5_copyRecord 64 = .ok (.aload_n 0, 1) := by decide +kernel
theorem dX5_copyRecord_65 : decode cX5_copyRecord 65 = .ok (.getfield 50, 3) := by decide +kernel
theorem dX5_copyRecord_68 : decode cX5_copyRecord 68 = .ok (.iconst 4, 1) := by decide +kernel
theorem dX5_copyRecord_69 : decode cX5_copyRecord 69 = .ok (.iload_n 2, 1) := by decide +kernel
theorem dX5_copyRecord_70 : decode cX5_copyRecord 70 = .ok (.imul, 1) := by decide +kernel
theorem dX5_copyRecord_71 : decode cX5_copyRecord 71 = .ok (.iload_n 3, 1) := by decide +kernel
theorem dX5_copyRecord_72 : decode cX5_copyRecord 72 = .ok (.iadd, 1) := by decide +kernel
theorem dX5_copyRecord_73 : decode cX5_copyRecord 73 = .ok (.aload_n 0, 1) := by decide +kernel
theorem dX5_copyRecord_74 : decode cX5_copyRecord 74 = .ok (.getfield 50, 3) := by decide +kernel
theorem dX5_copyRecord_77 : decode cX5_copyRecord 77 = .ok (.iconst 4, 1) := by decide +kernel
theorem dX5_copyRecord_78 : decode cX5_copyRecord 78 = .ok (.iload_n 1, 1) := by decide +kernel
theorem dX5_copyRecord_79 : decode cX5_copyRecord 79 = .ok (.imul, 1) := by decide +kernel
theorem dX5_copyRecord_80 : decode cX5_copyRecord 80 = .ok (.iload_n 3, 1) := by decide +kernel
theorem dX5_copyRecord_81 : decode cX5_copyRecord 81 = .ok (.iadd, 1) := by decide +kernel
theorem dX5_copyRecord_82 : decode cX5_copyRecord 82 = .ok (.laload, 1) := by decide +kernel
theorem dX5_copyRecord_83 : decode cX5_copyRecord 83 = .ok (.lastore, 1) := by decide +kernel
theorem dX5_copyRecord_84 : decode cX5_copyRecord 84 = .ok (.iinc 3 1, 3) := by decide +kernel
theorem dX5_copyRecord_87 : decode cX5_copyRecord 87 = .ok (.goto (-28), 3) := by decide +kernel
theorem dX5_copyRecord_90 : decode cX5_copyRecord 90 = .ok (.return_, 1) := by decide +kernel
theorem dX5_drop_0 : decode cX5_drop 0 = .ok (.aload_n 0, 1) := by decide +kernel
theorem dX5_drop_1 : decode cX5_drop 1 = .ok (.getfield 35, 3) := by decide +kernel
theorem dX5_drop_4 : decode cX5_drop 4 = .ok (.iload_n 1, 1) := by decide +kernel
theorem dX5_drop_5 : decode cX5_drop 5 = .ok (.dup2, 1) := by decide +kernel
theorem dX5_drop_6 : decode cX5_drop 6 = .ok (.iaload, 1) := by decide +kernel
theorem dX5_drop_7 : decode cX5_drop 7 = .ok (.iconst 1, 1) := by decide +kernel
theorem dX5_drop_8 : decode cX5_drop 8 = .ok (.isub, 1) := by decide +kernel
theorem dX5_drop_9 : decode cX5_drop 9 = .ok (.iastore, 1) := by decide +kernel
theorem dX5_drop_10 : decode cX5_drop 10 = .ok (.iload_n 2, 1) := by decide +kernel
theorem dX5_drop_11 : decode cX5_drop 11 = .ok (.istore_n 3, 1) := by decide +kernel
theorem dX5_drop_12 : decode cX5_drop 12 = .ok (.iload_n 3, 1) := by decide +kernel
theorem dX5_drop_13 : decode cX5_drop 13 = .ok (.aload_n 0, 1) := by decide +kernel
theorem dX5_drop_14 : decode cX5_drop 14 = .ok (.getfield 35, 3) := by decide +kernel
theorem dX5_drop_17 : decode cX5_drop 17 = .ok (.iload_n 1, 1) := by decide +kernel
theorem dX5_drop_18 : decode cX5_drop 18 = .ok (.iaload, 1) := by decide +kernel
theorem dX5_drop_19 : decode cX5_drop 19 = .ok (.if_icmp .ge 27, 3) := by decide +kernel
theorem dX5_drop_22 : decode cX5_drop 22 = .ok (.aload_n 0, 1) := by decide +kernel
theorem dX5_drop_23 : decode cX5_drop 23 = .ok (.bipush 90, 2) := by decide +kernel
theorem dX5_drop_25 : decode cX5_drop 25 = .ok (.iload_n 1, 1) := by decide +kernel
theorem dX5_drop_26 : decode cX5_drop 26 = .ok (.imul, 1) := by decide +kernel
theorem dX5_drop_27 : decode cX5_drop 27 = .ok (.iload_n 3, 1) := by decide +kernel
theorem dX5_drop_28 : decode cX5_drop 28 = .ok (.iadd, 1) := by decide +kernel
theorem dX5_drop_29 : decode cX5_drop 29 = .ok (.iconst 1, 1) := by decide +kernel
theorem dX5_drop_30 : decode cX5_drop 30 = .ok (.iadd, 1) := by decide +kernel
theorem dX5_drop_31 : decode cX5_drop 31 = .ok (.bipush 90, 2) := by decide +kernel
theorem dX5_drop_33 : decode cX5_drop 33 = .ok (.iload_n 1, 1) := by decide +kernel
theorem dX5_drop_34 : decode cX5_drop 34 = .ok (.imul, 1) := by decide +kernel
theorem dX5_drop_35 : decode cX5_drop 35 = .ok (.iload_n 3, 1) := by decide +kernel
theorem dX5_drop_36 : decode cX5_drop 36 = .ok (.iadd, 1) := by decide +kernel
theorem dX5_drop_37 : decode cX5_drop 37 = .ok (.invokevirtual 150, 3) := by decide +kernel
theorem dX5_drop_40 : decode cX5_drop 40 = .ok (.iinc 3 1, 3) := by decide +kernel
theorem dX5_drop_43 : decode cX5_drop 43 = .ok (.goto (-31), 3) := by decide +kernel
theorem dX5_drop_46 : decode cX5_drop 46 = .ok (.return_, 1) := by decide +kernel
theorem dX5_doubles_0 : decode cX5_doubles 0 = .ok (.iconst 2, 1) := by decide +kernel
theorem dX5_doubles_1 : decode cX5_doubles 1 = .ok (.aload_n 0, 1) := by decide +kernel
theorem dX5_doubles_2 : decode cX5_doubles 2 = .ok (.getfield 95, 3) := by decide +kernel
theorem dX5_doubles_5 : decode cX5_doubles 5 = .ok (.ishl, 1) := by decide +kernel
theorem dX5_doubles_6 : decode cX5_doubles 6 = .ok (.sipush 255, 3) := by decide +kernel
theorem dX5_doubles_9 : decode cX5_doubles 9 = .ok (.iadd, 1) := by decide +kernel
theorem dX5_doubles_10 : decode cX5_doubles 10 = .ok (.sipush 256, 3) := by decide +kernel
theorem dX5_doubles_13 : decode cX5_doubles 13 = .ok (.idiv, 1) := by decide +kernel
theorem dX5_doubles_14 : decode cX5_doubles 14 = .ok (.istore_n 1, 1) := by decide +kernel
theorem dX5_doubles_15 : decode cX5_doubles 15 = .ok (.aload_n 0, 1) := by decide +kernel
theorem dX5_doubles_16 : decode cX5_doubles 16 = .ok (.getfield 98, 3) := by decide +kernel
theorem dX5_doubles_19 : decode cX5_doubles 19 = .ok (.istore_n 2, 1) := by decide +kernel
theorem dX5_doubles_20 : decode cX5_doubles 20 = .ok (.aload_n 0, 1) := by decide +kernel
theorem dX5_doubles_21 : decode cX5_doubles 21 = .ok (.getfield 72, 3) := by decide +kernel
theorem dX5_doubles_24 : decode cX5_doubles 24 = .ok (.iconst 2, 1) := by decide +kernel
theorem dX5_doubles_25 : decode cX5_doubles 25 = .ok (.iadd, 1) := by decide +kernel
theorem dX5_doubles_26 : decode cX5_doubles 26 = .ok (.istore_n 3, 1) := by decide +kernel
theorem dX5_doubles_27 : decode cX5_doubles 27 = .ok (.iload_n 2, 1) := by decide +kernel
theorem dX5_doubles_28 : decode cX5_doubles 28 = .ok (.iload_n 1, 1) := by decide +kernel
theorem dX5_doubles_29 : decode cX5_doubles 29 = .ok (.if_icmp .ge 37, 3) := by decide +kernel
theorem dX5_doubles_32 : decode cX5_doubles 32 = .ok (.aload_n 0, 1) := by decide +kernel
theorem dX5_doubles_33 : decode cX5_doubles 33 = .ok (.iload_n 3, 1) := by decide +kernel
theorem dX5_doubles_34 : decode cX5_doubles 34 = .ok (.invokevirtual 153, 3) := by decide +kernel
theorem dX5_doubles_37 : decode cX5_doubles 37 = .ok (.istore 4, 2) := by decide +kernel
theorem dX5_doubles_39 : decode cX5_doubles 39 = .ok (.iload 4, 2) := by decide +kernel
theorem dX5_doubles_41 : decode cX5_doubles 41 = .ok (.iconst (-1), 1) := by decide +kernel
theorem dX5_doubles_42 : decode cX5_doubles 42 = .ok (.if_icmp .ne 5, 3) := by decide +kernel
theorem dX5_doubles_45 : decode cX5_doubles 45 = .ok (.iconst 1, 1) := by decide +kernel
theorem dX5_doubles_46 : decode cX5_doubles 46 = .ok (.ireturn, 1) := by decide +kernel
theorem dX5_doubles_47 : decode cX5_doubles 47 = .ok (.aload_n 0, 1) := by decide +kernel
theorem dX5_doubles_48 : decode cX5_doubles 48 = .ok (.getfield 18, 3) := by decide +kernel
theorem dX5_doubles_51 : decode cX5_doubles 51 = .ok (.iload_n 2, 1) := by decide +kernel
theorem dX5_doubles_52 : decode cX5_doubles 52 = .ok (.iload 4, 2) := by decide +kernel
theorem dX5_doubles_54 : decode cX5_doubles 54 = .ok (.iastore, 1) := by decide +kernel
theorem dX5_doubles_55 : decode cX5_doubles 55 = .ok (.iinc 2 1, 3) := by decide +kernel
theorem dX5_doubles_58 : decode cX5_doubles 58 = .ok (.iload 4, 2) := by decide +kernel
theorem dX5_doubles_60 : decode cX5_doubles 60 = .ok (.iconst 1, 1) := by decide +kernel
theorem dX5_doubles_61 : decode cX5_doubles 61 = .ok (.iadd, 1) := by decide +kernel
theorem dX5_doubles_62 : decode cX5_doubles 62 = .ok (.istore_n 3, 1) := by decide +kernel
theorem dX5_doubles_63 : decode cX5_doubles 63 = .ok (.goto (-36), 3) := by decide +kernel
theorem dX5_doubles_66 : decode cX5_doubles 66 = .ok (.iload_n 1, 1) := by decide +kernel
theorem dX5_doubles_67 : decode cX5_doubles 67 = .ok (.iconst 1, 1) := by decide +kernel
theorem dX5_doubles_68 : decode cX5_doubles 68 = .ok (.iadd, 1) := by decide +kernel
theorem dX5_doubles_69 : decode cX5_doubles 69 = .ok (.aload_n 0, 1) := by decide +kernel
theorem dX5_doubles_70 : decode cX5_doubles 70 = .ok (.getfield 72, 3) := by decide +kernel
theorem dX5_doubles_73 : decode cX5_doubles 73 = .ok (.if_icmp .le 5, 3) := by decide +kernel
theorem dX5_doubles_76 : decode cX5_doubles 76 = .ok (.iconst 2, 1) := by decide +kernel
theorem dX5_doubles_77 : decode cX5_doubles 77 = .ok (.ireturn, 1) := by decide +kernel
theorem dX5_doubles_78 : decode cX5_doubles 78 = .ok (.iconst 0, 1) := by decide +kernel
theorem dX5_doubles_79 : decode cX5_doubles 79 = .ok (.istore 4, 2) := by decide +kernel
theorem dX5_doubles_81 : decode cX5_doubles 81 = .ok (.iload 4, 2) := by decide +kernel
theorem dX5_doubles_83 : decode cX5_doubles 83 = .ok (.iconst 2, 1) := by decide +kernel
theorem dX5_doubles_84 : decode cX5_doubles 84 = .ok (.aload_n 0, 1) := by decide +kernel
theorem dX5_doubles_85 : decode cX5_doubles 85 = .ok (.getfield 95, 3) := by decide +kernel
theorem dX5_doubles_88 : decode cX5_doubles 88 = .ok (.ishl, 1) := by decide +kernel
theorem dX5_doubles_89 : decode cX5_doubles 89 = .ok (.if_icmp .ge 25, 3) := by decide +kernel
theorem dX5_doubles_92 : decode cX5_doubles 92 = .ok (.aload_n 0, 1) := by decide +kernel
theorem dX5_doubles_93 : decode cX5_doubles 93 = .ok (.getfield 25, 3) := by decide +kernel
theorem dX5_doubles_96 : decode cX5_doubles 96 = .ok (.iload 4, 2) := by decide +kernel
theorem dX5_doubles_98 : decode cX5_doubles 98 = .ok (.aload_n 0, 1) := by decide +kernel
theorem dX5_doubles_99 : decode cX5_doubles 99 = .ok (.getfield 22, 3) := by decide +kernel
theorem dX5_doubles_102 : decode cX5_doubles 102 = .ok (.iload 4, 2) := by decide +kernel
theorem dX5_doubles_104 : decode cX5_doubles 104 = .ok (.iconst 2, 1) := by decide +kernel
theorem dX5_doubles_105 : decode cX5_doubles 105 = .ok (.idiv, 1) := by decide +kernel
theorem dX5_doubles_106 : decode cX5_doubles 106 = .ok (.iaload, 1) := by decide +kernel
theorem dX5_doubles_107 : decode cX5_doubles 107 = .ok (.iastore, 1) := by decide +kernel
theorem dX5_doubles_108 : decode cX5_doubles 108 = .ok (.iinc 4 1, 3) := by decide +kernel
theorem dX5_doubles_111 : decode cX5_doubles 111 = .ok (.goto (-30), 3) := by decide +kernel
theorem dX5_doubles_114 : decode cX5_doubles 114 = .ok (.aload_n 0, 1) := by decide +kernel
theorem dX5_doubles_115 : decode cX5_doubles 115 = .ok (.dup, 1) := by decide +kernel
theorem dX5_doubles_116 : decode cX5_doubles 116 = .ok (.getfield 95, 3) := by decide +kernel
theorem dX5_doubles_119 : decode cX5_doubles 119 = .ok (.iconst 1, 1) := by decide +kernel
theorem dX5_doubles_120 : decode cX5_doubles 120 = .ok (.iadd, 1) := by decide +kernel
theorem dX5_doubles_121 : decode cX5_doubles 121 = .ok (.putfield 95, 3) := by decide +kernel
theorem dX5_doubles_124 : decode cX5_doubles 124 = .ok (.aload_n 0, 1) := by decide +kernel
theorem dX5_doubles_125 : decode cX5_doubles 125 = .ok (.iload_n 1, 1) := by decide +kernel
theorem dX5_doubles_126 : decode cX5_doubles 126 = .ok (.putfield 98, 3) := by decide +kernel
theorem dX5_doubles_129 : decode cX5_doubles 129 = .ok (.iconst 0, 1) := by decide +kernel
theorem dX5_doubles_130 : decode cX5_doubles 130 = .ok (.istore 4, 2) := by decide +kernel
theorem dX5_doubles_132 : decode cX5_doubles 132 = .ok (.iload 4, 2) := by decide +kernel
theorem dX5_doubles_134 : decode cX5_doubles 134 = .ok (.iconst 1, 1) := by decide +kernel
theorem dX5_doubles_135 : decode cX5_doubles 135 = .ok (.aload_n 0, 1) := by decide +kernel
theorem dX5_doubles_136 : decode cX5_doubles 136 = .ok (.getfield 95, 3) := by decide +kernel
theorem dX5_doubles_139 : decode cX5_doubles 139 = .ok (.ishl, 1) := by decide +kernel
theorem dX5_doubles_140 : decode cX5_doubles 140 = .ok (.if_icmp .ge 23, 3) := by decide +kernel
theorem dX5_doubles_143 : decode cX5_doubles 143 = .ok (.aload_n 0, 1) := by decide +kernel
theorem dX5_doubles_144 : decode cX5_doubles 144 = .ok (.getfield 22, 3) := by decide +kernel
theorem dX5_doubles_147 : decode cX5_doubles 147 = .ok (.iload 4, 2) := by decide +kernel
theorem dX5_doubles_149 : decode cX5_doubles 149 = .ok (.aload_n 0, 1) := by decide +kernel
theorem dX5_doubles_150 : decode cX5_doubles 150 = .ok (.getfield 25, 3) := by decide +kernel
theorem dX5_doubles_153 : decode cX5_doubles 153 = .ok (.iload 4, 2) := by decide +kernel
theorem dX5_doubles_155 : decode cX5_doubles 155 = .ok (.iaload, 1) := by decide +kernel
theorem dX5_doubles_156 : decode cX5_doubles 156 = .ok (.iastore, 1) := by decide +kernel
theorem dX5_doubles_157 : decode cX5_doubles 157 = .ok (.iinc 4 1, 3) := by decide +kernel
theorem dX5_doubles_160 : decode cX5_doubles 160 = .ok (.goto (-28), 3) := by decide +kernel
theorem dX5_doubles_163 : decode cX5_doubles 163 = .ok (.iconst 0, 1) := by decide +kernel
theorem dX5_doubles_164 : decode cX5_doubles 164 = .ok (.istore 4, 2) := by decide +kernel
theorem dX5_doubles_166 : decode cX5_doubles 166 = .ok (.iload 4, 2) := by decide +kernel
theorem dX5_doubles_168 : decode cX5_doubles 168 = .ok (.aload_n 0, 1) := by decide +kernel
theorem dX5_doubles_169 : decode cX5_doubles 169 = .ok (.getfield 98, 3) := by decide +kernel
theorem dX5_doubles_172 : decode cX5_doubles 172 = .ok (.if_icmp .ge 23, 3) := by decide +kernel
theorem dX5_doubles_175 : decode cX5_doubles 175 = .ok (.aload_n 0, 1) := by decide +kernel
theorem dX5_doubles_176 : decode cX5_doubles 176 = .ok (.getfield 62, 3) := by decide +kernel
theorem dX5_doubles_179 : decode cX5_doubles 179 = .ok (.iload 4, 2) := by decide +kernel
theorem dX5_doubles_181 : decode cX5_doubles 181 = .ok (.aload_n 0, 1) := by decide +kernel
theorem dX5_doubles_182 : decode cX5_doubles 182 = .ok (.getfield 18, 3) := by decide +kernel
theorem dX5_doubles_185 : decode cX5_doubles 185 = .ok (.iload 4, 2) := by decide +kernel
theorem dX5_doubles_187 : decode cX5_doubles 187 = .ok (.iaload, 1) := by decide +kernel
theorem dX5_doubles_188 : decode cX5_doubles 188 = .ok (.iastore, 1) := by decide +kernel
theorem dX5_doubles_189 : decode cX5_doubles 189 = .ok (.iinc 4 1, 3) := by decide +kernel
theorem dX5_doubles_192 : decode cX5_doubles 192 = .ok (.goto (-26), 3) := by decide +kernel
theorem dX5_doubles_195 : decode cX5_doubles 195 = .ok (.aload_n 0, 1) := by decide +kernel
theorem dX5_doubles_196 : decode cX5_doubles 196 = .ok (.getfield 62, 3) := by decide +kernel
theorem dX5_doubles_199 : decode cX5_doubles 199 = .ok (.aload_n 0, 1) := by decide +kernel
theorem dX5_doubles_200 : decode cX5_doubles 200 = .ok (.getfield 98, 3) := by decide +kernel
theorem dX5_doubles_203 : decode cX5_doubles 203 = .ok (.iconst 0, 1) := by decide +kernel
theorem dX5_doubles_204 : decode cX5_doubles 204 = .ok (.iastore, 1) := by decide +kernel
theorem dX5_doubles_205 : decode cX5_doubles 205 = .ok (.aload_n 0, 1) := by decide +kernel
theorem dX5_doubles_206 : decode cX5_doubles 206 = .ok (.aload_n 0, 1) := by decide +kernel
theorem dX5_doubles_207 : decode cX5_doubles 207 = .ok (.getfield 98, 3) := by decide +kernel
theorem dX5_doubles_210 : decode cX5_doubles 210 = .ok (.iconst 1, 1) := by decide +kernel
theorem dX5_doubles_211 : decode cX5_doubles 211 = .ok (.iadd, 1) := by decide +kernel
theorem dX5_doubles_212 : decode cX5_doubles 212 = .ok (.putfield 124, 3) := by decide +kernel
theorem dX5_doubles_215 : decode cX5_doubles 215 = .ok (.aload_n 0, 1) := by decide +kernel
theorem dX5_doubles_216 : decode cX5_doubles 216 = .ok (.invokevirtual 156, 3) := by decide +kernel
theorem dX5_doubles_219 : decode cX5_doubles 219 = .ok (.ireturn, 1) := by decide +kernel
theorem dX5_unlike_0 : decode cX5_unlike 0 = .ok (.iload_n 1, 1) := by decide +kernel
theorem dX5_unlike_1 : decode cX5_unlike 1 = .ok (.istore_n 2, 1) := by decide +kernel
theorem dX5_unlike_2 : decode cX5_unlike 2 = .ok (.iconst 0, 1) := by decide +kernel
theorem dX5_unlike_3 : decode cX5_unlike 3 = .ok (.istore_n 3, 1) := by decide +kernel
theorem dX5_unlike_4 : decode cX5_unlike 4 = .ok (.iload_n 3, 1) := by decide +kernel
theorem dX5_unlike_5 : decode cX5_unlike 5 = .ok (.aload_n 0, 1) := by decide +kernel
theorem dX5_unlike_6 : decode cX5_unlike 6 = .ok (.getfield 98, 3) := by decide +kernel
theorem dX5_unlike_9 : decode cX5_unlike 9 = .ok (.if_icmp .ge 99, 3) := by decide +kernel
theorem dX5_unlike_12 : decode cX5_unlike 12 = .ok (.iconst 0, 1) := by decide +kernel
theorem dX5_unlike_13 : decode cX5_unlike 13 = .ok (.istore 4, 2) := by decide +kernel
theorem dX5_unlike_15 : decode cX5_unlike 15 = .ok (.sipush 256, 3) := by decide +kernel
theorem dX5_unlike_18 : decode cX5_unlike 18 = .ok (.iload_n 3, 1) := by decide +kernel
theorem dX5_unlike_19 : decode cX5_unlike 19 = .ok (.imul, 1) := by decide +kernel
theorem dX5_unlike_20 : decode cX5_unlike 20 = .ok (.istore 5, 2) := by decide +kernel
theorem dX5_unlike_22 : decode cX5_unlike 22 = .ok (.iload 5, 2) := by decide +kernel
theorem dX5_unlike_24 : decode cX5_unlike 24 = .ok (.sipush 256, 3) := by decide +kernel
theorem dX5_unlike_27 : decode cX5_unlike 27 = .ok (.iload_n 3, 1) := by decide +kernel
theorem dX5_unlike_28 : decode cX5_unlike 28 = .ok (.imul, 1) := by decide +kernel
theorem dX5_unlike_29 : decode cX5_unlike 29 = .ok (.sipush 256, 3) := by decide +kernel
theorem dX5_unlike_32 : decode cX5_unlike 32 = .ok (.iadd, 1) := by decide +kernel
theorem dX5_unlike_33 : decode cX5_unlike 33 = .ok (.if_icmp .ge 49, 3) := by decide +kernel
theorem dX5_unlike_36 : decode cX5_unlike 36 = .ok (.iload 5, 2) := by decide +kernel
theorem dX5_unlike_38 : decode cX5_unlike 38 = .ok (.iconst 1, 1) := by decide +kernel
theorem dX5_unlike_39 : decode cX5_unlike 39 = .ok (.aload_n 0, 1) := by decide +kernel
theorem dX5_unlike_40 : decode cX5_unlike 40 = .ok (.getfield 95, 3) := by decide +kernel
theorem dX5_unlike_43 : decode cX5_unlike 43 = .ok (.ishl, 1) := by decide +kernel
theorem dX5_unlike_44 : decode cX5_unlike 44 = .ok (.if_icmp .ge 38, 3) := by decide +kernel
theorem dX5_unlike_47 : decode cX5_unlike 47 = .ok (.iload 4, 2) := by decide +kernel
theorem dX5_unlike_49 : decode cX5_unlike 49 = .ok (.ifCond .ne 20, 3) := by decide +kernel
theorem dX5_unlike_52 : decode cX5_unlike 52 = .ok (.aload_n 0, 1) := by decide +kernel
theorem dX5_unlike_53 : decode cX5_unlike 53 = .ok (.getfield 25, 3) := by decide +kernel
theorem dX5_unlike_56 : decode cX5_unlike 56 = .ok (.iload 5, 2) := by decide +kernel
theorem dX5_unlike_58 : decode cX5_unlike 58 = .ok (.iaload, 1) := by decide +kernel
theorem dX5_unlike_59 : decode cX5_unlike 59 = .ok (.aload_n 0, 1) := by decide +kernel
theorem dX5_unlike_60 : decode cX5_unlike 60 = .ok (.getfield 22, 3) := by decide +kernel
theorem dX5_unlike_63 : decode cX5_unlike 63 = .ok (.iload 5, 2) := by decide +kernel
theorem dX5_unlike_65 : decode cX5_unlike 65 = .ok (.iaload, 1) := by decide +kernel
theorem dX5_unlike_66 : decode cX5_unlike 66 = .ok (.if_icmp .eq 7, 3) := by decide +kernel
theorem dX5_unlike_69 : decode cX5_unlike 69 = .ok (.iconst 1, 1) := by decide +kernel
theorem dX5_unlike_70 : decode cX5_unlike 70 = .ok (.goto 4, 3) := by decide +kernel
theorem dX5_unlike_73 : decode cX5_unlike 73 = .ok (.iconst 0, 1) := by decide +kernel
theorem dX5_unlike_74 : decode cX5_unlike 74 = .ok (.istore 4, 2) := by decide +kernel
theorem dX5_unlike_76 : decode cX5_unlike 76 = .ok (.iinc 5 1, 3) := by decide +kernel
theorem dX5_unlike_79 : decode cX5_unlike 79 = .ok (.goto (-57), 3) := by decide +kernel
theorem dX5_unlike_82 : decode cX5_unlike 82 = .ok (.iload 4, 2) := by decide +kernel
theorem dX5_unlike_84 : decode cX5_unlike 84 = .ok (.ifCond .eq 18, 3) := by decide +kernel
theorem dX5_unlike_87 : decode cX5_unlike 87 = .ok (.aload_n 0, 1) := by decide +kernel
theorem dX5_unlike_88 : decode cX5_unlike 88 = .ok (.getfield 62, 3) := by decide +kernel
theorem dX5_unlike_91 : decode cX5_unlike 91 = .ok (.iload_n 2, 1) := by decide +kernel
theorem dX5_unlike_92 : decode cX5_unlike 92 = .ok (.aload_n 0, 1) := by decide +kernel
theorem dX5_unlike_93 : decode cX5_unlike 93 = .ok (.getfield 18, 3) := by decide +kernel
theorem dX5_unlike_96 : decode cX5_unlike 96 = .ok (.iload_n 3, 1) := by decide +kernel
theorem dX5_unlike_97 : decode cX5_unlike 97 = .ok (.iaload, 1) := by decide +kernel
theorem dX5_unlike_98 : decode cX5_unlike 98 = .ok (.iastore, 1) := by decide +kernel
theorem dX5_unlike_99 : decode cX5_unlike 99 = .ok (.iinc 2 1, 3) := by decide +kernel
theorem dX5_unlike_102 : decode cX5_unlike 102 = .ok (.iinc 3 1, 3) := by decide +kernel
theorem dX5_unlike_105 : decode cX5_unlike 105 = .ok (.goto (-101), 3) := by decide +kernel
theorem dX5_unlike_108 : decode cX5_unlike 108 = .ok (.iload_n 2, 1) := by decide +kernel
theorem dX5_unlike_109 : decode cX5_unlike 109 = .ok (.ireturn, 1) := by decide +kernel
theorem dX5_splits_0 : decode cX5_splits 0 = .ok (.aload_n 0, 1) := by decide +kernel
theorem dX5_splits_1 : decode cX5_splits 1 = .ok (.getfield 32, 3) := by decide +kernel
theorem dX5_splits_4 : decode cX5_splits 4 = .ok (.iload_n 1, 1) := by decide +kernel
theorem dX5_splits_5 : decode cX5_splits 5 = .ok (.iaload, 1) := by decide +kernel
theorem dX5_splits_6 : decode cX5_splits 6 = .ok (.istore_n 2, 1) := by decide +kernel
theorem dX5_splits_7 : decode cX5_splits 7 = .ok (.aload_n 0, 1) := by decide +kernel
theorem dX5_splits_8 : decode cX5_splits 8 = .ok (.aload_n 0, 1) := by decide +kernel
theorem dX5_splits_9 : decode cX5_splits 9 = .ok (.getfield 72, 3) := by decide +kernel
theorem dX5_splits_12 : decode cX5_splits 12 = .ok (.iconst 2, 1) := by decide +kernel
theorem dX5_splits_13 : decode cX5_splits 13 = .ok (.iadd, 1) := by decide +kernel
theorem dX5_splits_14 : decode cX5_splits 14 = .ok (.invokevirtual 153, 3) := by decide +kernel
theorem dX5_splits_17 : decode cX5_splits 17 = .ok (.istore_n 3, 1) := by decide +kernel
theorem dX5_splits_18 : decode cX5_splits 18 = .ok (.iload_n 3, 1) := by decide +kernel
theorem dX5_splits_19 : decode cX5_splits 19 = .ok (.iconst (-1), 1) := by decide +kernel
theorem dX5_splits_20 : decode cX5_splits 20 = .ok (.if_icmp .ne 5, 3) := by decide +kernel
theorem dX5_splits_23 : decode cX5_splits 23 = .ok (.iconst 1, 1) := by decide +kernel
theorem dX5_splits_24 : decode cX5_splits 24 = .ok (.ireturn, 1) := by decide +kernel
theorem dX5_splits_25 : decode cX5_splits 25 = .ok (.iconst 0, 1) := by decide +kernel
theorem dX5_splits_26 : decode cX5_splits 26 = .ok (.istore 4, 2) := by decide +kernel
theorem dX5_splits_28 : decode cX5_splits 28 = .ok (.iload 4, 2) := by decide +kernel
theorem dX5_splits_30 : decode cX5_splits 30 = .ok (.iconst 1, 1) := by decide +kernel
theorem dX5_splits_31 : decode cX5_splits 31 = .ok (.aload_n 0, 1) := by decide +kernel
theorem dX5_splits_32 : decode cX5_splits 32 = .ok (.getfield 95, 3) := by decide +kernel
theorem dX5_splits_35 : decode cX5_splits 35 = .ok (.ishl, 1) := by decide +kernel
theorem dX5_splits_36 : decode cX5_splits 36 = .ok (.if_icmp .ge 67, 3) := by decide +kernel
theorem dX5_splits_39 : decode cX5_splits 39 = .ok (.aload_n 0, 1) := by decide +kernel
theorem dX5_splits_40 : decode cX5_splits 40 = .ok (.getfield 22, 3) := by decide +kernel
theorem dX5_splits_43 : decode cX5_splits 43 = .ok (.iload 4, 2) := by decide +kernel
theorem dX5_splits_45 : decode cX5_splits 45 = .ok (.iaload, 1) := by decide +kernel
theorem dX5_splits_46 : decode cX5_splits 46 = .ok (.iload_n 1, 1) := by decide +kernel
theorem dX5_splits_47 : decode cX5_splits 47 = .ok (.if_icmp .ne 24, 3) := by decide +kernel
theorem dX5_splits_50 : decode cX5_splits 50 = .ok (.iload 4, 2) := by decide +kernel
theorem dX5_splits_52 : decode cX5_splits 52 = .ok (.aload_n 0, 1) := by decide +kernel
theorem dX5_splits_53 : decode cX5_splits 53 = .ok (.getfield 95, 3) := by decide +kernel
theorem dX5_splits_56 : decode cX5_splits 56 = .ok (.iconst 1, 1) := by decide +kernel
theorem dX5_splits_57 : decode cX5_splits 57 = .ok (.isub, 1) := by decide +kernel
theorem dX5_splits_58 : decode cX5_splits 58 = .ok (.iload_n 2, 1) := by decide +kernel
theorem dX5_splits_59 : decode cX5_splits 59 = .ok (.isub, 1) := by decide +kernel
theorem dX5_splits_60 : decode cX5_splits 60 = .ok (.ishr, 1) := by decide +kernel
theorem dX5_splits_61 : decode cX5_splits 61 = .ok (.iconst 1, 1) := by decide +kernel
theorem dX5_splits_62 : decode cX5_splits 62 = .ok (.iand, 1) := by decide +kernel
theorem dX5_splits_63 : decode cX5_splits 63 = .ok (.iconst 1, 1) := by decide +kernel
theorem dX5_splits_64 : decode cX5_splits 64 = .ok (.if_icmp .ne 7, 3) := by decide +kernel
theorem dX5_splits_67 : decode cX5_splits 67 = .ok (.iconst 1, 1) := by decide +kernel
theorem dX5_splits_68 : decode cX5_splits 68 = .ok (.goto 4, 3) := by decide +kernel
