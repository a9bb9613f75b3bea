theorem dX6_init_0 : decode cX6_init 0 = .ok (.aload_n 0, 1) := by decide +kernel
theorem dX6_init_1 : decode cX6_init 1 = .ok (.invokespecial 1, 3) := by decide +kernel
theorem dX6_init_4 : decode cX6_init 4 = .ok (.aload_n 0, 1) := by decide +kernel
theorem dX6_init_5 : decode cX6_init 5 = .ok (.bipush 64, 2) := by decide +kernel
theorem dX6_init_7 : decode cX6_init 7 = .ok (.newarray .int, 2) := by decide +kernel
theorem dX6_init_9 : decode cX6_init 9 = .ok (.putfield 7, 3) := by decide +kernel
theorem dX6_init_12 : decode cX6_init 12 = .ok (.aload_n 0, 1) := by decide +kernel
theorem dX6_init_13 : decode cX6_init 13 = .ok (.bipush 64, 2) := by decide +kernel
theorem dX6_init_15 : decode cX6_init 15 = .ok (.newarray .int, 2) := by decide +kernel
theorem dX6_init_17 : decode cX6_init 17 = .ok (.putfield 13, 3) := by decide +kernel
theorem dX6_init_20 : decode cX6_init 20 = .ok (.aload_n 0, 1) := by decide +kernel
theorem dX6_init_21 : decode cX6_init 21 = .ok (.iconst 4, 1) := by decide +kernel
theorem dX6_init_22 : decode cX6_init 22 = .ok (.newarray .int, 2) := by decide +kernel
theorem dX6_init_24 : decode cX6_init 24 = .ok (.putfield 16, 3) := by decide +kernel
theorem dX6_init_27 : decode cX6_init 27 = .ok (.aload_n 0, 1) := by decide +kernel
theorem dX6_init_28 : decode cX6_init 28 = .ok (.iconst 4, 1) := by decide +kernel
theorem dX6_init_29 : decode cX6_init 29 = .ok (.newarray .int, 2) := by decide +kernel
theorem dX6_init_31 : decode cX6_init 31 = .ok (.putfield 19, 3) := by decide +kernel
theorem dX6_init_34 : decode cX6_init 34 = .ok (.aload_n 0, 1) := by decide +kernel
theorem dX6_init_35 : decode cX6_init 35 = .ok (.bipush 24, 2) := by decide +kernel
theorem dX6_init_37 : decode cX6_init 37 = .ok (.newarray .int, 2) := by decide +kernel
theorem dX6_init_39 : decode cX6_init 39 = .ok (.putfield 22, 3) := by decide +kernel
theorem dX6_init_42 : decode cX6_init 42 = .ok (.aload_n 0, 1) := by decide +kernel
theorem dX6_init_43 : decode cX6_init 43 = .ok (.sipush 1024, 3) := by decide +kernel
theorem dX6_init_46 : decode cX6_init 46 = .ok (.newarray .int, 2) := by decide +kernel
theorem dX6_init_48 : decode cX6_init 48 = .ok (.putfield 25, 3) := by decide +kernel
theorem dX6_init_51 : decode cX6_init 51 = .ok (.aload_n 0, 1) := by decide +kernel
theorem dX6_init_52 : decode cX6_init 52 = .ok (.iconst 4, 1) := by decide +kernel
theorem dX6_init_53 : decode cX6_init 53 = .ok (.newarray .int, 2) := by decide +kernel
theorem dX6_init_55 : decode cX6_init 55 = .ok (.putfield 28, 3) := by decide +kernel
theorem dX6_init_58 : decode cX6_init 58 = .ok (.aload_n 0, 1) := by decide +kernel
theorem dX6_init_59 : decode cX6_init 59 = .ok (.sipush 544, 3) := by decide +kernel
theorem dX6_init_62 : decode cX6_init 62 = .ok (.newarray .int, 2) := by decide +kernel
theorem dX6_init_64 : decode cX6_init 64 = .ok (.putfield 31, 3) := by decide +kernel
theorem dX6_init_67 : decode cX6_init 67 = .ok (.aload_n 0, 1) := by decide +kernel
theorem dX6_init_68 : decode cX6_init 68 = .ok (.sipush 256, 3) := by decide +kernel
theorem dX6_init_71 : decode cX6_init 71 = .ok (.newarray .int, 2) := by decide +kernel
theorem dX6_init_73 : decode cX6_init 73 = .ok (.putfield 34, 3) := by decide +kernel
theorem dX6_init_76 : decode cX6_init 76 = .ok (.aload_n 0, 1) := by decide +kernel
theorem dX6_init_77 : decode cX6_init 77 = .ok (.bipush 16, 2) := by decide +kernel
theorem dX6_init_79 : decode cX6_init 79 = .ok (.newarray .int, 2) := by decide +kernel
theorem dX6_init_81 : decode cX6_init 81 = .ok (.putfield 37, 3) := by decide +kernel
theorem dX6_init_84 : decode cX6_init 84 = .ok (.aload_n 0, 1) := by decide +kernel
theorem dX6_init_85 : decode cX6_init 85 = .ok (.iconst 2, 1) := by decide +kernel
theorem dX6_init_86 : decode cX6_init 86 = .ok (.newarray .boolean, 2) := by decide +kernel
theorem dX6_init_88 : decode cX6_init 88 = .ok (.putfield 40, 3) := by decide +kernel
theorem dX6_init_91 : decode cX6_init 91 = .ok (.aload_n 0, 1) := by decide +kernel
theorem dX6_init_92 : decode cX6_init 92 = .ok (.bipush 68, 2) := by decide +kernel
theorem dX6_init_94 : decode cX6_init 94 = .ok (.newarray .int, 2) := by decide +kernel
theorem dX6_init_96 : decode cX6_init 96 = .ok (.putfield 44, 3) := by decide +kernel
theorem dX6_init_99 : decode cX6_init 99 = .ok (.aload_n 0, 1) := by decide +kernel
theorem dX6_init_100 : decode cX6_init 100 = .ok (.iconst 1, 1) := by decide +kernel
theorem dX6_init_101 : decode cX6_init 101 = .ok (.putfield 47, 3) := by decide +kernel
theorem dX6_init_104 : decode cX6_init 104 = .ok (.aload_n 0, 1) := by decide +kernel
theorem dX6_init_105 : decode cX6_init 105 = .ok (.iconst 1, 1) := by decide +kernel
theorem dX6_init_106 : decode cX6_init 106 = .ok (.putfield 51, 3) := by decide +kernel
theorem dX6_init_109 : decode cX6_init 109 = .ok (.aload_n 0, 1) := by decide +kernel
theorem dX6_init_110 : decode cX6_init 110 = .ok (.getfield 7, 3) := by decide +kernel
theorem dX6_init_113 : decode cX6_init 113 = .ok (.iconst 0, 1) := by decide +kernel
theorem dX6_init_114 : decode cX6_init 114 = .ok (.bipush 46, 2) := by decide +kernel
theorem dX6_init_116 : decode cX6_init 116 = .ok (.iastore, 1) := by decide +kernel
theorem dX6_init_117 : decode cX6_init 117 = .ok (.aload_n 0, 1) := by decide +kernel
theorem dX6_init_118 : decode cX6_init 118 = .ok (.getfield 19, 3) := by decide +kernel
theorem dX6_init_121 : decode cX6_init 121 = .ok (.iconst 0, 1) := by decide +kernel
theorem dX6_init_122 : decode cX6_init 122 = .ok (.bipush (-9), 2) := by decide +kernel
theorem dX6_init_124 : decode cX6_init 124 = .ok (.iastore, 1) := by decide +kernel
theorem dX6_init_125 : decode cX6_init 125 = .ok (.return_, 1) := by decide +kernel
theorem dX6_in_0 : decode cX6_in 0 = .ok (.lload_n 0, 1) := by decide +kernel
theorem dX6_in_1 : decode cX6_in 1 = .ok (.lload_n 2, 1) := by decide +kernel
theorem dX6_in_2 : decode cX6_in 2 = .ok (.lcmp, 1) := by decide +kernel
theorem dX6_in_3 : decode cX6_in 3 = .ok (.ifCond .lt 14, 3) := by decide +kernel
theorem dX6_in_6 : decode cX6_in 6 = .ok (.lload_n 0, 1) := by decide +kernel
theorem dX6_in_7 : decode cX6_in 7 = .ok (.lload 4, 2) := by decide +kernel
theorem dX6_in_9 : decode cX6_in 9 = .ok (.lcmp, 1) := by decide +kernel
theorem dX6_in_10 : decode cX6_in 10 = .ok (.ifCond .gt 7, 3) := by decide +kernel
theorem dX6_in_13 : decode cX6_in 13 = .ok (.iconst 1, 1) := by decide +kernel
theorem dX6_in_14 : decode cX6_in 14 = .ok (.goto 4, 3) := by decide +kernel
theorem dX6_in_17 : decode cX6_in 17 = .ok (.iconst 0, 1) := by decide +kernel
theorem dX6_in_18 : decode cX6_in 18 = .ok (.ireturn, 1) := by decide +kernel
theorem dX6_write_0 : decode cX6_write 0 = .ok (.iload_n 1, 1) := by decide +kernel
theorem dX6_write_1 : decode cX6_write 1 = .ok (.i2l, 1) := by decide +kernel
theorem dX6_write_2 : decode cX6_write 2 = .ok (.lconst 1, 1) := by decide +kernel
theorem dX6_write_3 : decode cX6_write 3 = .ok (.ldc2_w 54, 3) := by decide +kernel
theorem dX6_write_6 : decode cX6_write 6 = .ok (.invokestatic 56, 3) := by decide +kernel
theorem dX6_write_9 : decode cX6_write 9 = .ok (.ifCond .ne 6, 3) := by decide +kernel
theorem dX6_write_12 : decode cX6_write 12 = .ok (.bipush (-2), 2) := by decide +kernel
theorem dX6_write_14 : decode cX6_write 14 = .ok (.ireturn, 1) := by decide +kernel
theorem dX6_write_15 : decode cX6_write 15 = .ok (.aload_n 0, 1) := by decide +kernel
theorem dX6_write_16 : decode cX6_write 16 = .ok (.getfield 60, 3) := by decide +kernel
theorem dX6_write_19 : decode cX6_write 19 = .ok (.iload_n 1, 1) := by decide +kernel
theorem dX6_write_20 : decode cX6_write 20 = .ok (.iadd, 1) := by decide +kernel
theorem dX6_write_21 : decode cX6_write 21 = .ok (.bipush 24, 2) := by decide +kernel
theorem dX6_write_23 : decode cX6_write 23 = .ok (.if_icmp .le 6, 3) := by decide +kernel
theorem dX6_write_26 : decode cX6_write 26 = .ok (.bipush (-4), 2) := by decide +kernel
theorem dX6_write_28 : decode cX6_write 28 = .ok (.ireturn, 1) := by decide +kernel
theorem dX6_write_29 : decode cX6_write 29 = .ok (.iload_n 1, 1) := by decide +kernel
theorem dX6_write_30 : decode cX6_write 30 = .ok (.iconst 1, 1) := by decide +kernel
theorem dX6_write_31 : decode cX6_write 31 = .ok (.isub, 1) := by decide +kernel
theorem dX6_write_32 : decode cX6_write 32 = .ok (.istore 4, 2) := by decide +kernel
theorem dX6_write_34 : decode cX6_write 34 = .ok (.iload 4, 2) := by decide +kernel
theorem dX6_write_36 : decode cX6_write 36 = .ok (.ifCond .lt 40, 3) := by decide +kernel
theorem dX6_write_39 : decode cX6_write 39 = .ok (.aload_n 0, 1) := by decide +kernel
theorem dX6_write_40 : decode cX6_write 40 = .ok (.getfield 22, 3) := by decide +kernel
theorem dX6_write_43 : decode cX6_write 43 = .ok (.aload_n 0, 1) := by decide +kernel
theorem dX6_write_44 : decode cX6_write 44 = .ok (.getfield 60, 3) := by decide +kernel
theorem dX6_write_47 : decode cX6_write 47 = .ok (.lload_n 2, 1) := by decide +kernel
theorem dX6_write_48 : decode cX6_write 48 = .ok (.bipush 8, 2) := by decide +kernel
theorem dX6_write_50 : decode cX6_write 50 = .ok (.iload 4, 2) := by decide +kernel
theorem dX6_write_52 : decode cX6_write 52 = .ok (.imul, 1) := by decide +kernel
theorem dX6_write_53 : decode cX6_write 53 = .ok (.lshr, 1) := by decide +kernel
theorem dX6_write_54 : decode cX6_write 54 = .ok (.ldc2_w 63, 3) := by decide +kernel
theorem dX6_write_57 : decode cX6_write 57 = .ok (.land, 1) := by decide +kernel
theorem dX6_write_58 : decode cX6_write 58 = .ok (.l2i, 1) := by decide +kernel
theorem dX6_write_59 : decode cX6_write 59 = .ok (.iastore, 1) := by decide +kernel
theorem dX6_write_60 : decode cX6_write 60 = .ok (.aload_n 0, 1) := by decide +kernel
theorem dX6_write_61 : decode cX6_write 61 = .ok (.dup, 1) := by decide +kernel
theorem dX6_write_62 : decode cX6_write 62 = .ok (.getfield 60, 3) := by decide +kernel
theorem dX6_write_65 : decode cX6_write 65 = .ok (.iconst 1, 1) := by decide +kernel
theorem dX6_write_66 : decode cX6_write 66 = .ok (.iadd, 1) := by decide +kernel
theorem dX6_write_67 : decode cX6_write 67 = .ok (.putfield 60, 3) := by decide +kernel
theorem dX6_write_70 : decode cX6_write 70 = .ok (.iinc 4 (-1), 3) := by decide +kernel
theorem dX6_write_73 : decode cX6_write 73 = .ok (.goto (-39), 3) := by decide +kernel
theorem dX6_write_76 : decode cX6_write 76 = .ok (.aload_n 0, 1) := by decide +kernel
theorem dX6_write_77 : decode cX6_write 77 = .ok (.getfield 60, 3) := by decide +kernel
theorem dX6_write_80 : decode cX6_write 80 = .ok (.ireturn, 1) := by decide +kernel
theorem dX6_wipe_0 : decode cX6_wipe 0 = .ok (.aload_n 0, 1) := by decide +kernel
theorem dX6_wipe_1 : decode cX6_wipe 1 = .ok (.getfield 60, 3) := by decide +kernel
theorem dX6_wipe_4 : decode cX6_wipe 4 = .ok (.istore_n 1, 1) := by decide +kernel
theorem dX6_wipe_5 : decode cX6_wipe 5 = .ok (.aload_n 0, 1) := by decide +kernel
theorem dX6_wipe_6 : decode cX6_wipe 6 = .ok (.iconst 0, 1) := by decide +kernel
theorem dX6_wipe_7 : decode cX6_wipe 7 = .ok (.putfield 60, 3) := by decide +kernel
theorem dX6_wipe_10 : decode cX6_wipe 10 = .ok (.iload_n 1, 1) := by decide +kernel
theorem dX6_wipe_11 : decode cX6_wipe 11 = .ok (.ireturn, 1) := by decide +kernel
theorem dX6_sideOf_0 : decode cX6_sideOf 0 = .ok (.iload_n 0, 1) := by decide +kernel
theorem dX6_sideOf_1 : decode cX6_sideOf 1 = .ok (.lookupswitch 95 #[(66, 91), (75, 91), (78, 91), (80, 91), (82, 91), (98, 93), (107, 93), (110, 93), (112, 93), (114, 93)], 91) := by decide +kernel
theorem dX6_sideOf_92 : decode cX6_sideOf 92 = .ok (.iconst 0, 1) := by decide +kernel
theorem dX6_sideOf_93 : decode cX6_sideOf 93 = .ok (.ireturn, 1) := by decide +kernel
theorem dX6_sideOf_94 : decode cX6_sideOf 94 = .ok (.iconst 1, 1) := by decide +kernel
theorem dX6_sideOf_95 : decode cX6_sideOf 95 = .ok (.ireturn, 1) := by decide +kernel
theorem dX6_sideOf_96 : decode cX6_sideOf 96 = .ok (.bipush (-9), 2) := by decide +kernel
theorem dX6_sideOf_98 : decode cX6_sideOf 98 = .ok (.ireturn, 1) := by decide +kernel
theorem dX6_isCellSign_0 : decode cX6_isCellSign 0 = .ok (.iload_n 0, 1) := by decide +kernel
theorem dX6_isCellSign_1 : decode cX6_isCellSign 1 = .ok (.bipush 46, 2) := by decide +kernel
theorem dX6_isCellSign_3 : decode cX6_isCellSign 3 = .ok (.if_icmp .eq 18, 3) := by decide +kernel
theorem dX6_isCellSign_6 : decode cX6_isCellSign 6 = .ok (.iload_n 0, 1) := by decide +kernel
theorem dX6_isCellSign_7 : decode cX6_isCellSign 7 = .ok (.bipush 35, 2) := by decide +kernel
theorem dX6_isCellSign_9 : decode cX6_isCellSign 9 = .ok (.if_icmp .eq 12, 3) := by decide +kernel
theorem dX6_isCellSign_12 : decode cX6_isCellSign 12 = .ok (.iload_n 0, 1) := by decide +kernel
theorem dX6_isCellSign_13 : decode cX6_isCellSign 13 = .ok (.invokestatic 65, 3) := by decide +kernel
theorem dX6_isCellSign_16 : decode cX6_isCellSign 16 = .ok (.bipush (-9), 2) := by decide +kernel
theorem dX6_isCellSign_18 : decode cX6_isCellSign 18 = .ok (.if_icmp .eq 7, 3) := by decide +kernel
theorem dX6_isCellSign_21 : decode cX6_isCellSign 21 = .ok (.iconst 1, 1) := by decide +kernel
theorem dX6_isCellSign_22 : decode cX6_isCellSign 22 = .ok (.goto 4, 3) := by decide +kernel
theorem dX6_isCellSign_25 : decode cX6_isCellSign 25 = .ok (.iconst 0, 1) := by decide +kernel
theorem dX6_isCellSign_26 : decode cX6_isCellSign 26 = .ok (.ireturn, 1) := by decide +kernel
theorem dX6_fits_0 : decode cX6_fits 0 = .ok (.aload_n 0, 1) := by decide +kernel
theorem dX6_fits_1 : decode cX6_fits 1 = .ok (.getfield 22, 3) := by decide +kernel
theorem dX6_fits_4 : decode cX6_fits 4 = .ok (.iload_n 1, 1) := by decide +kernel
theorem dX6_fits_5 : decode cX6_fits 5 = .ok (.iaload, 1) := by decide +kernel
theorem dX6_fits_6 : decode cX6_fits 6 = .ok (.istore_n 2, 1) := by decide +kernel
theorem dX6_fits_7 : decode cX6_fits 7 = .ok (.iload_n 1, 1) := by decide +kernel
theorem dX6_fits_8 : decode cX6_fits 8 = .ok (.tableswitch 90 0 4 #[36, 48, 48, 60, 72], 36) := by decide +kernel
theorem dX6_fits_44 : decode cX6_fits 44 = .ok (.iload_n 2, 1) := by decide +kernel
theorem dX6_fits_45 : decode cX6_fits 45 = .ok (.bipush 71, 2) := by decide +kernel
theorem dX6_fits_47 : decode cX6_fits 47 = .ok (.if_icmp .ne 7, 3) := by decide +kernel
theorem dX6_fits_50 : decode cX6_fits 50 = .ok (.iconst 1, 1) := by decide +kernel
theorem dX6_fits_51 : decode cX6_fits 51 = .ok (.goto 4, 3) := by decide +kernel
theorem dX6_fits_54 : decode cX6_fits 54 = .ok (.iconst 0, 1) := by decide +kernel
theorem dX6_fits_55 : decode cX6_fits 55 = .ok (.ireturn, 1) := by decide +kernel
theorem dX6_fits_56 : decode cX6_fits 56 = .ok (.iload_n 2, 1) := by decide +kernel
theorem dX6_fits_57 : decode cX6_fits 57 = .ok (.i2l, 1) := by decide +kernel
theorem dX6_fits_58 : decode cX6_fits 58 = .ok (.ldc2_w 69, 3) := by decide +kernel
theorem dX6_fits_61 : decode cX6_fits 61 = .ok (.ldc2_w 71, 3) := by decide +kernel
theorem dX6_fits_64 : decode cX6_fits 64 = .ok (.invokestatic 56, 3) := by decide +kernel
theorem dX6_fits_67 : decode cX6_fits 67 = .ok (.ireturn, 1) := by decide +kernel
theorem dX6_fits_68 : decode cX6_fits 68 = .ok (.iload_n 2, 1) := by decide +kernel
theorem dX6_fits_69 : decode cX6_fits 69 = .ok (.i2l, 1) := by decide +kernel
theorem dX6_fits_70 : decode cX6_fits 70 = .ok (.ldc2_w 73, 3) := by decide +kernel
theorem dX6_fits_73 : decode cX6_fits 73 = .ok (.ldc2_w 75, 3) := by decide +kernel
theorem dX6_fits_76 : decode cX6_fits 76 = .ok (.invokestatic 56, 3) := by decide +kernel
theorem dX6_fits_79 : decode cX6_fits 79 = .ok (.ireturn, 1) := by decide +kernel
theorem dX6_fits_80 : decode cX6_fits 80 = .ok (.iload_n 2, 1) := by decide +kernel
theorem dX6_fits_81 : decode cX6_fits 81 = .ok (.bipush 119, 2) := by decide +kernel
theorem dX6_fits_83 : decode cX6_fits 83 = .ok (.if_icmp .eq 9, 3) := by decide +kernel
theorem dX6_fits_86 : decode cX6_fits 86 = .ok (.iload_n 2, 1) := by decide +kernel
theorem dX6_fits_87 : decode cX6_fits 87 = .ok (.bipush 98, 2) := by decide +kernel
theorem dX6_fits_89 : decode cX6_fits 89 = .ok (.if_icmp .ne 7, 3) := by decide +kernel
theorem dX6_fits_92 : decode cX6_fits 92 = .ok (.iconst 1, 1) := by decide +kernel
theorem dX6_fits_93 : decode cX6_fits 93 = .ok (.goto 4, 3) := by decide +kernel
theorem dX6_fits_96 : decode cX6_fits 96 = .ok (.iconst 0, 1) := by decide +kernel
theorem dX6_fits_97 : decode cX6_fits 97 = .ok (.ireturn, 1) := by decide +kernel
theorem dX6_fits_98 : decode cX6_fits 98 = .ok (.iload_n 1, 1) := by decide +kernel
theorem dX6_fits_99 : decode cX6_fits 99 = .ok (.iconst 5, 1) := by decide +kernel
theorem dX6_fits_100 : decode cX6_fits 100 = .ok (.aload_n 0, 1) := by decide +kernel
theorem dX6_fits_101 : decode cX6_fits 101 = .ok (.getfield 22, 3) := by decide +kernel
theorem dX6_fits_104 : decode cX6_fits 104 = .ok (.iconst 1, 1) := by decide +kernel
theorem dX6_fits_105 : decode cX6_fits 105 = .ok (.iaload, 1) := by decide +kernel
theorem dX6_fits_106 : decode cX6_fits 106 = .ok (.bipush 48, 2) := by decide +kernel
theorem dX6_fits_108 : decode cX6_fits 108 = .ok (.isub, 1) := by decide +kernel
theorem dX6_fits_109 : decode cX6_fits 109 = .ok (.aload_n 0, 1) := by decide +kernel
theorem dX6_fits_110 : decode cX6_fits 110 = .ok (.getfield 22, 3) := by decide +kernel
theorem dX6_fits_113 : decode cX6_fits 113 = .ok (.iconst 2, 1) := by decide +kernel
theorem dX6_fits_114 : decode cX6_fits 114 = .ok (.iaload, 1) := by decide +kernel
theorem dX6_fits_115 : decode cX6_fits 115 = .ok (.bipush 48, 2) := by decide +kernel
theorem dX6_fits_117 : decode cX6_fits 117 = .ok (.isub, 1) := by decide +kernel
theorem dX6_fits_118 : decode cX6_fits 118 = .ok (.imul, 1) := by decide +kernel
theorem dX6_fits_119 : decode cX6_fits 119 = .ok (.iadd, 1) := by decide +kernel
theorem dX6_fits_120 : decode cX6_fits 120 = .ok (.if_icmp .ge 14, 3) := by decide +kernel
theorem dX6_fits_123 : decode cX6_fits 123 = .ok (.iload_n 2, 1) := by decide +kernel
theorem dX6_fits_124 : decode cX6_fits 124 = .ok (.invokestatic 77, 3) := by decide +kernel
theorem dX6_fits_127 : decode cX6_fits 127 = .ok (.ifCond .eq 7, 3) := by decide +kernel
theorem dX6_fits_130 : decode cX6_fits 130 = .ok (.iconst 1, 1) := by decide +kernel
theorem dX6_fits_131 : decode cX6_fits 131 = .ok (.goto 4, 3) := by decide +kernel
theorem dX6_fits_134 : decode cX6_fits 134 = .ok (.iconst 0, 1) := by decide +kernel
theorem dX6_fits_135 : decode cX6_fits 135 = .ok (.ireturn, 1) := by decide +kernel
theorem dX6_fault_0 : decode cX6_fault 0 = .ok (.iconst 0, 1) := by decide +kernel
theorem dX6_fault_1 : decode cX6_fault 1 = .ok (.istore_n 1, 1) := by decide +kernel
theorem dX6_fault_2 : decode cX6_fault 2 = .ok (.iload_n 1, 1) := by decide +kernel
theorem dX6_fault_3 : decode cX6_fault 3 = .ok (.aload_n 0, 1) := by decide +kernel
theorem dX6_fault_4 : decode cX6_fault 4 = .ok (.getfield 60, 3) := by decide +kernel
theorem dX6_fault_7 : decode cX6_fault 7 = .ok (.if_icmp .ge 19, 3) := by decide +kernel
theorem dX6_fault_10 : decode cX6_fault 10 = .ok (.aload_n 0, 1) := by decide +kernel
theorem dX6_fault_11 : decode cX6_fault 11 = .ok (.iload_n 1, 1) := by decide +kernel
theorem dX6_fault_12 : decode cX6_fault 12 = .ok (.invokevirtual 81, 3) := by decide +kernel
theorem dX6_fault_15 : decode cX6_fault 15 = .ok (.ifCond .ne 5, 3) := by decide +kernel
theorem dX6_fault_18 : decode cX6_fault 18 = .ok (.iload_n 1, 1) := by decide +kernel
theorem dX6_fault_19 : decode cX6_fault 19 = .ok (.ireturn, 1) := by decide +kernel
theorem dX6_fault_20 : decode cX6_fault 20 = .ok (.iinc 1 1, 3) := by decide +kernel
theorem dX6_fault_23 : decode cX6_fault 23 = .ok (.goto (-21), 3) := by decide +kernel
theorem dX6_fault_26 : decode cX6_fault 26 = .ok (.aload_n 0, 1) := by decide +kernel
theorem dX6_fault_27 : decode cX6_fault 27 = .ok (.getfield 60, 3) := by decide +kernel
theorem dX6_fault_30 : decode cX6_fault 30 = .ok (.iconst 4, 1) := by decide +kernel
theorem dX6_fault_31 : decode cX6_fault 31 = .ok (.if_icmp .le 36, 3) := by decide +kernel
theorem dX6_fault_34 : decode cX6_fault 34 = .ok (.aload_n 0, 1) := by decide +kernel
theorem dX6_fault_35 : decode cX6_fault 35 = .ok (.getfield 60, 3) := by decide +kernel
theorem dX6_fault_38 : decode cX6_fault 38 = .ok (.iconst 5, 1) := by decide +kernel
theorem dX6_fault_39 : decode cX6_fault 39 = .ok (.aload_n 0, 1) := by decide +kernel
theorem dX6_fault_40 : decode cX6_fault 40 = .ok (.getfield 22, 3) := by decide +kernel
theorem dX6_fault_43 : decode cX6_fault 43 = .ok (.iconst 1, 1) := by decide +kernel
theorem dX6_fault_44 : decode cX6_fault 44 = .ok (.iaload, 1) := by decide +kernel
theorem dX6_fault_45 : decode cX6_fault 45 = .ok (.bipush 48, 2) := by decide +kernel
theorem dX6_fault_47 : decode cX6_fault 47 = .ok (.isub, 1) := by decide +kernel
theorem dX6_fault_48 : decode cX6_fault 48 = .ok (.aload_n 0, 1) := by decide +kernel
theorem dX6_fault_49 : decode cX6_fault 49 = .ok (.getfield 22, 3) := by decide +kernel
theorem dX6_fault_52 : decode cX6_fault 52 = .ok (.iconst 2, 1) := by decide +kernel
theorem dX6_fault_53 : decode cX6_fault 53 = .ok (.iaload, 1) := by decide +kernel
theorem dX6_fault_54 : decode cX6_fault 54 = .ok (.bipush 48, 2) := by decide +kernel
theorem dX6_fault_56 : decode cX6_fault 56 = .ok (.isub, 1) := by decide +kernel
theorem dX6_fault_57 : decode cX6_fault 57 = .ok (.imul, 1) := by decide +kernel
theorem dX6_fault_58 : decode cX6_fault 58 = .ok (.iadd, 1) := by decide +kernel
theorem dX6_fault_59 : decode cX6_fault 59 = .ok (.if_icmp .ne 8, 3) := by decide +kernel
theorem dX6_fault_62 : decode cX6_fault 62 = .ok (.bipush (-9), 2) := by decide +kernel
theorem dX6_fault_64 : decode cX6_fault 64 = .ok (.goto 7, 3) := by decide +kernel
theorem dX6_fault_67 : decode cX6_fault 67 = .ok (.aload_n 0, 1) := by decide +kernel
theorem dX6_fault_68 : decode cX6_fault 68 = .ok (.getfield 60, 3) := by decide +kernel
theorem dX6_fault_71 : decode cX6_fault 71 = .ok (.ireturn, 1) := by decide +kernel
theorem dX6_board_0 : decode cX6_board 0 = .ok (.aload_n 0, 1) := by decide +kernel
theorem dX6_board_1 : decode cX6_board 1 = .ok (.invokevirtual 84, 3) := by decide +kernel
theorem dX6_board_4 : decode cX6_board 4 = .ok (.bipush (-9), 2) := by decide +kernel
theorem dX6_board_6 : decode cX6_board 6 = .ok (.if_icmp .eq 6, 3) := by decide +kernel
theorem dX6_board_9 : decode cX6_board 9 = .ok (.bipush (-3), 2) := by decide +kernel
theorem dX6_board_11 : decode cX6_board 11 = .ok (.ireturn, 1) := by decide +kernel
theorem dX6_board_12 : decode cX6_board 12 = .ok (.aload_n 0, 1) := by decide +kernel
theorem dX6_board_13 : decode cX6_board 13 = .ok (.aload_n 0, 1) := by decide +kernel
theorem dX6_board_14 : decode cX6_board 14 = .ok (.getfield 22, 3) := by decide +kernel
theorem dX6_board_17 : decode cX6_board 17 = .ok (.iconst 1, 1) := by decide +kernel
theorem dX6_board_18 : decode cX6_board 18 = .ok (.iaload, 1) := by decide +kernel
theorem dX6_board_19 : decode cX6_board 19 = .ok (.bipush 48, 2) := by decide +kernel
theorem dX6_board_21 : decode cX6_board 21 = .ok (.isub, 1) := by decide +kernel
theorem dX6_board_22 : decode cX6_board 22 = .ok (.putfield 47, 3) := by decide +kernel
theorem dX6_board_25 : decode cX6_board 25 = .ok (.aload_n 0, 1) := by decide +kernel
theorem dX6_board_26 : decode cX6_board 26 = .ok (.aload_n 0, 1) := by decide +kernel
theorem dX6_board_27 : decode cX6_board 27 = .ok (.getfield 22, 3) := by decide +kernel
theorem dX6_board_30 : decode cX6_board 30 = .ok (.iconst 2, 1) := by decide +kernel
theorem dX6_board_31 : decode cX6_board 31 = .ok (.iaload, 1) := by decide +kernel
theorem dX6_board_32 : decode cX6_board 32 = .ok (.bipush 48, 2) := by decide +kernel
theorem dX6_board_34 : decode cX6_board 34 = .ok (.isub, 1) := by decide +kernel
theorem dX6_board_35 : decode cX6_board 35 = .ok (.putfield 51, 3) := by decide +kernel
theorem dX6_board_38 : decode cX6_board 38 = .ok (.aload_n 0, 1) := by decide +kernel
theorem dX6_board_39 : decode cX6_board 39 = .ok (.aload_n 0, 1) := by decide +kernel
theorem dX6_board_40 : decode cX6_board 40 = .ok (.getfield 22, 3) := by decide +kernel
theorem dX6_board_43 : decode cX6_board 43 = .ok (.iconst 3, 1) := by decide +kernel
theorem dX6_board_44 : decode cX6_board 44 = .ok (.iaload, 1) := by decide +kernel
theorem dX6_board_45 : decode cX6_board 45 = .ok (.bipush 48, 2) := by decide +kernel
theorem dX6_board_47 : decode cX6_board 47 = .ok (.isub, 1) := by decide +kernel
theorem dX6_board_48 : decode cX6_board 48 = .ok (.putfield 88, 3) := by decide +kernel
theorem dX6_board_51 : decode cX6_board 51 = .ok (.aload_n 0, 1) := by decide +kernel
theorem dX6_board_52 : decode cX6_board 52 = .ok (.getfield 16, 3) := by decide +kernel
theorem dX6_board_55 : decode cX6_board 55 = .ok (.iconst 0, 1) := by decide +kernel
theorem dX6_board_56 : decode cX6_board 56 = .ok (.aload_n 0, 1) := by decide +kernel
theorem dX6_board_57 : decode cX6_board 57 = .ok (.getfield 22, 3) := by decide +kernel
theorem dX6_board_60 : decode cX6_board 60 = .ok (.iconst 4, 1) := by decide +kernel
theorem dX6_board_61 : decode cX6_board 61 = .ok (.iaload, 1) := by decide +kernel
theorem dX6_board_62 : decode cX6_board 62 = .ok (.bipush 119, 2) := by decide +kernel
theorem dX6_board_64 : decode cX6_board 64 = .ok (.if_icmp .ne 7, 3) := by decide +kernel
theorem dX6_board_67 : decode cX6_board 67 = .ok (.iconst 0, 1) := by decide +kernel
theorem dX6_board_68 : decode cX6_board 68 = .ok (.goto 4, 3) := by decide +kernel
theorem dX6_board_71 : decode cX6_board 71 = .ok (.iconst 1, 1) := by decide +kernel
theorem dX6_board_72 : decode cX6_board 72 = .ok (.iastore, 1) := by decide +kernel
theorem dX6_board_73 : decode cX6_board 73 = .ok (.aload_n 0, 1) := by decide +kernel
theorem dX6_board_74 : decode cX6_board 74 = .ok (.getfield 19, 3) := by decide +kernel
theorem dX6_board_77 : decode cX6_board 77 = .ok (.iconst 0, 1) := by decide +kernel
theorem dX6_board_78 : decode cX6_board 78 = .ok (.bipush (-9), 2) := by decide +kernel
theorem dX6_board_80 : decode cX6_board 80 = .ok (.iastore, 1) := by decide +kernel
theorem dX6_board_81 : decode cX6_board 81 = .ok (.iconst 0, 1) := by decide +kernel
theorem dX6_board_82 : decode cX6_board 82 = .ok (.istore_n 1, 1) := by decide +kernel
theorem dX6_board_83 : decode cX6_board 83 = .ok (.iload_n 1, 1) := by decide +kernel
theorem dX6_board_84 : decode cX6_board 84 = .ok (.bipush 16, 2) := by decide +kernel
theorem dX6_board_86 : decode cX6_board 86 = .ok (.if_icmp .ge 47, 3) := by decide +kernel
theorem dX6_board_89 : decode cX6_board 89 = .ok (.aload_n 0, 1) := by decide +kernel
theorem dX6_board_90 : decode cX6_board 90 = .ok (.getfield 7, 3) := by decide +kernel
theorem dX6_board_93 : decode cX6_board 93 = .ok (.iload_n 1, 1) := by decide +kernel
theorem dX6_board_94 : decode cX6_board 94 = .ok (.iload_n 1, 1) := by decide +kernel
theorem dX6_board_95 : decode cX6_board 95 = .ok (.aload_n 0, 1) := by decide +kernel
theorem dX6_board_96 : decode cX6_board 96 = .ok (.getfield 47, 3) := by decide +kernel
theorem dX6_board_99 : decode cX6_board 99 = .ok (.aload_n 0, 1) := by decide +kernel
theorem dX6_board_100 : decode cX6_board 100 = .ok (.getfield 51, 3) := by decide +kernel
theorem dX6_board_103 : decode cX6_board 103 = .ok (.imul, 1) := by decide +kernel
theorem dX6_board_104 : decode cX6_board 104 = .ok (.if_icmp .ge 14, 3) := by decide +kernel
theorem dX6_board_107 : decode cX6_board 107 = .ok (.aload_n 0, 1) := by decide +kernel
theorem dX6_board_108 : decode cX6_board 108 = .ok (.getfield 22, 3) := by decide +kernel
theorem dX6_board_111 : decode cX6_board 111 = .ok (.iconst 5, 1) := by decide +kernel
theorem dX6_board_112 : decode cX6_board 112 = .ok (.iload_n 1, 1) := by decide +kernel
theorem dX6_board_113 : decode cX6_board 113 = .ok (.iadd, 1) := by decide +kernel
theorem dX6_board_114 : decode cX6_board 114 = .ok (.iaload, 1) := by decide +kernel
theorem dX6_board_115 : decode cX6_board 115 = .ok (.goto 4, 3) := by decide +kernel
theorem dX6_board_118 : decode cX6_board 118 = .ok (.iconst 0, 1) := by decide +kernel
theorem dX6_board_119 : decode cX6_board 119 = .ok (.iastore, 1) := by decide +kernel
theorem dX6_board_120 : decode cX6_board 120 = .ok (.aload_n 0, 1) := by decide +kernel
theorem dX6_board_121 : decode cX6_board 121 = .ok (.getfield 13, 3) := by decide +kernel
theorem dX6_board_124 : decode cX6_board 124 = .ok (.iload_n 1, 1) := by decide +kernel
theorem dX6_board_125 : decode cX6_board 125 = .ok (.iconst 0, 1) := by decide +kernel
theorem dX6_board_126 : decode cX6_board 126 = .ok (.iastore, 1) := by decide +kernel
theorem dX6_board_127 : decode cX6_board 127 = .ok (.iinc 1 1, 3) := by decide +kernel
theorem dX6_board_130 : decode cX6_board 130 = .ok (.goto (-47), 3) := by decide +kernel
theorem dX6_board_133 : decode cX6_board 133 = .ok (.aload_n 0, 1) := by decide +kernel
theorem dX6_board_134 : decode cX6_board 134 = .ok (.iconst 0, 1) := by decide +kernel
theorem dX6_board_135 : decode cX6_board 135 = .ok (.putfield 91, 3) := by decide +kernel
theorem dX6_board_138 : decode cX6_board 138 = .ok (.aload_n 0, 1) := by decide +kernel
theorem dX6_board_139 : decode cX6_board 139 = .ok (.getfield 40, 3) := by decide +kernel
theorem dX6_board_142 : decode cX6_board 142 = .ok (.iconst 0, 1) := by decide +kernel
theorem dX6_board_143 : decode cX6_board 143 = .ok (.iconst 0, 1) := by decide +kernel
theorem dX6_board_144 : decode cX6_board 144 = .ok (.bastore, 1) := by decide +kernel
theorem dX6_board_145 : decode cX6_board 145 = .ok (.aload_n 0, 1) := by decide +kernel
theorem dX6_board_146 : decode cX6_board 146 = .ok (.getfield 40, 3) := by decide +kernel
theorem dX6_board_149 : decode cX6_board 149 = .ok (.iconst 1, 1) := by decide +kernel
theorem dX6_board_150 : decode cX6_board 150 = .ok (.iconst 0, 1) := by decide +kernel
theorem dX6_board_151 : decode cX6_board 151 = .ok (.bastore, 1) := by decide +kernel
theorem dX6_board_152 : decode cX6_board 152 = .ok (.aload_n 0, 1) := by decide +kernel
theorem dX6_board_153 : decode cX6_board 153 = .ok (.getfield 47, 3) := by decide +kernel
theorem dX6_board_156 : decode cX6_board 156 = .ok (.aload_n 0, 1) := by decide +kernel
theorem dX6_board_157 : decode cX6_board 157 = .ok (.getfield 51, 3) := by decide +kernel
theorem dX6_board_160 : decode cX6_board 160 = .ok (.imul, 1) := by decide +kernel
theorem dX6_board_161 : decode cX6_board 161 = .ok (.ireturn, 1) := by decide +kernel
theorem dX6_isCell_0 : decode cX6_isCell 0 = .ok (.iload_n 1, 1) := by decide +kernel
theorem dX6_isCell_1 : decode cX6_isCell 1 = .ok (.i2l, 1) := by decide +kernel
theorem dX6_isCell_2 : decode cX6_isCell 2 = .ok (.lconst 0, 1) := by decide +kernel
theorem dX6_isCell_3 : decode cX6_isCell 3 = .ok (.aload_n 0, 1) := by decide +kernel
theorem dX6_isCell_4 : decode cX6_isCell 4 = .ok (.getfield 47, 3) := by decide +kernel
theorem dX6_isCell_7 : decode cX6_isCell 7 = .ok (.aload_n 0, 1) := by decide +kernel
theorem dX6_isCell_8 : decode cX6_isCell 8 = .ok (.getfield 51, 3) := by decide +kernel
theorem dX6_isCell_11 : decode cX6_isCell 11 = .ok (.imul, 1) := by decide +kernel
theorem dX6_isCell_12 : decode cX6_isCell 12 = .ok (.iconst 1, 1) := by decide +kernel
theorem dX6_isCell_13 : decode cX6_isCell 13 = .ok (.isub, 1) := by decide +kernel
theorem dX6_isCell_14 : decode cX6_isCell 14 = .ok (.i2l, 1) := by decide +kernel
theorem dX6_isCell_15 : decode cX6_isCell 15 = .ok (.invokestatic 56, 3) := by decide +kernel
theorem dX6_isCell_18 : decode cX6_isCell 18 = .ok (.ireturn, 1) := by decide +kernel
theorem dX6_cell_0 : decode cX6_cell 0 = .ok (.aload_n 0, 1) := by decide +kernel
theorem dX6_cell_1 : decode cX6_cell 1 = .ok (.iload_n 1, 1) := by decide +kernel
theorem dX6_cell_2 : decode cX6_cell 2 = .ok (.invokevirtual 94, 3) := by decide +kernel
theorem dX6_cell_5 : decode cX6_cell 5 = .ok (.ifCond .eq 12, 3) := by decide +kernel
theorem dX6_cell_8 : decode cX6_cell 8 = .ok (.aload_n 0, 1) := by decide +kernel
theorem dX6_cell_9 : decode cX6_cell 9 = .ok (.getfield 7, 3) := by decide +kernel
theorem dX6_cell_12 : decode cX6_cell 12 = .ok (.iload_n 1, 1) := by decide +kernel
theorem dX6_cell_13 : decode cX6_cell 13 = .ok (.iaload, 1) := by decide +kernel
theorem dX6_cell_14 : decode cX6_cell 14 = .ok (.goto 4, 3) := by decide +kernel
theorem dX6_cell_17 : decode cX6_cell 17 = .ok (.iconst (-1), 1) := by decide +kernel
theorem dX6_cell_18 : decode cX6_cell 18 = .ok (.ireturn, 1) := by decide +kernel
theorem dX6_gone_0 : decode cX6_gone 0 = .ok (.aload_n 0, 1) := by decide +kernel
theorem dX6_gone_1 : decode cX6_gone 1 = .ok (.iload_n 1, 1) := by decide +kernel
theorem dX6_gone_2 : decode cX6_gone 2 = .ok (.invokevirtual 94, 3) := by decide +kernel
theorem dX6_gone_5 : decode cX6_gone 5 = .ok (.ifCond .ne 5, 3) := by decide +kernel
theorem dX6_gone_8 : decode cX6_gone 8 = .ok (.iconst (-1), 1) := by decide +kernel
theorem dX6_gone_9 : decode cX6_gone 9 = .ok (.ireturn, 1) := by decide +kernel
theorem dX6_gone_10 : decode cX6_gone 10 = .ok (.aload_n 0, 1) := by decide +kernel
theorem dX6_gone_11 : decode cX6_gone 11 = .ok (.getfield 7, 3) := by decide +kernel
theorem dX6_gone_14 : decode cX6_gone 14 = .ok (.iload_n 1, 1) := by decide +kernel
theorem dX6_gone_15 : decode cX6_gone 15 = .ok (.iaload, 1) := by decide +kernel
theorem dX6_gone_16 : decode cX6_gone 16 = .ok (.bipush 35, 2) := by decide +kernel
theorem dX6_gone_18 : decode cX6_gone 18 = .ok (.if_icmp .ne 12, 3) := by decide +kernel
theorem dX6_gone_21 : decode cX6_gone 21 = .ok (.aload_n 0, 1) := by decide +kernel
theorem dX6_gone_22 : decode cX6_gone 22 = .ok (.getfield 13, 3) := by decide +kernel
theorem dX6_gone_25 : decode cX6_gone 25 = .ok (.iload_n 1, 1) := by decide +kernel
theorem dX6_gone_26 : decode cX6_gone 26 = .ok (.iaload, 1) := by decide +kernel
theorem dX6_gone_27 : decode cX6_gone 27 = .ok (.goto 5, 3) := by decide +kernel
theorem dX6_gone_30 : decode cX6_gone 30 = .ok (.bipush (-3), 2) := by decide +kernel
theorem dX6_gone_32 : decode cX6_gone 32 = .ok (.ireturn, 1) := by decide +kernel
theorem dX6_kindOf_0 : decode cX6_kindOf 0 = .ok (.iload_n 0, 1) := by decide +kernel
theorem dX6_kindOf_1 : decode cX6_kindOf 1 = .ok (.invokestatic 65, 3) := by decide +kernel
theorem dX6_kindOf_4 : decode cX6_kindOf 4 = .ok (.iconst 1, 1) := by decide +kernel
theorem dX6_kindOf_5 : decode cX6_kindOf 5 = .ok (.if_icmp .ne 10, 3) := by decide +kernel
theorem dX6_kindOf_8 : decode cX6_kindOf 8 = .ok (.iload_n 0, 1) := by decide +kernel
theorem dX6_kindOf_9 : decode cX6_kindOf 9 = .ok (.bipush 32, 2) := by decide +kernel
theorem dX6_kindOf_11 : decode cX6_kindOf 11 = .ok (.isub, 1) := by decide +kernel
theorem dX6_kindOf_12 : decode cX6_kindOf 12 = .ok (.goto 4, 3) := by decide +kernel
theorem dX6_kindOf_15 : decode cX6_kindOf 15 = .ok (.iload_n 0, 1) := by decide +kernel
theorem dX6_kindOf_16 : decode cX6_kindOf 16 = .ok (.ireturn, 1) := by decide +kernel
theorem dX6_at_0 : decode cX6_at 0 = .ok (.iload_n 1, 1) := by decide +kernel
theorem dX6_at_1 : decode cX6_at 1 = .ok (.aload_n 0, 1) := by decide +kernel
theorem dX6_at_2 : decode cX6_at 2 = .ok (.getfield 47, 3) := by decide +kernel
theorem dX6_at_5 : decode cX6_at 5 = .ok (.irem, 1) := by decide +kernel
theorem dX6_at_6 : decode cX6_at 6 = .ok (.iload_n 2, 1) := by decide +kernel
theorem dX6_at_7 : decode cX6_at 7 = .ok (.iadd, 1) := by decide +kernel
theorem dX6_at_8 : decode cX6_at 8 = .ok (.istore 4, 2) := by decide +kernel
theorem dX6_at_10 : decode cX6_at 10 = .ok (.iload_n 1, 1) := by decide +kernel
theorem dX6_at_11 : decode cX6_at 11 = .ok (.aload_n 0, 1) := by decide +kernel
theorem dX6_at_12 : decode cX6_at 12 = .ok (.getfield 47, 3) := by decide +kernel
theorem dX6_at_15 : decode cX6_at 15 = .ok (.idiv, 1) := by decide +kernel
theorem dX6_at_16 : decode cX6_at 16 = .ok (.iload_n 3, 1) := by decide +kernel
theorem dX6_at_17 : decode cX6_at 17 = .ok (.iadd, 1) := by decide +kernel
theorem dX6_at_18 : decode cX6_at 18 = .ok (.istore 5, 2) := by decide +kernel
theorem dX6_at_20 : decode cX6_at 20 = .ok (.iload 4, 2) := by decide +kernel
theorem dX6_at_22 : decode cX6_at 22 = .ok (.i2l, 1) := by decide +kernel
theorem dX6_at_23 : decode cX6_at 23 = .ok (.lconst 0, 1) := by decide +kernel
theorem dX6_at_24 : decode cX6_at 24 = .ok (.aload_n 0, 1) := by decide +kernel
theorem dX6_at_25 : decode cX6_at 25 = .ok (.getfield 47, 3) := by decide +kernel
theorem dX6_at_28 : decode cX6_at 28 = .ok (.iconst 1, 1) := by decide +kernel
theorem dX6_at_29 : decode cX6_at 29 = .ok (.isub, 1) := by decide +kernel
theorem dX6_at_30 : decode cX6_at 30 = .ok (.i2l, 1) := by decide +kernel
theorem dX6_at_31 : decode cX6_at 31 = .ok (.invokestatic 56, 3) := by decide +kernel
theorem dX6_at_34 : decode cX6_at 34 = .ok (.ifCond .eq 33, 3) := by decide +kernel
theorem dX6_at_37 : decode cX6_at 37 = .ok (.iload 5, 2) := by decide +kernel
theorem dX6_at_39 : decode cX6_at 39 = .ok (.i2l, 1) := by decide +kernel
theorem dX6_at_40 : decode cX6_at 40 = .ok (.lconst 0, 1) := by decide +kernel
theorem dX6_at_41 : decode cX6_at 41 = .ok (.aload_n 0, 1) := by decide +kernel
theorem dX6_at_42 : decode cX6_at 42 = .ok (.getfield 51, 3) := by decide +kernel
theorem dX6_at_45 : decode cX6_at 45 = .ok (.iconst 1, 1) := by decide +kernel
theorem dX6_at_46 : decode cX6_at 46 = .ok (.isub, 1) := by decide +kernel
theorem dX6_at_47 : decode cX6_at 47 = .ok (.i2l, 1) := by decide +kernel
theorem dX6_at_48 : decode cX6_at 48 = .ok (.invokestatic 56, 3) := by decide +kernel
theorem dX6_at_51 : decode cX6_at 51 = .ok (.ifCond .eq 16, 3) := by decide +kernel
theorem dX6_at_54 : decode cX6_at 54 = .ok (.iload 5, 2) := by decide +kernel
theorem dX6_at_56 : decode cX6_at 56 = .ok (.aload_n 0, 1) := by decide +kernel
theorem dX6_at_57 : decode cX6_at 57 = .ok (.getfield 47, 3) := by decide +kernel
theorem dX6_at_60 : decode cX6_at 60 = .ok (.imul, 1) := by decide +kernel
theorem dX6_at_61 : decode cX6_at 61 = .ok (.iload 4, 2) := by decide +kernel
theorem dX6_at_63 : decode cX6_at 63 = .ok (.iadd, 1) := by decide +kernel
theorem dX6_at_64 : decode cX6_at 64 = .ok (.goto 5, 3) := by decide +kernel
theorem dX6_at_67 : decode cX6_at 67 = .ok (.bipush (-9), 2) := by decide +kernel
theorem dX6_at_69 : decode cX6_at 69 = .ok (.ireturn, 1) := by decide +kernel
theorem dX6_isFree_0 : decode cX6_isFree 0 = .ok (.aload_n 0, 1) := by decide +kernel
theorem dX6_isFree_1 : decode cX6_isFree 1 = .ok (.getfield 7, 3) := by decide +kernel
theorem dX6_isFree_4 : decode cX6_isFree 4 = .ok (.bipush 16, 2) := by decide +kernel
theorem dX6_isFree_6 : decode cX6_isFree 6 = .ok (.iload_n 1, 1) := by decide +kernel
theorem dX6_isFree_7 : decode cX6_isFree 7 = .ok (.imul, 1) := by decide +kernel
theorem dX6_isFree_8 : decode cX6_isFree 8 = .ok (.iload_n 2, 1) := by decide +kernel
theorem dX6_isFree_9 : decode cX6_isFree 9 = .ok (.iadd, 1) := by decide +kernel
theorem dX6_isFree_10 : decode cX6_isFree 10 = .ok (.iaload, 1) := by decide +kernel
theorem dX6_isFree_11 : decode cX6_isFree 11 = .ok (.bipush 46, 2) := by decide +kernel
theorem dX6_isFree_13 : decode cX6_isFree 13 = .ok (.if_icmp .eq 23, 3) := by decide +kernel
theorem dX6_isFree_16 : decode cX6_isFree 16 = .ok (.iload_n 3, 1) := by decide +kernel
theorem dX6_isFree_17 : decode cX6_isFree 17 = .ok (.ifCond .eq 23, 3) := by decide +kernel
theorem dX6_isFree_20 : decode cX6_isFree 20 = .ok (.aload_n 0, 1) := by decide +kernel
theorem dX6_isFree_21 : decode cX6_isFree 21 = .ok (.getfield 7, 3) := by decide +kernel
theorem dX6_isFree_24 : decode cX6_isFree 24 = .ok (.bipush 16, 2) := by decide +kernel
theorem dX6_isFree_26 : decode cX6_isFree 26 = .ok (.iload_n 1, 1) := by decide +kernel
theorem dX6_isFree_27 : decode cX6_isFree 27 = .ok (.imul, 1) := by decide +kernel
theorem dX6_isFree_28 : decode cX6_isFree 28 = .ok (.iload_n 2, 1) := by decide +kernel
theorem dX6_isFree_29 : decode cX6_isFree 29 = .ok (.iadd, 1) := by decide +kernel
theorem dX6_isFree_30 : decode cX6_isFree 30 = .ok (.iaload, 1) := by decide +kernel
theorem dX6_isFree_31 : decode cX6_isFree 31 = .ok (.bipush 35, 2) := by decide +kernel
theorem dX6_isFree_33 : decode cX6_isFree 33 = .ok (.if_icmp .eq 7, 3) := by decide +kernel
theorem dX6_isFree_36 : decode cX6_isFree 36 = .ok (.iconst 1, 1) := by decide +kernel
theorem dX6_isFree_37 : decode cX6_isFree 37 = .ok (.goto 4, 3) := by decide +kernel
theorem dX6_isFree_40 : decode cX6_isFree 40 = .ok (.iconst 0, 1) := by decide +kernel
theorem dX6_isFree_41 : decode cX6_isFree 41 = .ok (.ireturn, 1) := by decide +kernel
theorem dX6_line_0 : decode cX6_line 0 = .ok (.iconst 0, 1) := by decide +kernel
theorem dX6_line_1 : decode cX6_line 1 = .ok (.istore 6, 2) := by decide +kernel
theorem dX6_line_3 : decode cX6_line 3 = .ok (.aload_n 0, 1) := by decide +kernel
theorem dX6_line_4 : decode cX6_line 4 = .ok (.iload_n 2, 1) := by decide +kernel
theorem dX6_line_5 : decode cX6_line 5 = .ok (.iload_n 3, 1) := by decide +kernel
theorem dX6_line_6 : decode cX6_line 6 = .ok (.iload 4, 2) := by decide +kernel
theorem dX6_line_8 : decode cX6_line 8 = .ok (.invokevirtual 97, 3) := by decide +kernel
theorem dX6_line_11 : decode cX6_line 11 = .ok (.istore 7, 2) := by decide +kernel
theorem dX6_line_13 : decode cX6_line 13 = .ok (.iconst 1, 1) := by decide +kernel
theorem dX6_line_14 : decode cX6_line 14 = .ok (.istore 8, 2) := by decide +kernel
theorem dX6_line_16 : decode cX6_line 16 = .ok (.iload 7, 2) := by decide +kernel
theorem dX6_line_18 : decode cX6_line 18 = .ok (.bipush (-9), 2) := by decide +kernel
theorem dX6_line_20 : decode cX6_line 20 = .ok (.if_icmp .eq 42, 3) := by decide +kernel
theorem dX6_line_23 : decode cX6_line 23 = .ok (.iload 8, 2) := by decide +kernel
theorem dX6_line_25 : decode cX6_line 25 = .ok (.ifCond .eq 37, 3) := by decide +kernel
theorem dX6_line_28 : decode cX6_line 28 = .ok (.iload 6, 2) := by decide +kernel
theorem dX6_line_30 : decode cX6_line 30 = .ok (.iconst 1, 1) := by decide +kernel
theorem dX6_line_31 : decode cX6_line 31 = .ok (.iload 7, 2) := by decide +kernel
theorem dX6_line_33 : decode cX6_line 33 = .ok (.ishl, 1) := by decide +kernel
theorem dX6_line_34 : decode cX6_line 34 = .ok (.ior, 1) := by decide +kernel
theorem dX6_line_35 : decode cX6_line 35 = .ok (.istore 6, 2) := by decide +kernel
theorem dX6_line_37 : decode cX6_line 37 = .ok (.aload_n 0, 1) := by decide +kernel
theorem dX6_line_38 : decode cX6_line 38 = .ok (.iload_n 1, 1) := by decide +kernel
theorem dX6_line_39 : decode cX6_line 39 = .ok (.iload 7, 2) := by decide +kernel
theorem dX6_line_41 : decode cX6_line 41 = .ok (.iload 5, 2) := by decide +kernel
theorem dX6_line_43 : decode cX6_line 43 = .ok (.invokevirtual 101, 3) := by decide +kernel
theorem dX6_line_46 : decode cX6_line 46 = .ok (.istore 8, 2) := by decide +kernel
theorem dX6_line_48 : decode cX6_line 48 = .ok (.aload_n 0, 1) := by decide +kernel
theorem dX6_line_49 : decode cX6_line 49 = .ok (.iload 7, 2) := by decide +kernel
theorem dX6_line_51 : decode cX6_line 51 = .ok (.iload_n 3, 1) := by decide +kernel
theorem dX6_line_52 : decode cX6_line 52 = .ok (.iload 4, 2) := by decide +kernel
theorem dX6_line_54 : decode cX6_line 54 = .ok (.invokevirtual 97, 3) := by decide +kernel
theorem dX6_line_57 : decode cX6_line 57 = .ok (.istore 7, 2) := by decide +kernel
theorem dX6_line_59 : decode cX6_line 59 = .ok (.goto (-43), 3) := by decide +kernel
theorem dX6_line_62 : decode cX6_line 62 = .ok (.iload 6, 2) := by decide +kernel
theorem dX6_line_64 : decode cX6_line 64 = .ok (.ireturn, 1) := by decide +kernel
theorem dX6_step_0 : decode cX6_step 0 = .ok (.aload_n 0, 1) := by decide +kernel
theorem dX6_step_1 : decode cX6_step 1 = .ok (.iload_n 1, 1) := by decide +kernel
theorem dX6_step_2 : decode cX6_step 2 = .ok (.iload_n 2, 1) := by decide +kernel
theorem dX6_step_3 : decode cX6_step 3 = .ok (.iload_n 3, 1) := by decide +kernel
theorem dX6_step_4 : decode cX6_step 4 = .ok (.invokevirtual 97, 3) := by decide +kernel
theorem dX6_step_7 : decode cX6_step 7 = .ok (.istore 4, 2) := by decide +kernel
theorem dX6_step_9 : decode cX6_step 9 = .ok (.iload 4, 2) := by decide +kernel
theorem dX6_step_11 : decode cX6_step 11 = .ok (.bipush (-9), 2) := by decide +kernel
theorem dX6_step_13 : decode cX6_step 13 = .ok (.if_icmp .ne 7, 3) := by decide +kernel
theorem dX6_step_16 : decode cX6_step 16 = .ok (.iconst 0, 1) := by decide +kernel
theorem dX6_step_17 : decode cX6_step 17 = .ok (.goto 7, 3) := by decide +kernel
theorem dX6_step_20 : decode cX6_step 20 = .ok (.iconst 1, 1) := by decide +kernel
theorem dX6_step_21 : decode cX6_step 21 = .ok (.iload 4, 2) := by decide +kernel
theorem dX6_step_23 : decode cX6_step 23 = .ok (.ishl, 1) := by decide +kernel
theorem dX6_step_24 : decode cX6_step 24 = .ok (.ireturn, 1) := by decide +kernel
theorem dX6_aimsOf_0 : decode cX6_aimsOf 0 = .ok (.iload_n 2, 1) := by decide +kernel
theorem dX6_aimsOf_1 : decode cX6_aimsOf 1 = .ok (.invokestatic 105, 3) := by decide +kernel
theorem dX6_aimsOf_4 : decode cX6_aimsOf 4 = .ok (.istore 5, 2) := by decide +kernel
theorem dX6_aimsOf_6 : decode cX6_aimsOf 6 = .ok (.iconst 0, 1) := by decide +kernel
theorem dX6_aimsOf_7 : decode cX6_aimsOf 7 = .ok (.istore 6, 2) := by decide +kernel
theorem dX6_aimsOf_9 : decode cX6_aimsOf 9 = .ok (.iconst 0, 1) := by decide +kernel
theorem dX6_aimsOf_10 : decode cX6_aimsOf 10 = .ok (.istore 7, 2) := by decide +kernel
theorem dX6_aimsOf_12 : decode cX6_aimsOf 12 = .ok (.iload 7, 2) := by decide +kernel
theorem dX6_aimsOf_14 : decode cX6_aimsOf 14 = .ok (.bipush 9, 2) := by decide +kernel
theorem dX6_aimsOf_16 : decode cX6_aimsOf 16 = .ok (.if_icmp .ge 215, 3) := by decide +kernel
theorem dX6_aimsOf_19 : decode cX6_aimsOf 19 = .ok (.iload 7, 2) := by decide +kernel
theorem dX6_aimsOf_21 : decode cX6_aimsOf 21 = .ok (.iconst 3, 1) := by decide +kernel
theorem dX6_aimsOf_22 : decode cX6_aimsOf 22 = .ok (.irem, 1) := by decide +kernel
theorem dX6_aimsOf_23 : decode cX6_aimsOf 23 = .ok (.iconst 1, 1) := by decide +kernel
theorem dX6_aimsOf_24 : decode cX6_aimsOf 24 = .ok (.isub, 1) := by decide +kernel
theorem dX6_aimsOf_25 : decode cX6_aimsOf 25 = .ok (.istore 8, 2) := by decide +kernel
theorem dX6_aimsOf_27 : decode cX6_aimsOf 27 = .ok (.iload 7, 2) := by decide +kernel
theorem dX6_aimsOf_29 : decode cX6_aimsOf 29 = .ok (.iconst 3, 1) := by decide +kernel
theorem dX6_aimsOf_30 : decode cX6_aimsOf 30 = .ok (.idiv, 1) := by decide +kernel
theorem dX6_aimsOf_31 : decode cX6_aimsOf 31 = .ok (.iconst 1, 1) := by decide +kernel
theorem dX6_aimsOf_32 : decode cX6_aimsOf 32 = .ok (.isub, 1) := by decide +kernel
theorem dX6_aimsOf_33 : decode cX6_aimsOf 33 = .ok (.istore 9, 2) := by decide +kernel
theorem dX6_aimsOf_35 : decode cX6_aimsOf 35 = .ok (.iload 8, 2) := by decide +kernel
theorem dX6_aimsOf_37 : decode cX6_aimsOf 37 = .ok (.ifCond .eq 8, 3) := by decide +kernel
theorem dX6_aimsOf_40 : decode cX6_aimsOf 40 = .ok (.iload 9, 2) := by decide +kernel
theorem dX6_aimsOf_42 : decode cX6_aimsOf 42 = .ok (.ifCond .ne 7, 3) := by decide +kernel
theorem dX6_aimsOf_45 : decode cX6_aimsOf 45 = .ok (.iconst 1, 1) := by decide +kernel
theorem dX6_aimsOf_46 : decode cX6_aimsOf 46 = .ok (.goto 4, 3) := by decide +kernel
theorem dX6_aimsOf_49 : decode cX6_aimsOf 49 = .ok (.iconst 0, 1) := by decide +kernel
theorem dX6_aimsOf_50 : decode cX6_aimsOf 50 = .ok (.istore 10, 2) := by decide +kernel
theorem dX6_aimsOf_52 : decode cX6_aimsOf 52 = .ok (.iload 7, 2) := by decide +kernel
theorem dX6_aimsOf_54 : decode cX6_aimsOf 54 = .ok (.iconst 4, 1) := by decide +kernel
theorem dX6_aimsOf_55 : decode cX6_aimsOf 55 = .ok (.if_icmp .ne 12, 3) := by decide +kernel
theorem dX6_aimsOf_58 : decode cX6_aimsOf 58 = .ok (.iload 6, 2) := by decide +kernel
theorem dX6_aimsOf_60 : decode cX6_aimsOf 60 = .ok (.iconst 0, 1) := by decide +kernel
theorem dX6_aimsOf_61 : decode cX6_aimsOf 61 = .ok (.ior, 1) := by decide +kernel
theorem dX6_aimsOf_62 : decode cX6_aimsOf 62 = .ok (.istore 6, 2) := by decide +kernel
theorem dX6_aimsOf_64 : decode cX6_aimsOf 64 = .ok (.goto 161, 3) := by decide +kernel
theorem dX6_aimsOf_67 : decode cX6_aimsOf 67 = .ok (.iload 5, 2) := by decide +kernel
theorem dX6_aimsOf_69 : decode cX6_aimsOf 69 = .ok (.bipush 75, 2) := by decide +kernel
theorem dX6_aimsOf_71 : decode cX6_aimsOf 71 = .ok (.if_icmp .ne 20, 3) := by decide +kernel
theorem dX6_aimsOf_74 : decode cX6_aimsOf 74 = .ok (.iload 6, 2) := by decide +kernel
theorem dX6_aimsOf_76 : decode cX6_aimsOf 76 = .ok (.aload_n 0, 1) := by decide +kernel
theorem dX6_aimsOf_77 : decode cX6_aimsOf 77 = .ok (.iload_n 3, 1) := by decide +kernel
theorem dX6_aimsOf_78 : decode cX6_aimsOf 78 = .ok (.iload 8, 2) := by decide +kernel
theorem dX6_aimsOf_80 : decode cX6_aimsOf 80 = .ok (.iload 9, 2) := by decide +kernel
theorem dX6_aimsOf_82 : decode cX6_aimsOf 82 = .ok (.invokevirtual 108, 3) := by decide +kernel
theorem dX6_aimsOf_85 : decode cX6_aimsOf 85 = .ok (.ior, 1) := by decide +kernel
theorem dX6_aimsOf_86 : decode cX6_aimsOf 86 = .ok (.istore 6, 2) := by decide +kernel
theorem dX6_aimsOf_88 : decode cX6_aimsOf 88 = .ok (.goto 137, 3) := by decide +kernel
theorem dX6_aimsOf_91 : decode cX6_aimsOf 91 = .ok (.iload 5, 2) := by decide +kernel
theorem dX6_aimsOf_93 : decode cX6_aimsOf 93 = .ok (.bipush 82, 2) := by decide +kernel
theorem dX6_aimsOf_95 : decode cX6_aimsOf 95 = .ok (.if_icmp .ne 8, 3) := by decide +kernel
theorem dX6_aimsOf_98 : decode cX6_aimsOf 98 = .ok (.iload 10, 2) := by decide +kernel
theorem dX6_aimsOf_100 : decode cX6_aimsOf 100 = .ok (.ifCond .ne 15, 3) := by decide +kernel
theorem dX6_aimsOf_103 : decode cX6_aimsOf 103 = .ok (.iload 5, 2) := by decide +kernel
theorem dX6_aimsOf_105 : decode cX6_aimsOf 105 = .ok (.bipush 66, 2) := by decide +kernel
theorem dX6_aimsOf_107 : decode cX6_aimsOf 107 = .ok (.if_icmp .ne 28, 3) := by decide +kernel
theorem dX6_aimsOf_110 : decode cX6_aimsOf 110 = .ok (.iload 10, 2) := by decide +kernel
theorem dX6_aimsOf_112 : decode cX6_aimsOf 112 = .ok (.ifCond .ne 23, 3) := by decide +kernel
theorem dX6_aimsOf_115 : decode cX6_aimsOf 115 = .ok (.iload 6, 2) := by decide +kernel
theorem dX6_aimsOf_117 : decode cX6_aimsOf 117 = .ok (.aload_n 0, 1) := by decide +kernel
theorem dX6_aimsOf_118 : decode cX6_aimsOf 118 = .ok (.iload_n 1, 1) := by decide +kernel
theorem dX6_aimsOf_119 : decode cX6_aimsOf 119 = .ok (.iload_n 3, 1) := by decide +kernel
theorem dX6_aimsOf_120 : decode cX6_aimsOf 120 = .ok (.iload 8, 2) := by decide +kernel
theorem dX6_aimsOf_122 : decode cX6_aimsOf 122 = .ok (.iload 9, 2) := by decide +kernel
theorem dX6_aimsOf_124 : decode cX6_aimsOf 124 = .ok (.iload 4, 2) := by decide +kernel
theorem dX6_aimsOf_126 : decode cX6_aimsOf 126 = .ok (.invokevirtual 111, 3) := by decide +kernel
theorem dX6_aimsOf_129 : decode cX6_aimsOf 129 = .ok (.ior, 1) := by decide +kernel
theorem dX6_aimsOf_130 : decode cX6_aimsOf 130 = .ok (.istore 6, 2) := by decide +kernel
theorem dX6_aimsOf_132 : decode cX6_aimsOf 132 = .ok (.goto 93, 3) := by decide +kernel
theorem dX6_aimsOf_135 : decode cX6_aimsOf 135 = .ok (.iload 5, 2) := by decide +kernel
theorem dX6_aimsOf_137 : decode cX6_aimsOf 137 = .ok (.bipush 78, 2) := by decide +kernel
theorem dX6_aimsOf_139 : decode cX6_aimsOf 139 = .ok (.if_icmp .ne 39, 3) := by decide +kernel
theorem dX6_aimsOf_142 : decode cX6_aimsOf 142 = .ok (.iload 10, 2) := by decide +kernel
theorem dX6_aimsOf_144 : decode cX6_aimsOf 144 = .ok (.ifCond .ne 34, 3) := by decide +kernel
theorem dX6_aimsOf_147 : decode cX6_aimsOf 147 = .ok (.iload 6, 2) := by decide +kernel
theorem dX6_aimsOf_149 : decode cX6_aimsOf 149 = .ok (.aload_n 0, 1) := by decide +kernel
theorem dX6_aimsOf_150 : decode cX6_aimsOf 150 = .ok (.iload_n 3, 1) := by decide +kernel
theorem dX6_aimsOf_151 : decode cX6_aimsOf 151 = .ok (.iconst 2, 1) := by decide +kernel
theorem dX6_aimsOf_152 : decode cX6_aimsOf 152 = .ok (.iload 8, 2) := by decide +kernel
theorem dX6_aimsOf_154 : decode cX6_aimsOf 154 = .ok (.imul, 1) := by decide +kernel
theorem dX6_aimsOf_155 : decode cX6_aimsOf 155 = .ok (.iload 9, 2) := by decide +kernel
theorem dX6_aimsOf_157 : decode cX6_aimsOf 157 = .ok (.invokevirtual 108, 3) := by decide +kernel
theorem dX6_aimsOf_160 : decode cX6_aimsOf 160 = .ok (.aload_n 0, 1) := by decide +kernel
theorem dX6_aimsOf_161 : decode cX6_aimsOf 161 = .ok (.iload_n 3, 1) := by decide +kernel
theorem dX6_aimsOf_162 : decode cX6_aimsOf 162 = .ok (.iload 8, 2) := by decide +kernel
theorem dX6_aimsOf_164 : decode cX6_aimsOf 164 = .ok (.iconst 2, 1) := by decide +kernel
theorem dX6_aimsOf_165 : decode cX6_aimsOf 165 = .ok (.iload 9, 2) := by decide +kernel
theorem dX6_aimsOf_167 : decode cX6_aimsOf 167 = .ok (.imul, 1) := by decide +kernel
theorem dX6_aimsOf_168 : decode cX6_aimsOf 168 = .ok (.invokevirtual 108, 3) := by decide +kernel
theorem dX6_aimsOf_171 : decode cX6_aimsOf 171 = .ok (.ior, 1) := by decide +kernel
theorem dX6_aimsOf_172 : decode cX6_aimsOf 172 = .ok (.ior, 1) := by decide +kernel
theorem dX6_aimsOf_173 : decode cX6_aimsOf 173 = .ok (.istore 6, 2) := by decide +kernel
theorem dX6_aimsOf_175 : decode cX6_aimsOf 175 = .ok (.goto 50, 3) := by decide +kernel
theorem dX6_aimsOf_178 : decode cX6_aimsOf 178 = .ok (.iload 5, 2) := by decide +kernel
theorem dX6_aimsOf_180 : decode cX6_aimsOf 180 = .ok (.bipush 80, 2) := by decide +kernel
theorem dX6_aimsOf_182 : decode cX6_aimsOf 182 = .ok (.if_icmp .ne 43, 3) := by decide +kernel
theorem dX6_aimsOf_185 : decode cX6_aimsOf 185 = .ok (.iload 10, 2) := by decide +kernel
theorem dX6_aimsOf_187 : decode cX6_aimsOf 187 = .ok (.ifCond .ne 38, 3) := by decide +kernel
theorem dX6_aimsOf_190 : decode cX6_aimsOf 190 = .ok (.iload 6, 2) := by decide +kernel
theorem dX6_aimsOf_192 : decode cX6_aimsOf 192 = .ok (.iload 9, 2) := by decide +kernel
theorem dX6_aimsOf_194 : decode cX6_aimsOf 194 = .ok (.iload_n 2, 1) := by decide +kernel
theorem dX6_aimsOf_195 : decode cX6_aimsOf 195 = .ok (.invokestatic 65, 3) := by decide +kernel
theorem dX6_aimsOf_198 : decode cX6_aimsOf 198 = .ok (.ifCond .ne 7, 3) := by decide +kernel
theorem dX6_aimsOf_201 : decode cX6_aimsOf 201 = .ok (.iconst (-1), 1) := by decide +kernel
theorem dX6_aimsOf_202 : decode cX6_aimsOf 202 = .ok (.goto 4, 3) := by decide +kernel
theorem dX6_aimsOf_205 : decode cX6_aimsOf 205 = .ok (.iconst 1, 1) := by decide +kernel
theorem dX6_aimsOf_206 : decode cX6_aimsOf 206 = .ok (.if_icmp .ne 15, 3) := by decide +kernel
theorem dX6_aimsOf_209 : decode cX6_aimsOf 209 = .ok (.aload_n 0, 1) := by decide +kernel
theorem dX6_aimsOf_210 : decode cX6_aimsOf 210 = .ok (.iload_n 3, 1) := by decide +kernel
theorem dX6_aimsOf_211 : decode cX6_aimsOf 211 = .ok (.iload 8, 2) := by decide +kernel
theorem dX6_aimsOf_213 : decode cX6_aimsOf 213 = .ok (.iload 9, 2) := by decide +kernel
theorem dX6_aimsOf_215 : decode cX6_aimsOf 215 = .ok (.invokevirtual 108, 3) := by decide +kernel
theorem dX6_aimsOf_218 : decode cX6_aimsOf 218 = .ok (.goto 4, 3) := by decide +kernel
theorem dX6_aimsOf_221 : decode cX6_aimsOf 221 = .ok (.iconst 0, 1) := by decide +kernel
theorem dX6_aimsOf_222 : decode cX6_aimsOf 222 = .ok (.ior, 1) := by decide +kernel
theorem dX6_aimsOf_223 : decode cX6_aimsOf 223 = .ok (.istore 6, 2) := by decide +kernel
theorem dX6_aimsOf_225 : decode cX6_aimsOf 225 = .ok (.iinc 7 1, 3) := by decide +kernel
theorem dX6_aimsOf_228 : decode cX6_aimsOf 228 = .ok (.goto (-216), 3) := by decide +kernel
theorem dX6_aimsOf_231 : decode cX6_aimsOf 231 = .ok (.iload 6, 2) := by decide +kernel
theorem dX6_aimsOf_233 : decode cX6_aimsOf 233 = .ok (.ireturn, 1) := by decide +kernel
theorem dX6_aims_0 : decode cX6_aims 0 = .ok (.aload_n 0, 1) := by decide +kernel
theorem dX6_aims_1 : decode cX6_aims 1 = .ok (.iload_n 1, 1) := by decide +kernel
theorem dX6_aims_2 : decode cX6_aims 2 = .ok (.invokevirtual 94, 3) := by decide +kernel
theorem dX6_aims_5 : decode cX6_aims 5 = .ok (.ifCond .ne 5, 3) := by decide +kernel
theorem dX6_aims_8 : decode cX6_aims 8 = .ok (.iconst (-1), 1) := by decide +kernel
theorem dX6_aims_9 : decode cX6_aims 9 = .ok (.ireturn, 1) := by decide +kernel
theorem dX6_aims_10 : decode cX6_aims 10 = .ok (.aload_n 0, 1) := by decide +kernel
theorem dX6_aims_11 : decode cX6_aims 11 = .ok (.getfield 7, 3) := by decide +kernel
theorem dX6_aims_14 : decode cX6_aims 14 = .ok (.iload_n 1, 1) := by decide +kernel
theorem dX6_aims_15 : decode cX6_aims 15 = .ok (.iaload, 1) := by decide +kernel
theorem dX6_aims_16 : decode cX6_aims 16 = .ok (.invokestatic 65, 3) := by decide +kernel
theorem dX6_aims_19 : decode cX6_aims 19 = .ok (.bipush (-9), 2) := by decide +kernel
theorem dX6_aims_21 : decode cX6_aims 21 = .ok (.if_icmp .ne 7, 3) := by decide +kernel
theorem dX6_aims_24 : decode cX6_aims 24 = .ok (.iconst 0, 1) := by decide +kernel
theorem dX6_aims_25 : decode cX6_aims 25 = .ok (.goto 16, 3) := by decide +kernel
theorem dX6_aims_28 : decode cX6_aims 28 = .ok (.aload_n 0, 1) := by decide +kernel
theorem dX6_aims_29 : decode cX6_aims 29 = .ok (.iconst 0, 1) := by decide +kernel
theorem dX6_aims_30 : decode cX6_aims 30 = .ok (.aload_n 0, 1) := by decide +kernel
theorem dX6_aims_31 : decode cX6_aims 31 = .ok (.getfield 7, 3) := by decide +kernel
theorem dX6_aims_34 : decode cX6_aims 34 = .ok (.iload_n 1, 1) := by decide +kernel
theorem dX6_aims_35 : decode cX6_aims 35 = .ok (.iaload, 1) := by decide +kernel
theorem dX6_aims_36 : decode cX6_aims 36 = .ok (.iload_n 1, 1) := by decide +kernel
theorem dX6_aims_37 : decode cX6_aims 37 = .ok (.iconst 0, 1) := by decide +kernel
theorem dX6_aims_38 : decode cX6_aims 38 = .ok (.invokevirtual 115, 3) := by decide +kernel
theorem dX6_aims_41 : decode cX6_aims 41 = .ok (.ireturn, 1) := by decide +kernel
theorem dX6_going_0 : decode cX6_going 0 = .ok (.iload_n 2, 1) := by decide +kernel
theorem dX6_going_1 : decode cX6_going 1 = .ok (.invokestatic 105, 3) := by decide +kernel
theorem dX6_going_4 : decode cX6_going 4 = .ok (.bipush 80, 2) := by decide +kernel
theorem dX6_going_6 : decode cX6_going 6 = .ok (.if_icmp .ne 24, 3) := by decide +kernel
theorem dX6_going_9 : decode cX6_going 9 = .ok (.aload_n 0, 1) := by decide +kernel
theorem dX6_going_10 : decode cX6_going 10 = .ok (.iload_n 3, 1) := by decide +kernel
theorem dX6_going_11 : decode cX6_going 11 = .ok (.iconst 0, 1) := by decide +kernel
theorem dX6_going_12 : decode cX6_going 12 = .ok (.iload_n 2, 1) := by decide +kernel
theorem dX6_going_13 : decode cX6_going 13 = .ok (.invokestatic 65, 3) := by decide +kernel
theorem dX6_going_16 : decode cX6_going 16 = .ok (.ifCond .ne 7, 3) := by decide +kernel
theorem dX6_going_19 : decode cX6_going 19 = .ok (.iconst (-1), 1) := by decide +kernel
theorem dX6_going_20 : decode cX6_going 20 = .ok (.goto 4, 3) := by decide +kernel
theorem dX6_going_23 : decode cX6_going 23 = .ok (.iconst 1, 1) := by decide +kernel
theorem dX6_going_24 : decode cX6_going 24 = .ok (.invokevirtual 108, 3) := by decide +kernel
theorem dX6_going_27 : decode cX6_going 27 = .ok (.goto 12, 3) := by decide +kernel
theorem dX6_going_30 : decode cX6_going 30 = .ok (.aload_n 0, 1) := by decide +kernel
theorem dX6_going_31 : decode cX6_going 31 = .ok (.iload_n 1, 1) := by decide +kernel
theorem dX6_going_32 : decode cX6_going 32 = .ok (.iload_n 2, 1) := by decide +kernel
theorem dX6_going_33 : decode cX6_going 33 = .ok (.iload_n 3, 1) := by decide +kernel
theorem dX6_going_34 : decode cX6_going 34 = .ok (.iload 4, 2) := by decide +kernel
theorem dX6_going_36 : decode cX6_going 36 = .ok (.invokevirtual 115, 3) := by decide +kernel
theorem dX6_going_39 : decode cX6_going 39 = .ok (.istore 5, 2) := by decide +kernel
theorem dX6_going_41 : decode cX6_going 41 = .ok (.iconst 0, 1) := by decide +kernel
theorem dX6_going_42 : decode cX6_going 42 = .ok (.istore 6, 2) := by decide +kernel
theorem dX6_going_44 : decode cX6_going 44 = .ok (.iconst 0, 1) := by decide +kernel
theorem dX6_going_45 : decode cX6_going 45 = .ok (.istore 7, 2) := by decide +kernel
theorem dX6_going_47 : decode cX6_going 47 = .ok (.iload 7, 2) := by decide +kernel
theorem dX6_going_49 : decode cX6_going 49 = .ok (.aload_n 0, 1) := by decide +kernel
theorem dX6_going_50 : decode cX6_going 50 = .ok (.getfield 47, 3) := by decide +kernel
theorem dX6_going_53 : decode cX6_going 53 = .ok (.aload_n 0, 1) := by decide +kernel
theorem dX6_going_54 : decode cX6_going 54 = .ok (.getfield 51, 3) := by decide +kernel
theorem dX6_going_57 : decode cX6_going 57 = .ok (.imul, 1) := by decide +kernel
theorem dX6_going_58 : decode cX6_going 58 = .ok (.if_icmp .ge 34, 3) := by decide +kernel
theorem dX6_going_61 : decode cX6_going 61 = .ok (.iload 6, 2) := by decide +kernel
theorem dX6_going_63 : decode cX6_going 63 = .ok (.aload_n 0, 1) := by decide +kernel
theorem dX6_going_64 : decode cX6_going 64 = .ok (.iload_n 1, 1) := by decide +kernel
theorem dX6_going_65 : decode cX6_going 65 = .ok (.iload 7, 2) := by decide +kernel
theorem dX6_going_67 : decode cX6_going 67 = .ok (.iload 4, 2) := by decide +kernel
theorem dX6_going_69 : decode cX6_going 69 = .ok (.invokevirtual 101, 3) := by decide +kernel
theorem dX6_going_72 : decode cX6_going 72 = .ok (.ifCond .eq 10, 3) := by decide +kernel
theorem dX6_going_75 : decode cX6_going 75 = .ok (.iconst 1, 1) := by decide +kernel
theorem dX6_going_76 : decode cX6_going 76 = .ok (.iload 7, 2) := by decide +kernel
theorem dX6_going_78 : decode cX6_going 78 = .ok (.ishl, 1) := by decide +kernel
theorem dX6_going_79 : decode cX6_going 79 = .ok (.goto 4, 3) := by decide +kernel
theorem dX6_going_82 : decode cX6_going 82 = .ok (.iconst 0, 1) := by decide +kernel
theorem dX6_going_83 : decode cX6_going 83 = .ok (.ior, 1) := by decide +kernel
theorem dX6_going_84 : decode cX6_going 84 = .ok (.istore 6, 2) := by decide +kernel
theorem dX6_going_86 : decode cX6_going 86 = .ok (.iinc 7 1, 3) := by decide +kernel
theorem dX6_going_89 : decode cX6_going 89 = .ok (.goto (-42), 3) := by decide +kernel
theorem dX6_going_92 : decode cX6_going 92 = .ok (.iload 5, 2) := by decide +kernel
theorem dX6_going_94 : decode cX6_going 94 = .ok (.iload 6, 2) := by decide +kernel
theorem dX6_going_96 : decode cX6_going 96 = .ok (.iand, 1) := by decide +kernel
theorem dX6_going_97 : decode cX6_going 97 = .ok (.ireturn, 1) := by decide +kernel
theorem dX6_canOf_0 : decode cX6_canOf 0 = .ok (.aload_n 0, 1) := by decide +kernel
theorem dX6_canOf_1 : decode cX6_canOf 1 = .ok (.getfield 7, 3) := by decide +kernel
theorem dX6_canOf_4 : decode cX6_canOf 4 = .ok (.bipush 16, 2) := by decide +kernel
theorem dX6_canOf_6 : decode cX6_canOf 6 = .ok (.iload_n 1, 1) := by decide +kernel
theorem dX6_canOf_7 : decode cX6_canOf 7 = .ok (.imul, 1) := by decide +kernel
theorem dX6_canOf_8 : decode cX6_canOf 8 = .ok (.iload_n 2, 1) := by decide +kernel
theorem dX6_canOf_9 : decode cX6_canOf 9 = .ok (.iadd, 1) := by decide +kernel
theorem dX6_canOf_10 : decode cX6_canOf 10 = .ok (.iaload, 1) := by decide +kernel
theorem dX6_canOf_11 : decode cX6_canOf 11 = .ok (.istore_n 3, 1) := by decide +kernel
theorem dX6_canOf_12 : decode cX6_canOf 12 = .ok (.iload_n 3, 1) := by decide +kernel
theorem dX6_canOf_13 : decode cX6_canOf 13 = .ok (.invokestatic 65, 3) := by decide +kernel
theorem dX6_canOf_16 : decode cX6_canOf 16 = .ok (.istore 4, 2) := by decide +kernel
theorem dX6_canOf_18 : decode cX6_canOf 18 = .ok (.iload 4, 2) := by decide +kernel
theorem dX6_canOf_20 : decode cX6_canOf 20 = .ok (.bipush (-9), 2) := by decide +kernel
theorem dX6_canOf_22 : decode cX6_canOf 22 = .ok (.if_icmp .ne 5, 3) := by decide +kernel
theorem dX6_canOf_25 : decode cX6_canOf 25 = .ok (.iconst 0, 1) := by decide +kernel
theorem dX6_canOf_26 : decode cX6_canOf 26 = .ok (.ireturn, 1) := by decide +kernel
theorem dX6_canOf_27 : decode cX6_canOf 27 = .ok (.iconst 0, 1) := by decide +kernel
theorem dX6_canOf_28 : decode cX6_canOf 28 = .ok (.istore 5, 2) := by decide +kernel
theorem dX6_canOf_30 : decode cX6_canOf 30 = .ok (.iconst 0, 1) := by decide +kernel
theorem dX6_canOf_31 : decode cX6_canOf 31 = .ok (.istore 6, 2) := by decide +kernel
theorem dX6_canOf_33 : decode cX6_canOf 33 = .ok (.iload 6, 2) := by decide +kernel
theorem dX6_canOf_35 : decode cX6_canOf 35 = .ok (.aload_n 0, 1) := by decide +kernel
theorem dX6_canOf_36 : decode cX6_canOf 36 = .ok (.getfield 47, 3) := by decide +kernel
theorem dX6_canOf_39 : decode cX6_canOf 39 = .ok (.aload_n 0, 1) := by decide +kernel
theorem dX6_canOf_40 : decode cX6_canOf 40 = .ok (.getfield 51, 3) := by decide +kernel
theorem dX6_canOf_43 : decode cX6_canOf 43 = .ok (.imul, 1) := by decide +kernel
theorem dX6_canOf_44 : decode cX6_canOf 44 = .ok (.if_icmp .ge 44, 3) := by decide +kernel
theorem dX6_canOf_47 : decode cX6_canOf 47 = .ok (.iload 5, 2) := by decide +kernel
theorem dX6_canOf_49 : decode cX6_canOf 49 = .ok (.aload_n 0, 1) := by decide +kernel
theorem dX6_canOf_50 : decode cX6_canOf 50 = .ok (.getfield 7, 3) := by decide +kernel
theorem dX6_canOf_53 : decode cX6_canOf 53 = .ok (.bipush 16, 2) := by decide +kernel
theorem dX6_canOf_55 : decode cX6_canOf 55 = .ok (.iload_n 1, 1) := by decide +kernel
theorem dX6_canOf_56 : decode cX6_canOf 56 = .ok (.imul, 1) := by decide +kernel
theorem dX6_canOf_57 : decode cX6_canOf 57 = .ok (.iload 6, 2) := by decide +kernel
theorem dX6_canOf_59 : decode cX6_canOf 59 = .ok (.iadd, 1) := by decide +kernel
theorem dX6_canOf_60 : decode cX6_canOf 60 = .ok (.iaload, 1) := by decide +kernel
theorem dX6_canOf_61 : decode cX6_canOf 61 = .ok (.invokestatic 65, 3) := by decide +kernel
theorem dX6_canOf_64 : decode cX6_canOf 64 = .ok (.iconst 1, 1) := by decide +kernel
theorem dX6_canOf_65 : decode cX6_canOf 65 = .ok (.iload 4, 2) := by decide +kernel
theorem dX6_canOf_67 : decode cX6_canOf 67 = .ok (.isub, 1) := by decide +kernel
theorem dX6_canOf_68 : decode cX6_canOf 68 = .ok (.if_icmp .ne 10, 3) := by decide +kernel
theorem dX6_canOf_71 : decode cX6_canOf 71 = .ok (.iconst 1, 1) := by decide +kernel
theorem dX6_canOf_72 : decode cX6_canOf 72 = .ok (.iload 6, 2) := by decide +kernel
theorem dX6_canOf_74 : decode cX6_canOf 74 = .ok (.ishl, 1) := by decide +kernel
theorem dX6_canOf_75 : decode cX6_canOf 75 = .ok (.goto 4, 3) := by decide +kernel
theorem dX6_canOf_78 : decode cX6_canOf 78 = .ok (.iconst 0, 1) := by decide +kernel
theorem dX6_canOf_79 : decode cX6_canOf 79 = .ok (.ior, 1) := by decide +kernel
theorem dX6_canOf_80 : decode cX6_canOf 80 = .ok (.istore 5, 2) := by decide +kernel
theorem dX6_canOf_82 : decode cX6_canOf 82 = .ok (.iinc 6 1, 3) := by decide +kernel
theorem dX6_canOf_85 : decode cX6_canOf 85 = .ok (.goto (-52), 3) := by decide +kernel
theorem dX6_canOf_88 : decode cX6_canOf 88 = .ok (.aload_n 0, 1) := by decide +kernel
theorem dX6_canOf_89 : decode cX6_canOf 89 = .ok (.iload_n 1, 1) := by decide +kernel
theorem dX6_canOf_90 : decode cX6_canOf 90 = .ok (.iload_n 3, 1) := by decide +kernel
theorem dX6_canOf_91 : decode cX6_canOf 91 = .ok (.iload_n 2, 1) := by decide +kernel
theorem dX6_canOf_92 : decode cX6_canOf 92 = .ok (.iconst 0, 1) := by decide +kernel
theorem dX6_canOf_93 : decode cX6_canOf 93 = .ok (.invokevirtual 119, 3) := by decide +kernel
theorem dX6_canOf_96 : decode cX6_canOf 96 = .ok (.aload_n 0, 1) := by decide +kernel
theorem dX6_canOf_97 : decode cX6_canOf 97 = .ok (.iload_n 1, 1) := by decide +kernel
theorem dX6_canOf_98 : decode cX6_canOf 98 = .ok (.iload_n 3, 1) := by decide +kernel
theorem dX6_canOf_99 : decode cX6_canOf 99 = .ok (.iload_n 2, 1) := by decide +kernel
theorem dX6_canOf_100 : decode cX6_canOf 100 = .ok (.iconst 0, 1) := by decide +kernel
theorem dX6_canOf_101 : decode cX6_canOf 101 = .ok (.invokevirtual 115, 3) := by decide +kernel
theorem dX6_canOf_104 : decode cX6_canOf 104 = .ok (.iload 5, 2) := by decide +kernel
theorem dX6_canOf_106 : decode cX6_canOf 106 = .ok (.iand, 1) := by decide +kernel
theorem dX6_canOf_107 : decode cX6_canOf 107 = .ok (.ior, 1) := by decide +kernel
theorem dX6_canOf_108 : decode cX6_canOf 108 = .ok (.ireturn, 1) := by decide +kernel
theorem dX6_can_0 : decode cX6_can 0 = .ok (.aload_n 0, 1) := by decide +kernel
theorem dX6_can_1 : decode cX6_can 1 = .ok (.iload_n 1, 1) := by decide +kernel
theorem dX6_can_2 : decode cX6_can 2 = .ok (.invokevirtual 94, 3) := by decide +kernel
theorem dX6_can_5 : decode cX6_can 5 = .ok (.ifCond .eq 12, 3) := by decide +kernel
theorem dX6_can_8 : decode cX6_can 8 = .ok (.aload_n 0, 1) := by decide +kernel
theorem dX6_can_9 : decode cX6_can 9 = .ok (.iconst 0, 1) := by decide +kernel
theorem dX6_can_10 : decode cX6_can 10 = .ok (.iload_n 1, 1) := by decide +kernel
theorem dX6_can_11 : decode cX6_can 11 = .ok (.invokevirtual 122, 3) := by decide +kernel
theorem dX6_can_14 : decode cX6_can 14 = .ok (.goto 4, 3) := by decide +kernel
theorem dX6_can_17 : decode cX6_can 17 = .ok (.iconst (-1), 1) := by decide +kernel
theorem dX6_can_18 : decode cX6_can 18 = .ok (.ireturn, 1) := by decide +kernel
theorem dX6_list_0 : decode cX6_list 0 = .ok (.iconst 0, 1) := by decide +kernel
theorem dX6_list_1 : decode cX6_list 1 = .ok (.istore_n 2, 1) := by decide +kernel
theorem dX6_list_2 : decode cX6_list 2 = .ok (.iconst 0, 1) := by decide +kernel
theorem dX6_list_3 : decode cX6_list 3 = .ok (.istore_n 3, 1) := by decide +kernel
theorem dX6_list_4 : decode cX6_list 4 = .ok (.iload_n 3, 1) := by decide +kernel
theorem dX6_list_5 : decode cX6_list 5 = .ok (.aload_n 0, 1) := by decide +kernel
theorem dX6_list_6 : decode cX6_list 6 = .ok (.getfield 47, 3) := by decide +kernel
theorem dX6_list_9 : decode cX6_list 9 = .ok (.aload_n 0, 1) := by decide +kernel
theorem dX6_list_10 : decode cX6_list 10 = .ok (.getfield 51, 3) := by decide +kernel
theorem dX6_list_13 : decode cX6_list 13 = .ok (.imul, 1) := by decide +kernel
theorem dX6_list_14 : decode cX6_list 14 = .ok (.if_icmp .ge 104, 3) := by decide +kernel
theorem dX6_list_17 : decode cX6_list 17 = .ok (.aload_n 0, 1) := by decide +kernel
theorem dX6_list_18 : decode cX6_list 18 = .ok (.getfield 19, 3) := by decide +kernel
theorem dX6_list_21 : decode cX6_list 21 = .ok (.iload_n 1, 1) := by decide +kernel
theorem dX6_list_22 : decode cX6_list 22 = .ok (.iaload, 1) := by decide +kernel
theorem dX6_list_23 : decode cX6_list 23 = .ok (.bipush (-9), 2) := by decide +kernel
theorem dX6_list_25 : decode cX6_list 25 = .ok (.if_icmp .ne 93, 3) := by decide +kernel
theorem dX6_list_28 : decode cX6_list 28 = .ok (.aload_n 0, 1) := by decide +kernel
theorem dX6_list_29 : decode cX6_list 29 = .ok (.getfield 7, 3) := by decide +kernel
theorem dX6_list_32 : decode cX6_list 32 = .ok (.bipush 16, 2) := by decide +kernel
theorem dX6_list_34 : decode cX6_list 34 = .ok (.iload_n 1, 1) := by decide +kernel
theorem dX6_list_35 : decode cX6_list 35 = .ok (.imul, 1) := by decide +kernel
theorem dX6_list_36 : decode cX6_list 36 = .ok (.iload_n 3, 1) := by decide +kernel
theorem dX6_list_37 : decode cX6_list 37 = .ok (.iadd, 1) := by decide +kernel
theorem dX6_list_38 : decode cX6_list 38 = .ok (.iaload, 1) := by decide +kernel
theorem dX6_list_39 : decode cX6_list 39 = .ok (.invokestatic 65, 3) := by decide +kernel
theorem dX6_list_42 : decode cX6_list 42 = .ok (.aload_n 0, 1) := by decide +kernel
theorem dX6_list_43 : decode cX6_list 43 = .ok (.getfield 16, 3) := by decide +kernel
theorem dX6_list_46 : decode cX6_list 46 = .ok (.iload_n 1, 1) := by decide +kernel
theorem dX6_list_47 : decode cX6_list 47 = .ok (.iaload, 1) := by decide +kernel
theorem dX6_list_48 : decode cX6_list 48 = .ok (.if_icmp .ne 12, 3) := by decide +kernel
theorem dX6_list_51 : decode cX6_list 51 = .ok (.aload_n 0, 1) := by decide +kernel
theorem dX6_list_52 : decode cX6_list 52 = .ok (.iload_n 1, 1) := by decide +kernel
theorem dX6_list_53 : decode cX6_list 53 = .ok (.iload_n 3, 1) := by decide +kernel
theorem dX6_list_54 : decode cX6_list 54 = .ok (.invokevirtual 122, 3) := by decide +kernel
theorem dX6_list_57 : decode cX6_list 57 = .ok (.goto 4, 3) := by decide +kernel
theorem dX6_list_60 : decode cX6_list 60 = .ok (.iconst 0, 1) := by decide +kernel
theorem dX6_list_61 : decode cX6_list 61 = .ok (.istore 4, 2) := by decide +kernel
theorem dX6_list_63 : decode cX6_list 63 = .ok (.iconst 0, 1) := by decide +kernel
theorem dX6_list_64 : decode cX6_list 64 = .ok (.istore 5, 2) := by decide +kernel
theorem dX6_list_66 : decode cX6_list 66 = .ok (.iload 5, 2) := by decide +kernel
theorem dX6_list_68 : decode cX6_list 68 = .ok (.bipush 16, 2) := by decide +kernel
theorem dX6_list_70 : decode cX6_list 70 = .ok (.if_icmp .ge 42, 3) := by decide +kernel
theorem dX6_list_73 : decode cX6_list 73 = .ok (.iload 4, 2) := by decide +kernel
theorem dX6_list_75 : decode cX6_list 75 = .ok (.iload 5, 2) := by decide +kernel
theorem dX6_list_77 : decode cX6_list 77 = .ok (.ishr, 1) := by decide +kernel
theorem dX6_list_78 : decode cX6_list 78 = .ok (.iconst 1, 1) := by decide +kernel
theorem dX6_list_79 : decode cX6_list 79 = .ok (.iand, 1) := by decide +kernel
theorem dX6_list_80 : decode cX6_list 80 = .ok (.iconst 1, 1) := by decide +kernel
theorem dX6_list_81 : decode cX6_list 81 = .ok (.if_icmp .ne 25, 3) := by decide +kernel
theorem dX6_list_84 : decode cX6_list 84 = .ok (.aload_n 0, 1) := by decide +kernel
theorem dX6_list_85 : decode cX6_list 85 = .ok (.getfield 25, 3) := by decide +kernel
theorem dX6_list_88 : decode cX6_list 88 = .ok (.sipush 256, 3) := by decide +kernel
theorem dX6_list_91 : decode cX6_list 91 = .ok (.iload_n 1, 1) := by decide +kernel
theorem dX6_list_92 : decode cX6_list 92 = .ok (.imul, 1) := by decide +kernel
theorem dX6_list_93 : decode cX6_list 93 = .ok (.iload_n 2, 1) := by decide +kernel
theorem dX6_list_94 : decode cX6_list 94 = .ok (.iadd, 1) := by decide +kernel
theorem dX6_list_95 : decode cX6_list 95 = .ok (.bipush 16, 2) := by decide +kernel
theorem dX6_list_97 : decode cX6_list 97 = .ok (.iload_n 3, 1) := by decide +kernel
theorem dX6_list_98 : decode cX6_list 98 = .ok (.imul, 1) := by decide +kernel
theorem dX6_list_99 : decode cX6_list 99 = .ok (.iload 5, 2) := by decide +kernel
theorem dX6_list_101 : decode cX6_list 101 = .ok (.iadd, 1) := by decide +kernel
theorem dX6_list_102 : decode cX6_list 102 = .ok (.iastore, 1) := by decide +kernel
theorem dX6_list_103 : decode cX6_list 103 = .ok (.iinc 2 1, 3) := by decide +kernel
theorem dX6_list_106 : decode cX6_list 106 = .ok (.iinc 5 1, 3) := by decide +kernel
theorem dX6_list_109 : decode cX6_list 109 = .ok (.goto (-43), 3) := by decide +kernel
theorem dX6_list_112 : decode cX6_list 112 = .ok (.iinc 3 1, 3) := by decide +kernel
theorem dX6_list_115 : decode cX6_list 115 = .ok (.goto (-111), 3) := by decide +kernel
theorem dX6_list_118 : decode cX6_list 118 = .ok (.iload_n 2, 1) := by decide +kernel
theorem dX6_list_119 : decode cX6_list 119 = .ok (.ifCond .ne 29, 3) := by decide +kernel
theorem dX6_list_122 : decode cX6_list 122 = .ok (.aload_n 0, 1) := by decide +kernel
theorem dX6_list_123 : decode cX6_list 123 = .ok (.getfield 19, 3) := by decide +kernel
theorem dX6_list_126 : decode cX6_list 126 = .ok (.iload_n 1, 1) := by decide +kernel
theorem dX6_list_127 : decode cX6_list 127 = .ok (.iaload, 1) := by decide +kernel
theorem dX6_list_128 : decode cX6_list 128 = .ok (.bipush (-9), 2) := by decide +kernel
theorem dX6_list_130 : decode cX6_list 130 = .ok (.if_icmp .ne 18, 3) := by decide +kernel
theorem dX6_list_133 : decode cX6_list 133 = .ok (.aload_n 0, 1) := by decide +kernel
theorem dX6_list_134 : decode cX6_list 134 = .ok (.getfield 25, 3) := by decide +kernel
theorem dX6_list_137 : decode cX6_list 137 = .ok (.sipush 256, 3) := by decide +kernel
theorem dX6_list_140 : decode cX6_list 140 = .ok (.iload_n 1, 1) := by decide +kernel
theorem dX6_list_141 : decode cX6_list 141 = .ok (.imul, 1) := by decide +kernel
theorem dX6_list_142 : decode cX6_list 142 = .ok (.sipush 999, 3) := by decide +kernel
theorem dX6_list_145 : decode cX6_list 145 = .ok (.iastore, 1) := by decide +kernel
theorem dX6_list_146 : decode cX6_list 146 = .ok (.iconst 1, 1) := by decide +kernel
theorem dX6_list_147 : decode cX6_list 147 = .ok (.istore_n 2, 1) := by decide +kernel
theorem dX6_list_148 : decode cX6_list 148 = .ok (.aload_n 0, 1) := by decide +kernel
theorem dX6_list_149 : decode cX6_list 149 = .ok (.getfield 28, 3) := by decide +kernel
theorem dX6_list_152 : decode cX6_list 152 = .ok (.iload_n 1, 1) := by decide +kernel
theorem dX6_list_153 : decode cX6_list 153 = .ok (.iload_n 2, 1) := by decide +kernel
theorem dX6_list_154 : decode cX6_list 154 = .ok (.iastore, 1) := by decide +kernel
theorem dX6_list_155 : decode cX6_list 155 = .ok (.iload_n 2, 1) := by decide +kernel
theorem dX6_list_156 : decode cX6_list 156 = .ok (.ireturn, 1) := by decide +kernel
theorem dX6_hasKing_0 : decode cX6_hasKing 0 = .ok (.iconst 0, 1) := by decide +kernel
theorem dX6_hasKing_1 : decode cX6_hasKing 1 = .ok (.istore_n 3, 1) := by decide +kernel
theorem dX6_hasKing_2 : decode cX6_hasKing 2 = .ok (.iconst 0, 1) := by decide +kernel
theorem dX6_hasKing_3 : decode cX6_hasKing 3 = .ok (.istore 4, 2) := by decide +kernel
theorem dX6_hasKing_5 : decode cX6_hasKing 5 = .ok (.iload 4, 2) := by decide +kernel
theorem dX6_hasKing_7 : decode cX6_hasKing 7 = .ok (.aload_n 0, 1) := by decide +kernel
theorem dX6_hasKing_8 : decode cX6_hasKing 8 = .ok (.getfield 47, 3) := by decide +kernel
theorem dX6_hasKing_11 : decode cX6_hasKing 11 = .ok (.aload_n 0, 1) := by decide +kernel
theorem dX6_hasKing_12 : decode cX6_hasKing 12 = .ok (.getfield 51, 3) := by decide +kernel
theorem dX6_hasKing_15 : decode cX6_hasKing 15 = .ok (.imul, 1) := by decide +kernel
theorem dX6_hasKing_16 : decode cX6_hasKing 16 = .ok (.if_icmp .ge 45, 3) := by decide +kernel
theorem dX6_hasKing_19 : decode cX6_hasKing 19 = .ok (.iload_n 3, 1) := by decide +kernel
theorem dX6_hasKing_20 : decode cX6_hasKing 20 = .ok (.ifCond .ne 29, 3) := by decide +kernel
theorem dX6_hasKing_23 : decode cX6_hasKing 23 = .ok (.aload_n 0, 1) := by decide +kernel
theorem dX6_hasKing_24 : decode cX6_hasKing 24 = .ok (.getfield 7, 3) := by decide +kernel
theorem dX6_hasKing_27 : decode cX6_hasKing 27 = .ok (.bipush 16, 2) := by decide +kernel
theorem dX6_hasKing_29 : decode cX6_hasKing 29 = .ok (.iload_n 1, 1) := by decide +kernel
theorem dX6_hasKing_30 : decode cX6_hasKing 30 = .ok (.imul, 1) := by decide +kernel
theorem dX6_hasKing_31 : decode cX6_hasKing 31 = .ok (.iload 4, 2) := by decide +kernel
theorem dX6_hasKing_33 : decode cX6_hasKing 33 = .ok (.iadd, 1) := by decide +kernel
theorem dX6_hasKing_34 : decode cX6_hasKing 34 = .ok (.iaload, 1) := by decide +kernel
theorem dX6_hasKing_35 : decode cX6_hasKing 35 = .ok (.iload_n 2, 1) := by decide +kernel
theorem dX6_hasKing_36 : decode cX6_hasKing 36 = .ok (.ifCond .ne 8, 3) := by decide +kernel
theorem dX6_hasKing_39 : decode cX6_hasKing 39 = .ok (.bipush 75, 2) := by decide +kernel
theorem dX6_hasKing_41 : decode cX6_hasKing 41 = .ok (.goto 5, 3) := by decide +kernel
theorem dX6_hasKing_44 : decode cX6_hasKing 44 = .ok (.bipush 107, 2) := by decide +kernel
theorem dX6_hasKing_46 : decode cX6_hasKing 46 = .ok (.if_icmp .ne 7, 3) := by decide +kernel
theorem dX6_hasKing_49 : decode cX6_hasKing 49 = .ok (.iconst 1, 1) := by decide +kernel
theorem dX6_hasKing_50 : decode cX6_hasKing 50 = .ok (.goto 4, 3) := by decide +kernel
theorem dX6_hasKing_53 : decode cX6_hasKing 53 = .ok (.iconst 0, 1) := by decide +kernel
theorem dX6_hasKing_54 : decode cX6_hasKing 54 = .ok (.istore_n 3, 1) := by decide +kernel
theorem dX6_hasKing_55 : decode cX6_hasKing 55 = .ok (.iinc 4 1, 3) := by decide +kernel
theorem dX6_hasKing_58 : decode cX6_hasKing 58 = .ok (.goto (-53), 3) := by decide +kernel
theorem dX6_hasKing_61 : decode cX6_hasKing 61 = .ok (.iload_n 3, 1) := by decide +kernel
theorem dX6_hasKing_62 : decode cX6_hasKing 62 = .ok (.ireturn, 1) := by decide +kernel
theorem dX6_make_0 : decode cX6_make 0 = .ok (.iconst 0, 1) := by decide +kernel
theorem dX6_make_1 : decode cX6_make 1 = .ok (.istore 4, 2) := by decide +kernel
theorem dX6_make_3 : decode cX6_make 3 = .ok (.iload 4, 2) := by decide +kernel
theorem dX6_make_5 : decode cX6_make 5 = .ok (.bipush 16, 2) := by decide +kernel
theorem dX6_make_7 : decode cX6_make 7 = .ok (.if_icmp .ge 94, 3) := by decide +kernel
theorem dX6_make_10 : decode cX6_make 10 = .ok (.aload_n 0, 1) := by decide +kernel
theorem dX6_make_11 : decode cX6_make 11 = .ok (.getfield 7, 3) := by decide +kernel
theorem dX6_make_14 : decode cX6_make 14 = .ok (.bipush 16, 2) := by decide +kernel
theorem dX6_make_16 : decode cX6_make 16 = .ok (.iload_n 1, 1) := by decide +kernel
theorem dX6_make_17 : decode cX6_make 17 = .ok (.imul, 1) := by decide +kernel
theorem dX6_make_18 : decode cX6_make 18 = .ok (.iload 4, 2) := by decide +kernel
theorem dX6_make_20 : decode cX6_make 20 = .ok (.iadd, 1) := by decide +kernel
theorem dX6_make_21 : decode cX6_make 21 = .ok (.iaload, 1) := by decide +kernel
theorem dX6_make_22 : decode cX6_make 22 = .ok (.istore 5, 2) := by decide +kernel
theorem dX6_make_24 : decode cX6_make 24 = .ok (.aload_n 0, 1) := by decide +kernel
theorem dX6_make_25 : decode cX6_make 25 = .ok (.getfield 13, 3) := by decide +kernel
theorem dX6_make_28 : decode cX6_make 28 = .ok (.bipush 16, 2) := by decide +kernel
theorem dX6_make_30 : decode cX6_make 30 = .ok (.iload_n 1, 1) := by decide +kernel
theorem dX6_make_31 : decode cX6_make 31 = .ok (.imul, 1) := by decide +kernel
theorem dX6_make_32 : decode cX6_make 32 = .ok (.iload 4, 2) := by decide +kernel
theorem dX6_make_34 : decode cX6_make 34 = .ok (.iadd, 1) := by decide +kernel
theorem dX6_make_35 : decode cX6_make 35 = .ok (.iaload, 1) := by decide +kernel
theorem dX6_make_36 : decode cX6_make 36 = .ok (.istore 6, 2) := by decide +kernel
theorem dX6_make_38 : decode cX6_make 38 = .ok (.aload_n 0, 1) := by decide +kernel
theorem dX6_make_39 : decode cX6_make 39 = .ok (.getfield 7, 3) := by decide +kernel
theorem dX6_make_42 : decode cX6_make 42 = .ok (.bipush 16, 2) := by decide +kernel
theorem dX6_make_44 : decode cX6_make 44 = .ok (.iload_n 2, 1) := by decide +kernel
theorem dX6_make_45 : decode cX6_make 45 = .ok (.imul, 1) := by decide +kernel
theorem dX6_make_46 : decode cX6_make 46 = .ok (.iload 4, 2) := by decide +kernel
theorem dX6_make_48 : decode cX6_make 48 = .ok (.iadd, 1) := by decide +kernel
theorem dX6_make_49 : decode cX6_make 49 = .ok (.iload 5, 2) := by decide +kernel
theorem dX6_make_51 : decode cX6_make 51 = .ok (.bipush 35, 2) := by decide +kernel
theorem dX6_make_53 : decode cX6_make 53 = .ok (.if_icmp .ne 14, 3) := by decide +kernel
theorem dX6_make_56 : decode cX6_make 56 = .ok (.iload 6, 2) := by decide +kernel
theorem dX6_make_58 : decode cX6_make 58 = .ok (.iconst 1, 1) := by decide +kernel
theorem dX6_make_59 : decode cX6_make 59 = .ok (.if_icmp .ne 8, 3) := by decide +kernel
theorem dX6_make_62 : decode cX6_make 62 = .ok (.bipush 46, 2) := by decide +kernel
theorem dX6_make_64 : decode cX6_make 64 = .ok (.goto 5, 3) := by decide +kernel
theorem dX6_make_67 : decode cX6_make 67 = .ok (.iload 5, 2) := by decide +kernel
theorem dX6_make_69 : decode cX6_make 69 = .ok (.iastore, 1) := by decide +kernel
theorem dX6_make_70 : decode cX6_make 70 = .ok (.aload_n 0, 1) := by decide +kernel
theorem dX6_make_71 : decode cX6_make 71 = .ok (.getfield 13, 3) := by decide +kernel
theorem dX6_make_74 : decode cX6_make 74 = .ok (.bipush 16, 2) := by decide +kernel
theorem dX6_make_76 : decode cX6_make 76 = .ok (.iload_n 2, 1) := by decide +kernel
theorem dX6_make_77 : decode cX6_make 77 = .ok (.imul, 1) := by decide +kernel
theorem dX6_make_78 : decode cX6_make 78 = .ok (.iload 4, 2) := by decide +kernel
theorem dX6_make_80 : decode cX6_make 80 = .ok (.iadd, 1) := by decide +kernel
theorem dX6_make_81 : decode cX6_make 81 = .ok (.iload 6, 2) := by decide +kernel
theorem dX6_make_83 : decode cX6_make 83 = .ok (.ifCond .le 10, 3) := by decide +kernel
theorem dX6_make_86 : decode cX6_make 86 = .ok (.iload 6, 2) := by decide +kernel
theorem dX6_make_88 : decode cX6_make 88 = .ok (.iconst 1, 1) := by decide +kernel
theorem dX6_make_89 : decode cX6_make 89 = .ok (.isub, 1) := by decide +kernel
theorem dX6_make_90 : decode cX6_make 90 = .ok (.goto 4, 3) := by decide +kernel
theorem dX6_make_93 : decode cX6_make 93 = .ok (.iconst 0, 1) := by decide +kernel
theorem dX6_make_94 : decode cX6_make 94 = .ok (.iastore, 1) := by decide +kernel
theorem dX6_make_95 : decode cX6_make 95 = .ok (.iinc 4 1, 3) := by decide +kernel
theorem dX6_make_98 : decode cX6_make 98 = .ok (.goto (-95), 3) := by decide +kernel
theorem dX6_make_101 : decode cX6_make 101 = .ok (.aload_n 0, 1) := by decide +kernel
theorem dX6_make_102 : decode cX6_make 102 = .ok (.getfield 16, 3) := by decide +kernel
theorem dX6_make_105 : decode cX6_make 105 = .ok (.iload_n 1, 1) := by decide +kernel
theorem dX6_make_106 : decode cX6_make 106 = .ok (.iaload, 1) := by decide +kernel
theorem dX6_make_107 : decode cX6_make 107 = .ok (.istore 4, 2) := by decide +kernel
theorem dX6_make_109 : decode cX6_make 109 = .ok (.aload_n 0, 1) := by decide +kernel
theorem dX6_make_110 : decode cX6_make 110 = .ok (.getfield 16, 3) := by decide +kernel
theorem dX6_make_113 : decode cX6_make 113 = .ok (.iload_n 2, 1) := by decide +kernel
theorem dX6_make_114 : decode cX6_make 114 = .ok (.iconst 1, 1) := by decide +kernel
theorem dX6_make_115 : decode cX6_make 115 = .ok (.iload 4, 2) := by decide +kernel
theorem dX6_make_117 : decode cX6_make 117 = .ok (.isub, 1) := by decide +kernel
theorem dX6_make_118 : decode cX6_make 118 = .ok (.iastore, 1) := by decide +kernel
theorem dX6_make_119 : decode cX6_make 119 = .ok (.aload_n 0, 1) := by decide +kernel
theorem dX6_make_120 : decode cX6_make 120 = .ok (.getfield 19, 3) := by decide +kernel
theorem dX6_make_123 : decode cX6_make 123 = .ok (.iload_n 2, 1) := by decide +kernel
theorem dX6_make_124 : decode cX6_make 124 = .ok (.bipush (-9), 2) := by decide +kernel
theorem dX6_make_126 : decode cX6_make 126 = .ok (.iastore, 1) := by decide +kernel
theorem dX6_make_127 : decode cX6_make 127 = .ok (.iload_n 3, 1) := by decide +kernel
theorem dX6_make_128 : decode cX6_make 128 = .ok (.sipush 999, 3) := by decide +kernel
theorem dX6_make_131 : decode cX6_make 131 = .ok (.if_icmp .ne 5, 3) := by decide +kernel
theorem dX6_make_134 : decode cX6_make 134 = .ok (.iconst 0, 1) := by decide +kernel
theorem dX6_make_135 : decode cX6_make 135 = .ok (.ireturn, 1) := by decide +kernel
theorem dX6_make_136 : decode cX6_make 136 = .ok (.bipush 16, 2) := by decide +kernel
theorem dX6_make_138 : decode cX6_make 138 = .ok (.iload_n 2, 1) := by decide +kernel
theorem dX6_make_139 : decode cX6_make 139 = .ok (.imul, 1) := by decide +kernel
theorem dX6_make_140 : decode cX6_make 140 = .ok (.iload_n 3, 1) := by decide +kernel
theorem dX6_make_141 : decode cX6_make 141 = .ok (.bipush 16, 2) := by decide +kernel
theorem dX6_make_143 : decode cX6_make 143 = .ok (.idiv, 1) := by decide +kernel
theorem dX6_make_144 : decode cX6_make 144 = .ok (.iadd, 1) := by decide +kernel
theorem dX6_make_145 : decode cX6_make 145 = .ok (.istore 5, 2) := by decide +kernel
theorem dX6_make_147 : decode cX6_make 147 = .ok (.bipush 16, 2) := by decide +kernel
theorem dX6_make_149 : decode cX6_make 149 = .ok (.iload_n 2, 1) := by decide +kernel
theorem dX6_make_150 : decode cX6_make 150 = .ok (.imul, 1) := by decide +kernel
theorem dX6_make_151 : decode cX6_make 151 = .ok (.iload_n 3, 1) := by decide +kernel
theorem dX6_make_152 : decode cX6_make 152 = .ok (.bipush 16, 2) := by decide +kernel
theorem dX6_make_154 : decode cX6_make 154 = .ok (.irem, 1) := by decide +kernel
theorem dX6_make_155 : decode cX6_make 155 = .ok (.iadd, 1) := by decide +kernel
theorem dX6_make_156 : decode cX6_make 156 = .ok (.istore 6, 2) := by decide +kernel
theorem dX6_make_158 : decode cX6_make 158 = .ok (.aload_n 0, 1) := by decide +kernel
theorem dX6_make_159 : decode cX6_make 159 = .ok (.getfield 7, 3) := by decide +kernel
theorem dX6_make_162 : decode cX6_make 162 = .ok (.iload 6, 2) := by decide +kernel
theorem dX6_make_164 : decode cX6_make 164 = .ok (.iaload, 1) := by decide +kernel
theorem dX6_make_165 : decode cX6_make 165 = .ok (.istore 7, 2) := by decide +kernel
theorem dX6_make_167 : decode cX6_make 167 = .ok (.iload 7, 2) := by decide +kernel
theorem dX6_make_169 : decode cX6_make 169 = .ok (.invokestatic 65, 3) := by decide +kernel
theorem dX6_make_172 : decode cX6_make 172 = .ok (.bipush (-9), 2) := by decide +kernel
theorem dX6_make_174 : decode cX6_make 174 = .ok (.if_icmp .ne 28, 3) := by decide +kernel
theorem dX6_make_177 : decode cX6_make 177 = .ok (.aload_n 0, 1) := by decide +kernel
theorem dX6_make_178 : decode cX6_make 178 = .ok (.getfield 7, 3) := by decide +kernel
theorem dX6_make_181 : decode cX6_make 181 = .ok (.iload 6, 2) := by decide +kernel
theorem dX6_make_183 : decode cX6_make 183 = .ok (.aload_n 0, 1) := by decide +kernel
theorem dX6_make_184 : decode cX6_make 184 = .ok (.getfield 7, 3) := by decide +kernel
theorem dX6_make_187 : decode cX6_make 187 = .ok (.iload 5, 2) := by decide +kernel
theorem dX6_make_189 : decode cX6_make 189 = .ok (.iaload, 1) := by decide +kernel
theorem dX6_make_190 : decode cX6_make 190 = .ok (.iastore, 1) := by decide +kernel
theorem dX6_make_191 : decode cX6_make 191 = .ok (.aload_n 0, 1) := by decide +kernel
theorem dX6_make_192 : decode cX6_make 192 = .ok (.getfield 7, 3) := by decide +kernel
theorem dX6_make_195 : decode cX6_make 195 = .ok (.iload 5, 2) := by decide +kernel
theorem dX6_make_197 : decode cX6_make 197 = .ok (.bipush 46, 2) := by decide +kernel
theorem dX6_make_199 : decode cX6_make 199 = .ok (.iastore, 1) := by decide +kernel
theorem dX6_make_200 : decode cX6_make 200 = .ok (.iconst 0, 1) := by decide +kernel
theorem dX6_make_201 : decode cX6_make 201 = .ok (.ireturn, 1) := by decide +kernel
theorem dX6_make_202 : decode cX6_make 202 = .ok (.aload_n 0, 1) := by decide +kernel
theorem dX6_make_203 : decode cX6_make 203 = .ok (.getfield 7, 3) := by decide +kernel
theorem dX6_make_206 : decode cX6_make 206 = .ok (.iload 6, 2) := by decide +kernel
theorem dX6_make_208 : decode cX6_make 208 = .ok (.bipush 35, 2) := by decide +kernel
theorem dX6_make_210 : decode cX6_make 210 = .ok (.iastore, 1) := by decide +kernel
theorem dX6_make_211 : decode cX6_make 211 = .ok (.aload_n 0, 1) := by decide +kernel
theorem dX6_make_212 : decode cX6_make 212 = .ok (.getfield 13, 3) := by decide +kernel
theorem dX6_make_215 : decode cX6_make 215 = .ok (.iload 6, 2) := by decide +kernel
theorem dX6_make_217 : decode cX6_make 217 = .ok (.aload_n 0, 1) := by decide +kernel
theorem dX6_make_218 : decode cX6_make 218 = .ok (.getfield 88, 3) := by decide +kernel
theorem dX6_make_221 : decode cX6_make 221 = .ok (.iastore, 1) := by decide +kernel
theorem dX6_make_222 : decode cX6_make 222 = .ok (.iload 7, 2) := by decide +kernel
theorem dX6_make_224 : decode cX6_make 224 = .ok (.invokestatic 105, 3) := by decide +kernel
theorem dX6_make_227 : decode cX6_make 227 = .ok (.bipush 75, 2) := by decide +kernel
theorem dX6_make_229 : decode cX6_make 229 = .ok (.if_icmp .ne 7, 3) := by decide +kernel
theorem dX6_make_232 : decode cX6_make 232 = .ok (.iconst 1, 1) := by decide +kernel
theorem dX6_make_233 : decode cX6_make 233 = .ok (.goto 4, 3) := by decide +kernel
theorem dX6_make_236 : decode cX6_make 236 = .ok (.iconst 0, 1) := by decide +kernel
theorem dX6_make_237 : decode cX6_make 237 = .ok (.istore 8, 2) := by decide +kernel
theorem dX6_make_239 : decode cX6_make 239 = .ok (.aload_n 0, 1) := by decide +kernel
theorem dX6_make_240 : decode cX6_make 240 = .ok (.getfield 19, 3) := by decide +kernel
theorem dX6_make_243 : decode cX6_make 243 = .ok (.iload_n 2, 1) := by decide +kernel
theorem dX6_make_244 : decode cX6_make 244 = .ok (.iload 8, 2) := by decide +kernel
theorem dX6_make_246 : decode cX6_make 246 = .ok (.ifCond .eq 22, 3) := by decide +kernel
theorem dX6_make_249 : decode cX6_make 249 = .ok (.aload_n 0, 1) := by decide +kernel
theorem dX6_make_250 : decode cX6_make 250 = .ok (.iload_n 2, 1) := by decide +kernel
theorem dX6_make_251 : decode cX6_make 251 = .ok (.iconst 1, 1) := by decide +kernel
theorem dX6_make_252 : decode cX6_make 252 = .ok (.iload 4, 2) := by decide +kernel
theorem dX6_make_254 : decode cX6_make 254 = .ok (.isub, 1) := by decide +kernel
theorem dX6_make_255 : decode cX6_make 255 = .ok (.invokevirtual 126, 3) := by decide +kernel
theorem dX6_make_258 : decode cX6_make 258 = .ok (.ifCond .ne 10, 3) := by decide +kernel
theorem dX6_make_261 : decode cX6_make 261 = .ok (.iconst 1, 1) := by decide +kernel
theorem dX6_make_262 : decode cX6_make 262 = .ok (.iload 4, 2) := by decide +kernel
theorem dX6_make_264 : decode cX6_make 264 = .ok (.isub, 1) := by decide +kernel
theorem dX6_make_265 : decode cX6_make 265 = .ok (.goto 5, 3) := by decide +kernel
theorem dX6_make_268 : decode cX6_make 268 = .ok (.bipush (-9), 2) := by decide +kernel
theorem dX6_make_270 : decode cX6_make 270 = .ok (.iastore, 1) := by decide +kernel
theorem dX6_make_271 : decode cX6_make 271 = .ok (.iload 8, 2) := by decide +kernel
theorem dX6_make_273 : decode cX6_make 273 = .ok (.ifCond .eq 7, 3) := by decide +kernel
theorem dX6_make_276 : decode cX6_make 276 = .ok (.iconst 1, 1) := by decide +kernel
theorem dX6_make_277 : decode cX6_make 277 = .ok (.goto 4, 3) := by decide +kernel
theorem dX6_make_280 : decode cX6_make 280 = .ok (.iconst 0, 1) := by decide +kernel
theorem dX6_make_281 : decode cX6_make 281 = .ok (.ireturn, 1) := by decide +kernel
theorem dX6_plies_0 : decode cX6_plies 0 = .ok (.aload_n 0, 1) := by decide +kernel
theorem dX6_plies_1 : decode cX6_plies 1 = .ok (.iconst 0, 1) := by decide +kernel
theorem dX6_plies_2 : decode cX6_plies 2 = .ok (.invokevirtual 130, 3) := by decide +kernel
theorem dX6_plies_5 : decode cX6_plies 5 = .ok (.ireturn, 1) := by decide +kernel
theorem dX6_keepPly_0 : decode cX6_keepPly 0 = .ok (.iconst 0, 1) := by decide +kernel
theorem dX6_keepPly_1 : decode cX6_keepPly 1 = .ok (.istore_n 1, 1) := by decide +kernel
theorem dX6_keepPly_2 : decode cX6_keepPly 2 = .ok (.iload_n 1, 1) := by decide +kernel
theorem dX6_keepPly_3 : decode cX6_keepPly 3 = .ok (.bipush 16, 2) := by decide +kernel
theorem dX6_keepPly_5 : decode cX6_keepPly 5 = .ok (.if_icmp .ge 52, 3) := by decide +kernel
theorem dX6_keepPly_8 : decode cX6_keepPly 8 = .ok (.aload_n 0, 1) := by decide +kernel
theorem dX6_keepPly_9 : decode cX6_keepPly 9 = .ok (.getfield 31, 3) := by decide +kernel
theorem dX6_keepPly_12 : decode cX6_keepPly 12 = .ok (.bipush 34, 2) := by decide +kernel
theorem dX6_keepPly_14 : decode cX6_keepPly 14 = .ok (.aload_n 0, 1) := by decide +kernel
theorem dX6_keepPly_15 : decode cX6_keepPly 15 = .ok (.getfield 133, 3) := by decide +kernel
theorem dX6_keepPly_18 : decode cX6_keepPly 18 = .ok (.imul, 1) := by decide +kernel
theorem dX6_keepPly_19 : decode cX6_keepPly 19 = .ok (.iload_n 1, 1) := by decide +kernel
theorem dX6_keepPly_20 : decode cX6_keepPly 20 = .ok (.iadd, 1) := by decide +kernel
theorem dX6_keepPly_21 : decode cX6_keepPly 21 = .ok (.aload_n 0, 1) := by decide +kernel
theorem dX6_keepPly_22 : decode cX6_keepPly 22 = .ok (.getfield 7, 3) := by decide +kernel
theorem dX6_keepPly_25 : decode cX6_keepPly 25 = .ok (.iload_n 1, 1) := by decide +kernel
theorem dX6_keepPly_26 : decode cX6_keepPly 26 = .ok (.iaload, 1) := by decide +kernel
theorem dX6_keepPly_27 : decode cX6_keepPly 27 = .ok (.iastore, 1) := by decide +kernel
theorem dX6_keepPly_28 : decode cX6_keepPly 28 = .ok (.aload_n 0, 1) := by decide +kernel
theorem dX6_keepPly_29 : decode cX6_keepPly 29 = .ok (.getfield 31, 3) := by decide +kernel
theorem dX6_keepPly_32 : decode cX6_keepPly 32 = .ok (.bipush 34, 2) := by decide +kernel
theorem dX6_keepPly_34 : decode cX6_keepPly 34 = .ok (.aload_n 0, 1) := by decide +kernel
theorem dX6_keepPly_35 : decode cX6_keepPly 35 = .ok (.getfield 133, 3) := by decide +kernel
theorem dX6_keepPly_38 : decode cX6_keepPly 38 = .ok (.imul, 1) := by decide +kernel
theorem dX6_keepPly_39 : decode cX6_keepPly 39 = .ok (.bipush 16, 2) := by decide +kernel
theorem dX6_keepPly_41 : decode cX6_keepPly 41 = .ok (.iadd, 1) := by decide +kernel
theorem dX6_keepPly_42 : decode cX6_keepPly 42 = .ok (.iload_n 1, 1) := by decide +kernel
theorem dX6_keepPly_43 : decode cX6_keepPly 43 = .ok (.iadd, 1) := by decide +kernel
theorem dX6_keepPly_44 : decode cX6_keepPly 44 = .ok (.aload_n 0, 1) := by decide +kernel
theorem dX6_keepPly_45 : decode cX6_keepPly 45 = .ok (.getfield 13, 3) := by decide +kernel
theorem dX6_keepPly_48 : decode cX6_keepPly 48 = .ok (.iload_n 1, 1) := by decide +kernel
theorem dX6_keepPly_49 : decode cX6_keepPly 49 = .ok (.iaload, 1) := by decide +kernel
theorem dX6_keepPly_50 : decode cX6_keepPly 50 = .ok (.iastore, 1) := by decide +kernel
theorem dX6_keepPly_51 : decode cX6_keepPly 51 = .ok (.iinc 1 1, 3) := by decide +kernel
theorem dX6_keepPly_54 : decode cX6_keepPly 54 = .ok (.goto (-52), 3) := by decide +kernel
theorem dX6_keepPly_57 : decode cX6_keepPly 57 = .ok (.aload_n 0, 1) := by decide +kernel
theorem dX6_keepPly_58 : decode cX6_keepPly 58 = .ok (.getfield 31, 3) := by decide +kernel
theorem dX6_keepPly_61 : decode cX6_keepPly 61 = .ok (.bipush 34, 2) := by decide +kernel
theorem dX6_keepPly_63 : decode cX6_keepPly 63 = .ok (.aload_n 0, 1) := by decide +kernel
theorem dX6_keepPly_64 : decode cX6_keepPly 64 = .ok (.getfield 133, 3) := by decide +kernel
theorem dX6_keepPly_67 : decode cX6_keepPly 67 = .ok (.imul, 1) := by decide +kernel
theorem dX6_keepPly_68 : decode cX6_keepPly 68 = .ok (.bipush 32, 2) := by decide +kernel
theorem dX6_keepPly_70 : decode cX6_keepPly 70 = .ok (.iadd, 1) := by decide +kernel
theorem dX6_keepPly_71 : decode cX6_keepPly 71 = .ok (.aload_n 0, 1) := by decide +kernel
theorem dX6_keepPly_72 : decode cX6_keepPly 72 = .ok (.getfield 16, 3) := by decide +kernel
theorem dX6_keepPly_75 : decode cX6_keepPly 75 = .ok (.iconst 0, 1) := by decide +kernel
theorem dX6_keepPly_76 : decode cX6_keepPly 76 = .ok (.iaload, 1) := by decide +kernel
theorem dX6_keepPly_77 : decode cX6_keepPly 77 = .ok (.iastore, 1) := by decide +kernel
theorem dX6_keepPly_78 : decode cX6_keepPly 78 = .ok (.aload_n 0, 1) := by decide +kernel
theorem dX6_keepPly_79 : decode cX6_keepPly 79 = .ok (.getfield 31, 3) := by decide +kernel
theorem dX6_keepPly_82 : decode cX6_keepPly 82 = .ok (.bipush 34, 2) := by decide +kernel
theorem dX6_keepPly_84 : decode cX6_keepPly 84 = .ok (.aload_n 0, 1) := by decide +kernel
theorem dX6_keepPly_85 : decode cX6_keepPly 85 = .ok (.getfield 133, 3) := by decide +kernel
theorem dX6_keepPly_88 : decode cX6_keepPly 88 = .ok (.imul, 1) := by decide +kernel
theorem dX6_keepPly_89 : decode cX6_keepPly 89 = .ok (.bipush 33, 2) := by decide +kernel
theorem dX6_keepPly_91 : decode cX6_keepPly 91 = .ok (.iadd, 1) := by decide +kernel
theorem dX6_keepPly_92 : decode cX6_keepPly 92 = .ok (.aload_n 0, 1) := by decide +kernel
theorem dX6_keepPly_93 : decode cX6_keepPly 93 = .ok (.getfield 19, 3) := by decide +kernel
theorem dX6_keepPly_96 : decode cX6_keepPly 96 = .ok (.iconst 0, 1) := by decide +kernel
theorem dX6_keepPly_97 : decode cX6_keepPly 97 = .ok (.iaload, 1) := by decide +kernel
theorem dX6_keepPly_98 : decode cX6_keepPly 98 = .ok (.iastore, 1) := by decide +kernel
theorem dX6_keepPly_99 : decode cX6_keepPly 99 = .ok (.aload_n 0, 1) := by decide +kernel
theorem dX6_keepPly_100 : decode cX6_keepPly 100 = .ok (.aload_n 0, 1) := by decide +kernel
theorem dX6_keepPly_101 : decode cX6_keepPly 101 = .ok (.getfield 133, 3) := by decide +kernel
theorem dX6_keepPly_104 : decode cX6_keepPly 104 = .ok (.iconst 1, 1) := by decide +kernel
theorem dX6_keepPly_105 : decode cX6_keepPly 105 = .ok (.iadd, 1) := by decide +kernel
theorem dX6_keepPly_106 : decode cX6_keepPly 106 = .ok (.bipush 16, 2) := by decide +kernel
theorem dX6_keepPly_108 : decode cX6_keepPly 108 = .ok (.irem, 1) := by decide +kernel
theorem dX6_keepPly_109 : decode cX6_keepPly 109 = .ok (.putfield 133, 3) := by decide +kernel
theorem dX6_keepPly_112 : decode cX6_keepPly 112 = .ok (.aload_n 0, 1) := by decide +kernel
theorem dX6_keepPly_113 : decode cX6_keepPly 113 = .ok (.aload_n 0, 1) := by decide +kernel
theorem dX6_keepPly_114 : decode cX6_keepPly 114 = .ok (.getfield 91, 3) := by decide +kernel
theorem dX6_keepPly_117 : decode cX6_keepPly 117 = .ok (.bipush 16, 2) := by decide +kernel
theorem dX6_keepPly_119 : decode cX6_keepPly 119 = .ok (.if_icmp .ge 12, 3) := by decide +kernel
theorem dX6_keepPly_122 : decode cX6_keepPly 122 = .ok (.aload_n 0, 1) := by decide +kernel
theorem dX6_keepPly_123 : decode cX6_keepPly 123 = .ok (.getfield 91, 3) := by decide +kernel
theorem dX6_keepPly_126 : decode cX6_keepPly 126 = .ok (.iconst 1, 1) := by decide +kernel
theorem dX6_keepPly_127 : decode cX6_keepPly 127 = .ok (.iadd, 1) := by decide +kernel
theorem dX6_keepPly_128 : decode cX6_keepPly 128 = .ok (.goto 5, 3) := by decide +kernel
theorem dX6_keepPly_131 : decode cX6_keepPly 131 = .ok (.bipush 16, 2) := by decide +kernel
theorem dX6_keepPly_133 : decode cX6_keepPly 133 = .ok (.putfield 91, 3) := by decide +kernel
theorem dX6_keepPly_136 : decode cX6_keepPly 136 = .ok (.return_, 1) := by decide +kernel
theorem dX6_isPly_0 : decode cX6_isPly 0 = .ok (.aload_n 0, 1) := by decide +kernel
theorem dX6_isPly_1 : decode cX6_isPly 1 = .ok (.getfield 19, 3) := by decide +kernel
theorem dX6_isPly_4 : decode cX6_isPly 4 = .ok (.iload_n 1, 1) := by decide +kernel
theorem dX6_isPly_5 : decode cX6_isPly 5 = .ok (.iaload, 1) := by decide +kernel
theorem dX6_isPly_6 : decode cX6_isPly 6 = .ok (.bipush (-9), 2) := by decide +kernel
theorem dX6_isPly_8 : decode cX6_isPly 8 = .ok (.if_icmp .ne 44, 3) := by decide +kernel
theorem dX6_isPly_11 : decode cX6_isPly 11 = .ok (.aload_n 0, 1) := by decide +kernel
theorem dX6_isPly_12 : decode cX6_isPly 12 = .ok (.getfield 7, 3) := by decide +kernel
theorem dX6_isPly_15 : decode cX6_isPly 15 = .ok (.bipush 16, 2) := by decide +kernel
theorem dX6_isPly_17 : decode cX6_isPly 17 = .ok (.iload_n 1, 1) := by decide +kernel
theorem dX6_isPly_18 : decode cX6_isPly 18 = .ok (.imul, 1) := by decide +kernel
theorem dX6_isPly_19 : decode cX6_isPly 19 = .ok (.iload_n 2, 1) := by decide +kernel
theorem dX6_isPly_20 : decode cX6_isPly 20 = .ok (.iadd, 1) := by decide +kernel
theorem dX6_isPly_21 : decode cX6_isPly 21 = .ok (.iaload, 1) := by decide +kernel
theorem dX6_isPly_22 : decode cX6_isPly 22 = .ok (.invokestatic 65, 3) := by decide +kernel
theorem dX6_isPly_25 : decode cX6_isPly 25 = .ok (.aload_n 0, 1) := by decide +kernel
theorem dX6_isPly_26 : decode cX6_isPly 26 = .ok (.getfield 16, 3) := by decide +kernel
theorem dX6_isPly_29 : decode cX6_isPly 29 = .ok (.iload_n 1, 1) := by decide +kernel
theorem dX6_isPly_30 : decode cX6_isPly 30 = .ok (.iaload, 1) := by decide +kernel
theorem dX6_isPly_31 : decode cX6_isPly 31 = .ok (.if_icmp .ne 21, 3) := by decide +kernel
theorem dX6_isPly_34 : decode cX6_isPly 34 = .ok (.aload_n 0, 1) := by decide +kernel
theorem dX6_isPly_35 : decode cX6_isPly 35 = .ok (.iload_n 1, 1) := by decide +kernel
theorem dX6_isPly_36 : decode cX6_isPly 36 = .ok (.iload_n 2, 1) := by decide +kernel
theorem dX6_isPly_37 : decode cX6_isPly 37 = .ok (.invokevirtual 122, 3) := by decide +kernel
theorem dX6_isPly_40 : decode cX6_isPly 40 = .ok (.iload_n 3, 1) := by decide +kernel
theorem dX6_isPly_41 : decode cX6_isPly 41 = .ok (.ishr, 1) := by decide +kernel
theorem dX6_isPly_42 : decode cX6_isPly 42 = .ok (.iconst 1, 1) := by decide +kernel
theorem dX6_isPly_43 : decode cX6_isPly 43 = .ok (.iand, 1) := by decide +kernel
theorem dX6_isPly_44 : decode cX6_isPly 44 = .ok (.iconst 1, 1) := by decide +kernel
theorem dX6_isPly_45 : decode cX6_isPly 45 = .ok (.if_icmp .ne 7, 3) := by decide +kernel
theorem dX6_isPly_48 : decode cX6_isPly 48 = .ok (.iconst 1, 1) := by decide +kernel
theorem dX6_isPly_49 : decode cX6_isPly 49 = .ok (.goto 4, 3) := by decide +kernel
theorem dX6_isPly_52 : decode cX6_isPly 52 = .ok (.iconst 0, 1) := by decide +kernel
theorem dX6_isPly_53 : decode cX6_isPly 53 = .ok (.ireturn, 1) := by decide +kernel
theorem dX6_move_0 : decode cX6_move 0 = .ok (.aload_n 0, 1) := by decide +kernel
theorem dX6_move_1 : decode cX6_move 1 = .ok (.iload_n 1, 1) := by decide +kernel
theorem dX6_move_2 : decode cX6_move 2 = .ok (.invokevirtual 94, 3) := by decide +kernel
theorem dX6_move_5 : decode cX6_move 5 = .ok (.ifCond .eq 11, 3) := by decide +kernel
theorem dX6_move_8 : decode cX6_move 8 = .ok (.aload_n 0, 1) := by decide +kernel
theorem dX6_move_9 : decode cX6_move 9 = .ok (.iload_n 2, 1) := by decide +kernel
theorem dX6_move_10 : decode cX6_move 10 = .ok (.invokevirtual 94, 3) := by decide +kernel
theorem dX6_move_13 : decode cX6_move 13 = .ok (.ifCond .ne 5, 3) := by decide +kernel
theorem dX6_move_16 : decode cX6_move 16 = .ok (.iconst (-1), 1) := by decide +kernel
theorem dX6_move_17 : decode cX6_move 17 = .ok (.ireturn, 1) := by decide +kernel
theorem dX6_move_18 : decode cX6_move 18 = .ok (.aload_n 0, 1) := by decide +kernel
theorem dX6_move_19 : decode cX6_move 19 = .ok (.iconst 0, 1) := by decide +kernel
theorem dX6_move_20 : decode cX6_move 20 = .ok (.iload_n 1, 1) := by decide +kernel
theorem dX6_move_21 : decode cX6_move 21 = .ok (.iload_n 2, 1) := by decide +kernel
theorem dX6_move_22 : decode cX6_move 22 = .ok (.invokevirtual 136, 3) := by decide +kernel
theorem dX6_move_25 : decode cX6_move 25 = .ok (.ifCond .ne 6, 3) := by decide +kernel
theorem dX6_move_28 : decode cX6_move 28 = .ok (.bipush (-3), 2) := by decide +kernel
theorem dX6_move_30 : decode cX6_move 30 = .ok (.ireturn, 1) := by decide +kernel
theorem dX6_move_31 : decode cX6_move 31 = .ok (.aload_n 0, 1) := by decide +kernel
theorem dX6_move_32 : decode cX6_move 32 = .ok (.invokevirtual 140, 3) := by decide +kernel
theorem dX6_move_35 : decode cX6_move 35 = .ok (.aload_n 0, 1) := by decide +kernel
theorem dX6_move_36 : decode cX6_move 36 = .ok (.getfield 7, 3) := by decide +kernel
theorem dX6_move_39 : decode cX6_move 39 = .ok (.iload_n 2, 1) := by decide +kernel
theorem dX6_move_40 : decode cX6_move 40 = .ok (.iaload, 1) := by decide +kernel
theorem dX6_move_41 : decode cX6_move 41 = .ok (.istore_n 3, 1) := by decide +kernel
theorem dX6_move_42 : decode cX6_move 42 = .ok (.aload_n 0, 1) := by decide +kernel
theorem dX6_move_43 : decode cX6_move 43 = .ok (.iconst 0, 1) := by decide +kernel
theorem dX6_move_44 : decode cX6_move 44 = .ok (.iconst 0, 1) := by decide +kernel
theorem dX6_move_45 : decode cX6_move 45 = .ok (.bipush 16, 2) := by decide +kernel
theorem dX6_move_47 : decode cX6_move 47 = .ok (.iload_n 1, 1) := by decide +kernel
theorem dX6_move_48 : decode cX6_move 48 = .ok (.imul, 1) := by decide +kernel
theorem dX6_move_49 : decode cX6_move 49 = .ok (.iload_n 2, 1) := by decide +kernel
theorem dX6_move_50 : decode cX6_move 50 = .ok (.iadd, 1) := by decide +kernel
theorem dX6_move_51 : decode cX6_move 51 = .ok (.invokevirtual 143, 3) := by decide +kernel
theorem dX6_move_54 : decode cX6_move 54 = .ok (.pop, 1) := by decide +kernel
theorem dX6_move_55 : decode cX6_move 55 = .ok (.iload_n 3, 1) := by decide +kernel
theorem dX6_move_56 : decode cX6_move 56 = .ok (.ireturn, 1) := by decide +kernel
theorem dX6_pass_0 : decode cX6_pass 0 = .ok (.aload_n 0, 1) := by decide +kernel
theorem dX6_pass_1 : decode cX6_pass 1 = .ok (.iconst 0, 1) := by decide +kernel
theorem dX6_pass_2 : decode cX6_pass 2 = .ok (.invokevirtual 130, 3) := by decide +kernel
theorem dX6_pass_5 : decode cX6_pass 5 = .ok (.pop, 1) := by decide +kernel
theorem dX6_pass_6 : decode cX6_pass 6 = .ok (.aload_n 0, 1) := by decide +kernel
theorem dX6_pass_7 : decode cX6_pass 7 = .ok (.getfield 19, 3) := by decide +kernel
theorem dX6_pass_10 : decode cX6_pass 10 = .ok (.iconst 0, 1) := by decide +kernel
theorem dX6_pass_11 : decode cX6_pass 11 = .ok (.iaload, 1) := by decide +kernel
theorem dX6_pass_12 : decode cX6_pass 12 = .ok (.bipush (-9), 2) := by decide +kernel
theorem dX6_pass_14 : decode cX6_pass 14 = .ok (.if_icmp .ne 15, 3) := by decide +kernel
theorem dX6_pass_17 : decode cX6_pass 17 = .ok (.aload_n 0, 1) := by decide +kernel
theorem dX6_pass_18 : decode cX6_pass 18 = .ok (.getfield 25, 3) := by decide +kernel
theorem dX6_pass_21 : decode cX6_pass 21 = .ok (.iconst 0, 1) := by decide +kernel
theorem dX6_pass_22 : decode cX6_pass 22 = .ok (.iaload, 1) := by decide +kernel
theorem dX6_pass_23 : decode cX6_pass 23 = .ok (.sipush 999, 3) := by decide +kernel
theorem dX6_pass_26 : decode cX6_pass 26 = .ok (.if_icmp .eq 6, 3) := by decide +kernel
theorem dX6_pass_29 : decode cX6_pass 29 = .ok (.bipush (-3), 2) := by decide +kernel
theorem dX6_pass_31 : decode cX6_pass 31 = .ok (.ireturn, 1) := by decide +kernel
theorem dX6_pass_32 : decode cX6_pass 32 = .ok (.aload_n 0, 1) := by decide +kernel
theorem dX6_pass_33 : decode cX6_pass 33 = .ok (.invokevirtual 140, 3) := by decide +kernel
theorem dX6_pass_36 : decode cX6_pass 36 = .ok (.aload_n 0, 1) := by decide +kernel
theorem dX6_pass_37 : decode cX6_pass 37 = .ok (.iconst 0, 1) := by decide +kernel
theorem dX6_pass_38 : decode cX6_pass 38 = .ok (.iconst 0, 1) := by decide +kernel
theorem dX6_pass_39 : decode cX6_pass 39 = .ok (.sipush 999, 3) := by decide +kernel
theorem dX6_pass_42 : decode cX6_pass 42 = .ok (.invokevirtual 143, 3) := by decide +kernel
theorem dX6_pass_45 : decode cX6_pass 45 = .ok (.pop, 1) := by decide +kernel
theorem dX6_pass_46 : decode cX6_pass 46 = .ok (.aload_n 0, 1) := by decide +kernel
theorem dX6_pass_47 : decode cX6_pass 47 = .ok (.getfield 16, 3) := by decide +kernel
theorem dX6_pass_50 : decode cX6_pass 50 = .ok (.iconst 0, 1) := by decide +kernel
theorem dX6_pass_51 : decode cX6_pass 51 = .ok (.iaload, 1) := by decide +kernel
theorem dX6_pass_52 : decode cX6_pass 52 = .ok (.ireturn, 1) := by decide +kernel
theorem dX6_undo_0 : decode cX6_undo 0 = .ok (.aload_n 0, 1) := by decide +kernel
theorem dX6_undo_1 : decode cX6_undo 1 = .ok (.getfield 91, 3) := by decide +kernel
theorem dX6_undo_4 : decode cX6_undo 4 = .ok (.ifCond .ne 6, 3) := by decide +kernel
theorem dX6_undo_7 : decode cX6_undo 7 = .ok (.bipush (-3), 2) := by decide +kernel
theorem dX6_undo_9 : decode cX6_undo 9 = .ok (.ireturn, 1) := by decide +kernel
theorem dX6_undo_10 : decode cX6_undo 10 = .ok (.aload_n 0, 1) := by decide +kernel
theorem dX6_undo_11 : decode cX6_undo 11 = .ok (.dup, 1) := by decide +kernel
theorem dX6_undo_12 : decode cX6_undo 12 = .ok (.getfield 91, 3) := by decide +kernel
theorem dX6_undo_15 : decode cX6_undo 15 = .ok (.iconst 1, 1) := by decide +kernel
theorem dX6_undo_16 : decode cX6_undo 16 = .ok (.isub, 1) := by decide +kernel
theorem dX6_undo_17 : decode cX6_undo 17 = .ok (.putfield 91, 3) := by decide +kernel
theorem dX6_undo_20 : decode cX6_undo 20 = .ok (.aload_n 0, 1) := by decide +kernel
theorem dX6_undo_21 : decode cX6_undo 21 = .ok (.aload_n 0, 1) := by decide +kernel
theorem dX6_undo_22 : decode cX6_undo 22 = .ok (.getfield 133, 3) := by decide +kernel
theorem dX6_undo_25 : decode cX6_undo 25 = .ok (.bipush 15, 2) := by decide +kernel
theorem dX6_undo_27 : decode cX6_undo 27 = .ok (.iadd, 1) := by decide +kernel
theorem dX6_undo_28 : decode cX6_undo 28 = .ok (.bipush 16, 2) := by decide +kernel
theorem dX6_undo_30 : decode cX6_undo 30 = .ok (.irem, 1) := by decide +kernel
theorem dX6_undo_31 : decode cX6_undo 31 = .ok (.putfield 133, 3) := by decide +kernel
theorem dX6_undo_34 : decode cX6_undo 34 = .ok (.iconst 0, 1) := by decide +kernel
theorem dX6_undo_35 : decode cX6_undo 35 = .ok (.istore_n 1, 1) := by decide +kernel
theorem dX6_undo_36 : decode cX6_undo 36 = .ok (.iload_n 1, 1) := by decide +kernel
theorem dX6_undo_37 : decode cX6_undo 37 = .ok (.bipush 16, 2) := by decide +kernel
theorem dX6_undo_39 : decode cX6_undo 39 = .ok (.if_icmp .ge 52, 3) := by decide +kernel
theorem dX6_undo_42 : decode cX6_undo 42 = .ok (.aload_n 0, 1) := by decide +kernel
theorem dX6_undo_43 : decode cX6_undo 43 = .ok (.getfield 7, 3) := by decide +kernel
theorem dX6_undo_46 : decode cX6_undo 46 = .ok (.iload_n 1, 1) := by decide +kernel
theorem dX6_undo_47 : decode cX6_undo 47 = .ok (.aload_n 0, 1) := by decide +kernel
theorem dX6_undo_48 : decode cX6_undo 48 = .ok (.getfield 31, 3) := by decide +kernel
theorem dX6_undo_51 : decode cX6_undo 51 = .ok (.bipush 34, 2) := by decide +kernel
theorem dX6_undo_53 : decode cX6_undo 53 = .ok (.aload_n 0, 1) := by decide +kernel
theorem dX6_undo_54 : decode cX6_undo 54 = .ok (.getfield 133, 3) := by decide +kernel
theorem dX6_undo_57 : decode cX6_undo 57 = .ok (.imul, 1) := by decide +kernel
theorem dX6_undo_58 : decode cX6_undo 58 = .ok (.iload_n 1, 1) := by decide +kernel
theorem dX6_undo_59 : decode cX6_undo 59 = .ok (.iadd, 1) := by decide +kernel
theorem dX6_undo_60 : decode cX6_undo 60 = .ok (.iaload, 1) := by decide +kernel
theorem dX6_undo_61 : decode cX6_undo 61 = .ok (.iastore, 1) := by decide +kernel
theorem dX6_undo_62 : decode cX6_undo 62 = .ok (.aload_n 0, 1) := by decide +kernel
theorem dX6_undo_63 : decode cX6_undo 63 = .ok (.getfield 13, 3) := by decide +kernel
theorem dX6_undo_66 : decode cX6_undo 66 = .ok (.iload_n 1, 1) := by decide +kernel
theorem dX6_undo_67 : decode cX6_undo 67 = .ok (.aload_n 0, 1) := by decide +kernel
theorem dX6_undo_68 : decode cX6_undo 68 = .ok (.getfield 31, 3) := by decide +kernel
theorem dX6_undo_71 : decode cX6_undo 71 = .ok (.bipush 34, 2) := by decide +kernel
theorem dX6_undo_73 : decode cX6_undo 73 = .ok (.aload_n 0, 1) := by decide +kernel
theorem dX6_undo_74 : decode cX6_undo 74 = .ok (.getfield 133, 3) := by decide +kernel
theorem dX6_undo_77 : decode cX6_undo 77 = .ok (.imul, 1) := by decide +kernel
theorem dX6_undo_78 : decode cX6_undo 78 = .ok (.bipush 16, 2) := by decide +kernel
theorem dX6_undo_80 : decode cX6_undo 80 = .ok (.iadd, 1) := by decide +kernel
theorem dX6_undo_81 : decode cX6_undo 81 = .ok (.iload_n 1, 1) := by decide +kernel
theorem dX6_undo_82 : decode cX6_undo 82 = .ok (.iadd, 1) := by decide +kernel
theorem dX6_undo_83 : decode cX6_undo 83 = .ok (.iaload, 1) := by decide +kernel
theorem dX6_undo_84 : decode cX6_undo 84 = .ok (.iastore, 1) := by decide +kernel
theorem dX6_undo_85 : decode cX6_undo 85 = .ok (.iinc 1 1, 3) := by decide +kernel
theorem dX6_undo_88 : decode cX6_undo 88 = .ok (.goto (-52), 3) := by decide +kernel
theorem dX6_undo_91 : decode cX6_undo 91 = .ok (.aload_n 0, 1) := by decide +kernel
theorem dX6_undo_92 : decode cX6_undo 92 = .ok (.getfield 16, 3) := by decide +kernel
theorem dX6_undo_95 : decode cX6_undo 95 = .ok (.iconst 0, 1) := by decide +kernel
theorem dX6_undo_96 : decode cX6_undo 96 = .ok (.aload_n 0, 1) := by decide +kernel
theorem dX6_undo_97 : decode cX6_undo 97 = .ok (.getfield 31, 3) := by decide +kernel
theorem dX6_undo_100 : decode cX6_undo 100 = .ok (.bipush 34, 2) := by decide +kernel
theorem dX6_undo_102 : decode cX6_undo 102 = .ok (.aload_n 0, 1) := by decide +kernel
theorem dX6_undo_103 : decode cX6_undo 103 = .ok (.getfield 133, 3) := by decide +kernel
theorem dX6_undo_106 : decode cX6_undo 106 = .ok (.imul, 1) := by decide +kernel
theorem dX6_undo_107 : decode cX6_undo 107 = .ok (.bipush 32, 2) := by decide +kernel
theorem dX6_undo_109 : decode cX6_undo 109 = .ok (.iadd, 1) := by decide +kernel
theorem dX6_undo_110 : decode cX6_undo 110 = .ok (.iaload, 1) := by decide +kernel
theorem dX6_undo_111 : decode cX6_undo 111 = .ok (.iastore, 1) := by decide +kernel
theorem dX6_undo_112 : decode cX6_undo 112 = .ok (.aload_n 0, 1) := by decide +kernel
theorem dX6_undo_113 : decode cX6_undo 113 = .ok (.getfield 19, 3) := by decide +kernel
theorem dX6_undo_116 : decode cX6_undo 116 = .ok (.iconst 0, 1) := by decide +kernel
theorem dX6_undo_117 : decode cX6_undo 117 = .ok (.aload_n 0, 1) := by decide +kernel
theorem dX6_undo_118 : decode cX6_undo 118 = .ok (.getfield 31, 3) := by decide +kernel
theorem dX6_undo_121 : decode cX6_undo 121 = .ok (.bipush 34, 2) := by decide +kernel
theorem dX6_undo_123 : decode cX6_undo 123 = .ok (.aload_n 0, 1) := by decide +kernel
theorem dX6_undo_124 : decode cX6_undo 124 = .ok (.getfield 133, 3) := by decide +kernel
theorem dX6_undo_127 : decode cX6_undo 127 = .ok (.imul, 1) := by decide +kernel
theorem dX6_undo_128 : decode cX6_undo 128 = .ok (.bipush 33, 2) := by decide +kernel
theorem dX6_undo_130 : decode cX6_undo 130 = .ok (.iadd, 1) := by decide +kernel
theorem dX6_undo_131 : decode cX6_undo 131 = .ok (.iaload, 1) := by decide +kernel
theorem dX6_undo_132 : decode cX6_undo 132 = .ok (.iastore, 1) := by decide +kernel
theorem dX6_undo_133 : decode cX6_undo 133 = .ok (.aload_n 0, 1) := by decide +kernel
theorem dX6_undo_134 : decode cX6_undo 134 = .ok (.getfield 91, 3) := by decide +kernel
theorem dX6_undo_137 : decode cX6_undo 137 = .ok (.ireturn, 1) := by decide +kernel
theorem dX6_tenTo_0 : decode cX6_tenTo 0 = .ok (.iconst 1, 1) := by decide +kernel
theorem dX6_tenTo_1 : decode cX6_tenTo 1 = .ok (.istore_n 1, 1) := by decide +kernel
theorem dX6_tenTo_2 : decode cX6_tenTo 2 = .ok (.iconst 0, 1) := by decide +kernel
theorem dX6_tenTo_3 : decode cX6_tenTo 3 = .ok (.istore_n 2, 1) := by decide +kernel
theorem dX6_tenTo_4 : decode cX6_tenTo 4 = .ok (.iload_n 2, 1) := by decide +kernel
theorem dX6_tenTo_5 : decode cX6_tenTo 5 = .ok (.iload_n 0, 1) := by decide +kernel
theorem dX6_tenTo_6 : decode cX6_tenTo 6 = .ok (.if_icmp .ge 14, 3) := by decide +kernel
theorem dX6_tenTo_9 : decode cX6_tenTo 9 = .ok (.iload_n 1, 1) := by decide +kernel
theorem dX6_tenTo_10 : decode cX6_tenTo 10 = .ok (.bipush 10, 2) := by decide +kernel
theorem dX6_tenTo_12 : decode cX6_tenTo 12 = .ok (.imul, 1) := by decide +kernel
theorem dX6_tenTo_13 : decode cX6_tenTo 13 = .ok (.istore_n 1, 1) := by decide +kernel
theorem dX6_tenTo_14 : decode cX6_tenTo 14 = .ok (.iinc 2 1, 3) := by decide +kernel
theorem dX6_tenTo_17 : decode cX6_tenTo 17 = .ok (.goto (-13), 3) := by decide +kernel
theorem dX6_tenTo_20 : decode cX6_tenTo 20 = .ok (.iload_n 1, 1) := by decide +kernel
theorem dX6_tenTo_21 : decode cX6_tenTo 21 = .ok (.ireturn, 1) := by decide +kernel
theorem dX6_judge_0 : decode cX6_judge 0 = .ok (.iload_n 1, 1) := by decide +kernel
theorem dX6_judge_1 : decode cX6_judge 1 = .ok (.i2l, 1) := by decide +kernel
theorem dX6_judge_2 : decode cX6_judge 2 = .ok (.lconst 1, 1) := by decide +kernel
theorem dX6_judge_3 : decode cX6_judge 3 = .ok (.ldc2_w 146, 3) := by decide +kernel
theorem dX6_judge_6 : decode cX6_judge 6 = .ok (.invokestatic 56, 3) := by decide +kernel
theorem dX6_judge_9 : decode cX6_judge 9 = .ok (.ifCond .eq 21, 3) := by decide +kernel
theorem dX6_judge_12 : decode cX6_judge 12 = .ok (.iload_n 2, 1) := by decide +kernel
theorem dX6_judge_13 : decode cX6_judge 13 = .ok (.i2l, 1) := by decide +kernel
theorem dX6_judge_14 : decode cX6_judge 14 = .ok (.lconst 0, 1) := by decide +kernel
theorem dX6_judge_15 : decode cX6_judge 15 = .ok (.iconst 4, 1) := by decide +kernel
theorem dX6_judge_16 : decode cX6_judge 16 = .ok (.iload_n 1, 1) := by decide +kernel
theorem dX6_judge_17 : decode cX6_judge 17 = .ok (.imul, 1) := by decide +kernel
theorem dX6_judge_18 : decode cX6_judge 18 = .ok (.invokestatic 148, 3) := by decide +kernel
theorem dX6_judge_21 : decode cX6_judge 21 = .ok (.iconst 1, 1) := by decide +kernel
theorem dX6_judge_22 : decode cX6_judge 22 = .ok (.isub, 1) := by decide +kernel
theorem dX6_judge_23 : decode cX6_judge 23 = .ok (.i2l, 1) := by decide +kernel
theorem dX6_judge_24 : decode cX6_judge 24 = .ok (.invokestatic 56, 3) := by decide +kernel
theorem dX6_judge_27 : decode cX6_judge 27 = .ok (.ifCond .ne 6, 3) := by decide +kernel
theorem dX6_judge_30 : decode cX6_judge 30 = .ok (.bipush (-2), 2) := by decide +kernel
theorem dX6_judge_32 : decode cX6_judge 32 = .ok (.ireturn, 1) := by decide +kernel
theorem dX6_judge_33 : decode cX6_judge 33 = .ok (.iconst 0, 1) := by decide +kernel
theorem dX6_judge_34 : decode cX6_judge 34 = .ok (.istore_n 3, 1) := by decide +kernel
theorem dX6_judge_35 : decode cX6_judge 35 = .ok (.iload_n 3, 1) := by decide +kernel
theorem dX6_judge_36 : decode cX6_judge 36 = .ok (.iload_n 1, 1) := by decide +kernel
theorem dX6_judge_37 : decode cX6_judge 37 = .ok (.if_icmp .ge 94, 3) := by decide +kernel
theorem dX6_judge_40 : decode cX6_judge 40 = .ok (.iload_n 2, 1) := by decide +kernel
theorem dX6_judge_41 : decode cX6_judge 41 = .ok (.iconst 4, 1) := by decide +kernel
theorem dX6_judge_42 : decode cX6_judge 42 = .ok (.iload_n 1, 1) := by decide +kernel
theorem dX6_judge_43 : decode cX6_judge 43 = .ok (.iconst 1, 1) := by decide +kernel
theorem dX6_judge_44 : decode cX6_judge 44 = .ok (.isub, 1) := by decide +kernel
theorem dX6_judge_45 : decode cX6_judge 45 = .ok (.iload_n 3, 1) := by decide +kernel
theorem dX6_judge_46 : decode cX6_judge 46 = .ok (.isub, 1) := by decide +kernel
theorem dX6_judge_47 : decode cX6_judge 47 = .ok (.imul, 1) := by decide +kernel
theorem dX6_judge_48 : decode cX6_judge 48 = .ok (.invokestatic 148, 3) := by decide +kernel
theorem dX6_judge_51 : decode cX6_judge 51 = .ok (.idiv, 1) := by decide +kernel
theorem dX6_judge_52 : decode cX6_judge 52 = .ok (.sipush 10000, 3) := by decide +kernel
theorem dX6_judge_55 : decode cX6_judge 55 = .ok (.irem, 1) := by decide +kernel
theorem dX6_judge_56 : decode cX6_judge 56 = .ok (.istore 4, 2) := by decide +kernel
theorem dX6_judge_58 : decode cX6_judge 58 = .ok (.aload_n 0, 1) := by decide +kernel
theorem dX6_judge_59 : decode cX6_judge 59 = .ok (.iload 4, 2) := by decide +kernel
theorem dX6_judge_61 : decode cX6_judge 61 = .ok (.bipush 100, 2) := by decide +kernel
theorem dX6_judge_63 : decode cX6_judge 63 = .ok (.idiv, 1) := by decide +kernel
theorem dX6_judge_64 : decode cX6_judge 64 = .ok (.invokevirtual 94, 3) := by decide +kernel
theorem dX6_judge_67 : decode cX6_judge 67 = .ok (.ifCond .eq 33, 3) := by decide +kernel
theorem dX6_judge_70 : decode cX6_judge 70 = .ok (.aload_n 0, 1) := by decide +kernel
theorem dX6_judge_71 : decode cX6_judge 71 = .ok (.iload 4, 2) := by decide +kernel
theorem dX6_judge_73 : decode cX6_judge 73 = .ok (.bipush 100, 2) := by decide +kernel
theorem dX6_judge_75 : decode cX6_judge 75 = .ok (.irem, 1) := by decide +kernel
theorem dX6_judge_76 : decode cX6_judge 76 = .ok (.invokevirtual 94, 3) := by decide +kernel
theorem dX6_judge_79 : decode cX6_judge 79 = .ok (.ifCond .eq 21, 3) := by decide +kernel
theorem dX6_judge_82 : decode cX6_judge 82 = .ok (.aload_n 0, 1) := by decide +kernel
theorem dX6_judge_83 : decode cX6_judge 83 = .ok (.iload_n 3, 1) := by decide +kernel
theorem dX6_judge_84 : decode cX6_judge 84 = .ok (.iload 4, 2) := by decide +kernel
theorem dX6_judge_86 : decode cX6_judge 86 = .ok (.bipush 100, 2) := by decide +kernel
theorem dX6_judge_88 : decode cX6_judge 88 = .ok (.idiv, 1) := by decide +kernel
theorem dX6_judge_89 : decode cX6_judge 89 = .ok (.iload 4, 2) := by decide +kernel
theorem dX6_judge_91 : decode cX6_judge 91 = .ok (.bipush 100, 2) := by decide +kernel
theorem dX6_judge_93 : decode cX6_judge 93 = .ok (.irem, 1) := by decide +kernel
theorem dX6_judge_94 : decode cX6_judge 94 = .ok (.invokevirtual 136, 3) := by decide +kernel
theorem dX6_judge_97 : decode cX6_judge 97 = .ok (.ifCond .ne 5, 3) := by decide +kernel
theorem dX6_judge_100 : decode cX6_judge 100 = .ok (.iload_n 3, 1) := by decide +kernel
theorem dX6_judge_101 : decode cX6_judge 101 = .ok (.ireturn, 1) := by decide +kernel
theorem dX6_judge_102 : decode cX6_judge 102 = .ok (.aload_n 0, 1) := by decide +kernel
theorem dX6_judge_103 : decode cX6_judge 103 = .ok (.iload_n 3, 1) := by decide +kernel
theorem dX6_judge_104 : decode cX6_judge 104 = .ok (.iload_n 3, 1) := by decide +kernel
theorem dX6_judge_105 : decode cX6_judge 105 = .ok (.iconst 1, 1) := by decide +kernel
theorem dX6_judge_106 : decode cX6_judge 106 = .ok (.iadd, 1) := by decide +kernel
theorem dX6_judge_107 : decode cX6_judge 107 = .ok (.bipush 16, 2) := by decide +kernel
theorem dX6_judge_109 : decode cX6_judge 109 = .ok (.iload 4, 2) := by decide +kernel
theorem dX6_judge_111 : decode cX6_judge 111 = .ok (.bipush 100, 2) := by decide +kernel
theorem dX6_judge_113 : decode cX6_judge 113 = .ok (.idiv, 1) := by decide +kernel
theorem dX6_judge_114 : decode cX6_judge 114 = .ok (.imul, 1) := by decide +kernel
theorem dX6_judge_115 : decode cX6_judge 115 = .ok (.iload 4, 2) := by decide +kernel
theorem dX6_judge_117 : decode cX6_judge 117 = .ok (.bipush 100, 2) := by decide +kernel
theorem dX6_judge_119 : decode cX6_judge 119 = .ok (.irem, 1) := by decide +kernel
theorem dX6_judge_120 : decode cX6_judge 120 = .ok (.iadd, 1) := by decide +kernel
theorem dX6_judge_121 : decode cX6_judge 121 = .ok (.invokevirtual 143, 3) := by decide +kernel
theorem dX6_judge_124 : decode cX6_judge 124 = .ok (.pop, 1) := by decide +kernel
theorem dX6_judge_125 : decode cX6_judge 125 = .ok (.iinc 3 1, 3) := by decide +kernel
theorem dX6_judge_128 : decode cX6_judge 128 = .ok (.goto (-93), 3) := by decide +kernel
theorem dX6_judge_131 : decode cX6_judge 131 = .ok (.bipush (-9), 2) := by decide +kernel
theorem dX6_judge_133 : decode cX6_judge 133 = .ok (.ireturn, 1) := by decide +kernel
theorem dX6_winsNow_0 : decode cX6_winsNow 0 = .ok (.aload_n 0, 1) := by decide +kernel
theorem dX6_winsNow_1 : decode cX6_winsNow 1 = .ok (.iload_n 1, 1) := by decide +kernel
theorem dX6_winsNow_2 : decode cX6_winsNow 2 = .ok (.invokevirtual 130, 3) := by decide +kernel
theorem dX6_winsNow_5 : decode cX6_winsNow 5 = .ok (.istore_n 2, 1) := by decide +kernel
theorem dX6_winsNow_6 : decode cX6_winsNow 6 = .ok (.iconst 0, 1) := by decide +kernel
theorem dX6_winsNow_7 : decode cX6_winsNow 7 = .ok (.istore_n 3, 1) := by decide +kernel
theorem dX6_winsNow_8 : decode cX6_winsNow 8 = .ok (.iconst 0, 1) := by decide +kernel
theorem dX6_winsNow_9 : decode cX6_winsNow 9 = .ok (.istore 4, 2) := by decide +kernel
theorem dX6_winsNow_11 : decode cX6_winsNow 11 = .ok (.iload 4, 2) := by decide +kernel
theorem dX6_winsNow_13 : decode cX6_winsNow 13 = .ok (.iload_n 2, 1) := by decide +kernel
theorem dX6_winsNow_14 : decode cX6_winsNow 14 = .ok (.if_icmp .ge 60, 3) := by decide +kernel
theorem dX6_winsNow_17 : decode cX6_winsNow 17 = .ok (.iload_n 3, 1) := by decide +kernel
theorem dX6_winsNow_18 : decode cX6_winsNow 18 = .ok (.ifCond .ne 56, 3) := by decide +kernel
theorem dX6_winsNow_21 : decode cX6_winsNow 21 = .ok (.aload_n 0, 1) := by decide +kernel
theorem dX6_winsNow_22 : decode cX6_winsNow 22 = .ok (.iload_n 1, 1) := by decide +kernel
theorem dX6_winsNow_23 : decode cX6_winsNow 23 = .ok (.iload_n 1, 1) := by decide +kernel
theorem dX6_winsNow_24 : decode cX6_winsNow 24 = .ok (.iconst 1, 1) := by decide +kernel
theorem dX6_winsNow_25 : decode cX6_winsNow 25 = .ok (.iadd, 1) := by decide +kernel
theorem dX6_winsNow_26 : decode cX6_winsNow 26 = .ok (.aload_n 0, 1) := by decide +kernel
theorem dX6_winsNow_27 : decode cX6_winsNow 27 = .ok (.getfield 25, 3) := by decide +kernel
theorem dX6_winsNow_30 : decode cX6_winsNow 30 = .ok (.sipush 256, 3) := by decide +kernel
theorem dX6_winsNow_33 : decode cX6_winsNow 33 = .ok (.iload_n 1, 1) := by decide +kernel
theorem dX6_winsNow_34 : decode cX6_winsNow 34 = .ok (.imul, 1) := by decide +kernel
theorem dX6_winsNow_35 : decode cX6_winsNow 35 = .ok (.iload 4, 2) := by decide +kernel
theorem dX6_winsNow_37 : decode cX6_winsNow 37 = .ok (.iadd, 1) := by decide +kernel
theorem dX6_winsNow_38 : decode cX6_winsNow 38 = .ok (.iaload, 1) := by decide +kernel
theorem dX6_winsNow_39 : decode cX6_winsNow 39 = .ok (.invokevirtual 143, 3) := by decide +kernel
theorem dX6_winsNow_42 : decode cX6_winsNow 42 = .ok (.pop, 1) := by decide +kernel
theorem dX6_winsNow_43 : decode cX6_winsNow 43 = .ok (.aload_n 0, 1) := by decide +kernel
theorem dX6_winsNow_44 : decode cX6_winsNow 44 = .ok (.getfield 19, 3) := by decide +kernel
theorem dX6_winsNow_47 : decode cX6_winsNow 47 = .ok (.iload_n 1, 1) := by decide +kernel
theorem dX6_winsNow_48 : decode cX6_winsNow 48 = .ok (.iconst 1, 1) := by decide +kernel
theorem dX6_winsNow_49 : decode cX6_winsNow 49 = .ok (.iadd, 1) := by decide +kernel
theorem dX6_winsNow_50 : decode cX6_winsNow 50 = .ok (.iaload, 1) := by decide +kernel
theorem dX6_winsNow_51 : decode cX6_winsNow 51 = .ok (.aload_n 0, 1) := by decide +kernel
theorem dX6_winsNow_52 : decode cX6_winsNow 52 = .ok (.getfield 16, 3) := by decide +kernel
theorem dX6_winsNow_55 : decode cX6_winsNow 55 = .ok (.iload_n 1, 1) := by decide +kernel
theorem dX6_winsNow_56 : decode cX6_winsNow 56 = .ok (.iconst 1, 1) := by decide +kernel
theorem dX6_winsNow_57 : decode cX6_winsNow 57 = .ok (.iadd, 1) := by decide +kernel
theorem dX6_winsNow_58 : decode cX6_winsNow 58 = .ok (.iaload, 1) := by decide +kernel
theorem dX6_winsNow_59 : decode cX6_winsNow 59 = .ok (.if_icmp .ne 7, 3) := by decide +kernel
theorem dX6_winsNow_62 : decode cX6_winsNow 62 = .ok (.iconst 1, 1) := by decide +kernel
theorem dX6_winsNow_63 : decode cX6_winsNow 63 = .ok (.goto 4, 3) := by decide +kernel
theorem dX6_winsNow_66 : decode cX6_winsNow 66 = .ok (.iconst 0, 1) := by decide +kernel
theorem dX6_winsNow_67 : decode cX6_winsNow 67 = .ok (.istore_n 3, 1) := by decide +kernel
theorem dX6_winsNow_68 : decode cX6_winsNow 68 = .ok (.iinc 4 1, 3) := by decide +kernel
theorem dX6_winsNow_71 : decode cX6_winsNow 71 = .ok (.goto (-60), 3) := by decide +kernel
theorem dX6_winsNow_74 : decode cX6_winsNow 74 = .ok (.iload_n 3, 1) := by decide +kernel
theorem dX6_winsNow_75 : decode cX6_winsNow 75 = .ok (.ireturn, 1) := by decide +kernel
theorem dX6_isDone_0 : decode cX6_isDone 0 = .ok (.aload_n 0, 1) := by decide +kernel
theorem dX6_isDone_1 : decode cX6_isDone 1 = .ok (.iload_n 1, 1) := by decide +kernel
theorem dX6_isDone_2 : decode cX6_isDone 2 = .ok (.invokevirtual 130, 3) := by decide +kernel
theorem dX6_isDone_5 : decode cX6_isDone 5 = .ok (.istore_n 2, 1) := by decide +kernel
theorem dX6_isDone_6 : decode cX6_isDone 6 = .ok (.iconst 1, 1) := by decide +kernel
theorem dX6_isDone_7 : decode cX6_isDone 7 = .ok (.istore_n 3, 1) := by decide +kernel
theorem dX6_isDone_8 : decode cX6_isDone 8 = .ok (.iconst 0, 1) := by decide +kernel
theorem dX6_isDone_9 : decode cX6_isDone 9 = .ok (.istore 4, 2) := by decide +kernel
theorem dX6_isDone_11 : decode cX6_isDone 11 = .ok (.iload 4, 2) := by decide +kernel
theorem dX6_isDone_13 : decode cX6_isDone 13 = .ok (.iload_n 2, 1) := by decide +kernel
theorem dX6_isDone_14 : decode cX6_isDone 14 = .ok (.if_icmp .ge 64, 3) := by decide +kernel
theorem dX6_isDone_17 : decode cX6_isDone 17 = .ok (.iload_n 3, 1) := by decide +kernel
theorem dX6_isDone_18 : decode cX6_isDone 18 = .ok (.ifCond .eq 60, 3) := by decide +kernel
theorem dX6_isDone_21 : decode cX6_isDone 21 = .ok (.aload_n 0, 1) := by decide +kernel
theorem dX6_isDone_22 : decode cX6_isDone 22 = .ok (.iload_n 1, 1) := by decide +kernel
theorem dX6_isDone_23 : decode cX6_isDone 23 = .ok (.iload_n 1, 1) := by decide +kernel
theorem dX6_isDone_24 : decode cX6_isDone 24 = .ok (.iconst 1, 1) := by decide +kernel
theorem dX6_isDone_25 : decode cX6_isDone 25 = .ok (.iadd, 1) := by decide +kernel
theorem dX6_isDone_26 : decode cX6_isDone 26 = .ok (.aload_n 0, 1) := by decide +kernel
theorem dX6_isDone_27 : decode cX6_isDone 27 = .ok (.getfield 25, 3) := by decide +kernel
theorem dX6_isDone_30 : decode cX6_isDone 30 = .ok (.sipush 256, 3) := by decide +kernel
theorem dX6_isDone_33 : decode cX6_isDone 33 = .ok (.iload_n 1, 1) := by decide +kernel
theorem dX6_isDone_34 : decode cX6_isDone 34 = .ok (.imul, 1) := by decide +kernel
theorem dX6_isDone_35 : decode cX6_isDone 35 = .ok (.iload 4, 2) := by decide +kernel
theorem dX6_isDone_37 : decode cX6_isDone 37 = .ok (.iadd, 1) := by decide +kernel
theorem dX6_isDone_38 : decode cX6_isDone 38 = .ok (.iaload, 1) := by decide +kernel
theorem dX6_isDone_39 : decode cX6_isDone 39 = .ok (.invokevirtual 143, 3) := by decide +kernel
theorem dX6_isDone_42 : decode cX6_isDone 42 = .ok (.pop, 1) := by decide +kernel
theorem dX6_isDone_43 : decode cX6_isDone 43 = .ok (.aload_n 0, 1) := by decide +kernel
theorem dX6_isDone_44 : decode cX6_isDone 44 = .ok (.getfield 19, 3) := by decide +kernel
theorem dX6_isDone_47 : decode cX6_isDone 47 = .ok (.iload_n 1, 1) := by decide +kernel
theorem dX6_isDone_48 : decode cX6_isDone 48 = .ok (.iconst 1, 1) := by decide +kernel
theorem dX6_isDone_49 : decode cX6_isDone 49 = .ok (.iadd, 1) := by decide +kernel
theorem dX6_isDone_50 : decode cX6_isDone 50 = .ok (.iaload, 1) := by decide +kernel
theorem dX6_isDone_51 : decode cX6_isDone 51 = .ok (.bipush (-9), 2) := by decide +kernel
theorem dX6_isDone_53 : decode cX6_isDone 53 = .ok (.if_icmp .ne 17, 3) := by decide +kernel
theorem dX6_isDone_56 : decode cX6_isDone 56 = .ok (.aload_n 0, 1) := by decide +kernel
theorem dX6_isDone_57 : decode cX6_isDone 57 = .ok (.iload_n 1, 1) := by decide +kernel
theorem dX6_isDone_58 : decode cX6_isDone 58 = .ok (.iconst 1, 1) := by decide +kernel
theorem dX6_isDone_59 : decode cX6_isDone 59 = .ok (.iadd, 1) := by decide +kernel
theorem dX6_isDone_60 : decode cX6_isDone 60 = .ok (.invokevirtual 151, 3) := by decide +kernel
theorem dX6_isDone_63 : decode cX6_isDone 63 = .ok (.ifCond .eq 7, 3) := by decide +kernel
theorem dX6_isDone_66 : decode cX6_isDone 66 = .ok (.iconst 1, 1) := by decide +kernel
theorem dX6_isDone_67 : decode cX6_isDone 67 = .ok (.goto 4, 3) := by decide +kernel
theorem dX6_isDone_70 : decode cX6_isDone 70 = .ok (.iconst 0, 1) := by decide +kernel
theorem dX6_isDone_71 : decode cX6_isDone 71 = .ok (.istore_n 3, 1) := by decide +kernel
theorem dX6_isDone_72 : decode cX6_isDone 72 = .ok (.iinc 4 1, 3) := by decide +kernel
theorem dX6_isDone_75 : decode cX6_isDone 75 = .ok (.goto (-64), 3) := by decide +kernel
theorem dX6_isDone_78 : decode cX6_isDone 78 = .ok (.iload_n 3, 1) := by decide +kernel
theorem dX6_isDone_79 : decode cX6_isDone 79 = .ok (.ireturn, 1) := by decide +kernel
theorem dX6_isKey_0 : decode cX6_isKey 0 = .ok (.aload_n 0, 1) := by decide +kernel
theorem dX6_isKey_1 : decode cX6_isKey 1 = .ok (.iconst 0, 1) := by decide +kernel
theorem dX6_isKey_2 : decode cX6_isKey 2 = .ok (.iconst 1, 1) := by decide +kernel
theorem dX6_isKey_3 : decode cX6_isKey 3 = .ok (.aload_n 0, 1) := by decide +kernel
theorem dX6_isKey_4 : decode cX6_isKey 4 = .ok (.getfield 25, 3) := by decide +kernel
theorem dX6_isKey_7 : decode cX6_isKey 7 = .ok (.iload_n 1, 1) := by decide +kernel
theorem dX6_isKey_8 : decode cX6_isKey 8 = .ok (.iaload, 1) := by decide +kernel
theorem dX6_isKey_9 : decode cX6_isKey 9 = .ok (.invokevirtual 143, 3) := by decide +kernel
theorem dX6_isKey_12 : decode cX6_isKey 12 = .ok (.pop, 1) := by decide +kernel
theorem dX6_isKey_13 : decode cX6_isKey 13 = .ok (.aload_n 0, 1) := by decide +kernel
theorem dX6_isKey_14 : decode cX6_isKey 14 = .ok (.getfield 19, 3) := by decide +kernel
theorem dX6_isKey_17 : decode cX6_isKey 17 = .ok (.iconst 1, 1) := by decide +kernel
theorem dX6_isKey_18 : decode cX6_isKey 18 = .ok (.iaload, 1) := by decide +kernel
theorem dX6_isKey_19 : decode cX6_isKey 19 = .ok (.aload_n 0, 1) := by decide +kernel
theorem dX6_isKey_20 : decode cX6_isKey 20 = .ok (.getfield 16, 3) := by decide +kernel
theorem dX6_isKey_23 : decode cX6_isKey 23 = .ok (.iconst 1, 1) := by decide +kernel
theorem dX6_isKey_24 : decode cX6_isKey 24 = .ok (.iaload, 1) := by decide +kernel
theorem dX6_isKey_25 : decode cX6_isKey 25 = .ok (.if_icmp .eq 27, 3) := by decide +kernel
theorem dX6_isKey_28 : decode cX6_isKey 28 = .ok (.iload_n 2, 1) := by decide +kernel
theorem dX6_isKey_29 : decode cX6_isKey 29 = .ok (.iconst 2, 1) := by decide +kernel
theorem dX6_isKey_30 : decode cX6_isKey 30 = .ok (.if_icmp .le 26, 3) := by decide +kernel
theorem dX6_isKey_33 : decode cX6_isKey 33 = .ok (.aload_n 0, 1) := by decide +kernel
theorem dX6_isKey_34 : decode cX6_isKey 34 = .ok (.getfield 19, 3) := by decide +kernel
theorem dX6_isKey_37 : decode cX6_isKey 37 = .ok (.iconst 1, 1) := by decide +kernel
theorem dX6_isKey_38 : decode cX6_isKey 38 = .ok (.iaload, 1) := by decide +kernel
theorem dX6_isKey_39 : decode cX6_isKey 39 = .ok (.bipush (-9), 2) := by decide +kernel
theorem dX6_isKey_41 : decode cX6_isKey 41 = .ok (.if_icmp .ne 15, 3) := by decide +kernel
theorem dX6_isKey_44 : decode cX6_isKey 44 = .ok (.aload_n 0, 1) := by decide +kernel
theorem dX6_isKey_45 : decode cX6_isKey 45 = .ok (.iconst 1, 1) := by decide +kernel
theorem dX6_isKey_46 : decode cX6_isKey 46 = .ok (.invokevirtual 154, 3) := by decide +kernel
theorem dX6_isKey_49 : decode cX6_isKey 49 = .ok (.ifCond .eq 7, 3) := by decide +kernel
theorem dX6_isKey_52 : decode cX6_isKey 52 = .ok (.iconst 1, 1) := by decide +kernel
theorem dX6_isKey_53 : decode cX6_isKey 53 = .ok (.goto 4, 3) := by decide +kernel
theorem dX6_isKey_56 : decode cX6_isKey 56 = .ok (.iconst 0, 1) := by decide +kernel
theorem dX6_isKey_57 : decode cX6_isKey 57 = .ok (.ireturn, 1) := by decide +kernel
theorem dX6_layKeys_0 : decode cX6_layKeys 0 = .ok (.iconst 0, 1) := by decide +kernel
theorem dX6_layKeys_1 : decode cX6_layKeys 1 = .ok (.istore_n 2, 1) := by decide +kernel
theorem dX6_layKeys_2 : decode cX6_layKeys 2 = .ok (.aload_n 0, 1) := by decide +kernel
theorem dX6_layKeys_3 : decode cX6_layKeys 3 = .ok (.iconst 0, 1) := by decide +kernel
theorem dX6_layKeys_4 : decode cX6_layKeys 4 = .ok (.invokevirtual 130, 3) := by decide +kernel
theorem dX6_layKeys_7 : decode cX6_layKeys 7 = .ok (.istore_n 3, 1) := by decide +kernel
theorem dX6_layKeys_8 : decode cX6_layKeys 8 = .ok (.iconst 0, 1) := by decide +kernel
theorem dX6_layKeys_9 : decode cX6_layKeys 9 = .ok (.istore 4, 2) := by decide +kernel
theorem dX6_layKeys_11 : decode cX6_layKeys 11 = .ok (.iload 4, 2) := by decide +kernel
theorem dX6_layKeys_13 : decode cX6_layKeys 13 = .ok (.iload_n 3, 1) := by decide +kernel
theorem dX6_layKeys_14 : decode cX6_layKeys 14 = .ok (.if_icmp .ge 35, 3) := by decide +kernel
theorem dX6_layKeys_17 : decode cX6_layKeys 17 = .ok (.aload_n 0, 1) := by decide +kernel
theorem dX6_layKeys_18 : decode cX6_layKeys 18 = .ok (.iload 4, 2) := by decide +kernel
theorem dX6_layKeys_20 : decode cX6_layKeys 20 = .ok (.iload_n 1, 1) := by decide +kernel
theorem dX6_layKeys_21 : decode cX6_layKeys 21 = .ok (.invokevirtual 157, 3) := by decide +kernel
theorem dX6_layKeys_24 : decode cX6_layKeys 24 = .ok (.ifCond .eq 19, 3) := by decide +kernel
theorem dX6_layKeys_27 : decode cX6_layKeys 27 = .ok (.aload_n 0, 1) := by decide +kernel
theorem dX6_layKeys_28 : decode cX6_layKeys 28 = .ok (.getfield 34, 3) := by decide +kernel
theorem dX6_layKeys_31 : decode cX6_layKeys 31 = .ok (.iload_n 2, 1) := by decide +kernel
theorem dX6_layKeys_32 : decode cX6_layKeys 32 = .ok (.aload_n 0, 1) := by decide +kernel
theorem dX6_layKeys_33 : decode cX6_layKeys 33 = .ok (.getfield 25, 3) := by decide +kernel
theorem dX6_layKeys_36 : decode cX6_layKeys 36 = .ok (.iload 4, 2) := by decide +kernel
theorem dX6_layKeys_38 : decode cX6_layKeys 38 = .ok (.iaload, 1) := by decide +kernel
theorem dX6_layKeys_39 : decode cX6_layKeys 39 = .ok (.iastore, 1) := by decide +kernel
theorem dX6_layKeys_40 : decode cX6_layKeys 40 = .ok (.iinc 2 1, 3) := by decide +kernel
theorem dX6_layKeys_43 : decode cX6_layKeys 43 = .ok (.iinc 4 1, 3) := by decide +kernel
theorem dX6_layKeys_46 : decode cX6_layKeys 46 = .ok (.goto (-35), 3) := by decide +kernel
theorem dX6_layKeys_49 : decode cX6_layKeys 49 = .ok (.iload_n 2, 1) := by decide +kernel
theorem dX6_layKeys_50 : decode cX6_layKeys 50 = .ok (.ireturn, 1) := by decide +kernel
theorem dX6_wins_0 : decode cX6_wins 0 = .ok (.iload_n 1, 1) := by decide +kernel
theorem dX6_wins_1 : decode cX6_wins 1 = .ok (.i2l, 1) := by decide +kernel
theorem dX6_wins_2 : decode cX6_wins 2 = .ok (.lconst 1, 1) := by decide +kernel
theorem dX6_wins_3 : decode cX6_wins 3 = .ok (.ldc2_w 160, 3) := by decide +kernel
theorem dX6_wins_6 : decode cX6_wins 6 = .ok (.invokestatic 56, 3) := by decide +kernel
theorem dX6_wins_9 : decode cX6_wins 9 = .ok (.ifCond .ne 6, 3) := by decide +kernel
theorem dX6_wins_12 : decode cX6_wins 12 = .ok (.bipush (-2), 2) := by decide +kernel
theorem dX6_wins_14 : decode cX6_wins 14 = .ok (.ireturn, 1) := by decide +kernel
theorem dX6_wins_15 : decode cX6_wins 15 = .ok (.aload_n 0, 1) := by decide +kernel
theorem dX6_wins_16 : decode cX6_wins 16 = .ok (.getfield 19, 3) := by decide +kernel
theorem dX6_wins_19 : decode cX6_wins 19 = .ok (.iconst 0, 1) := by decide +kernel
theorem dX6_wins_20 : decode cX6_wins 20 = .ok (.iaload, 1) := by decide +kernel
theorem dX6_wins_21 : decode cX6_wins 21 = .ok (.bipush (-9), 2) := by decide +kernel
theorem dX6_wins_23 : decode cX6_wins 23 = .ok (.if_icmp .eq 8, 3) := by decide +kernel
theorem dX6_wins_26 : decode cX6_wins 26 = .ok (.bipush (-3), 2) := by decide +kernel
theorem dX6_wins_28 : decode cX6_wins 28 = .ok (.goto 16, 3) := by decide +kernel
theorem dX6_wins_31 : decode cX6_wins 31 = .ok (.aload_n 0, 1) := by decide +kernel
theorem dX6_wins_32 : decode cX6_wins 32 = .ok (.iload_n 1, 1) := by decide +kernel
theorem dX6_wins_33 : decode cX6_wins 33 = .ok (.invokevirtual 162, 3) := by decide +kernel
theorem dX6_wins_36 : decode cX6_wins 36 = .ok (.ifCond .le 7, 3) := by decide +kernel
theorem dX6_wins_39 : decode cX6_wins 39 = .ok (.iconst 1, 1) := by decide +kernel
theorem dX6_wins_40 : decode cX6_wins 40 = .ok (.goto 4, 3) := by decide +kernel
theorem dX6_wins_43 : decode cX6_wins 43 = .ok (.iconst 0, 1) := by decide +kernel
theorem dX6_wins_44 : decode cX6_wins 44 = .ok (.ireturn, 1) := by decide +kernel
theorem dX6_keys_0 : decode cX6_keys 0 = .ok (.iload_n 1, 1) := by decide +kernel
theorem dX6_keys_1 : decode cX6_keys 1 = .ok (.i2l, 1) := by decide +kernel
theorem dX6_keys_2 : decode cX6_keys 2 = .ok (.lconst 1, 1) := by decide +kernel
theorem dX6_keys_3 : decode cX6_keys 3 = .ok (.ldc2_w 160, 3) := by decide +kernel
theorem dX6_keys_6 : decode cX6_keys 6 = .ok (.invokestatic 56, 3) := by decide +kernel
theorem dX6_keys_9 : decode cX6_keys 9 = .ok (.ifCond .ne 6, 3) := by decide +kernel
theorem dX6_keys_12 : decode cX6_keys 12 = .ok (.bipush (-2), 2) := by decide +kernel
theorem dX6_keys_14 : decode cX6_keys 14 = .ok (.ireturn, 1) := by decide +kernel
theorem dX6_keys_15 : decode cX6_keys 15 = .ok (.aload_n 0, 1) := by decide +kernel
theorem dX6_keys_16 : decode cX6_keys 16 = .ok (.getfield 19, 3) := by decide +kernel
theorem dX6_keys_19 : decode cX6_keys 19 = .ok (.iconst 0, 1) := by decide +kernel
theorem dX6_keys_20 : decode cX6_keys 20 = .ok (.iaload, 1) := by decide +kernel
theorem dX6_keys_21 : decode cX6_keys 21 = .ok (.bipush (-9), 2) := by decide +kernel
theorem dX6_keys_23 : decode cX6_keys 23 = .ok (.if_icmp .eq 8, 3) := by decide +kernel
theorem dX6_keys_26 : decode cX6_keys 26 = .ok (.bipush (-3), 2) := by decide +kernel
theorem dX6_keys_28 : decode cX6_keys 28 = .ok (.goto 8, 3) := by decide +kernel
theorem dX6_keys_31 : decode cX6_keys 31 = .ok (.aload_n 0, 1) := by decide +kernel
theorem dX6_keys_32 : decode cX6_keys 32 = .ok (.iload_n 1, 1) := by decide +kernel
theorem dX6_keys_33 : decode cX6_keys 33 = .ok (.invokevirtual 162, 3) := by decide +kernel
theorem dX6_keys_36 : decode cX6_keys 36 = .ok (.ireturn, 1) := by decide +kernel
theorem dX6_keyAt_0 : decode cX6_keyAt 0 = .ok (.iload_n 1, 1) := by decide +kernel
theorem dX6_keyAt_1 : decode cX6_keyAt 1 = .ok (.i2l, 1) := by decide +kernel
theorem dX6_keyAt_2 : decode cX6_keyAt 2 = .ok (.lconst 1, 1) := by decide +kernel
theorem dX6_keyAt_3 : decode cX6_keyAt 3 = .ok (.ldc2_w 160, 3) := by decide +kernel
theorem dX6_keyAt_6 : decode cX6_keyAt 6 = .ok (.invokestatic 56, 3) := by decide +kernel
theorem dX6_keyAt_9 : decode cX6_keyAt 9 = .ok (.ifCond .ne 6, 3) := by decide +kernel
theorem dX6_keyAt_12 : decode cX6_keyAt 12 = .ok (.bipush (-2), 2) := by decide +kernel
theorem dX6_keyAt_14 : decode cX6_keyAt 14 = .ok (.ireturn, 1) := by decide +kernel
theorem dX6_keyAt_15 : decode cX6_keyAt 15 = .ok (.aload_n 0, 1) := by decide +kernel
theorem dX6_keyAt_16 : decode cX6_keyAt 16 = .ok (.getfield 19, 3) := by decide +kernel
theorem dX6_keyAt_19 : decode cX6_keyAt 19 = .ok (.iconst 0, 1) := by decide +kernel
theorem dX6_keyAt_20 : decode cX6_keyAt 20 = .ok (.iaload, 1) := by decide +kernel
theorem dX6_keyAt_21 : decode cX6_keyAt 21 = .ok (.bipush (-9), 2) := by decide +kernel
theorem dX6_keyAt_23 : decode cX6_keyAt 23 = .ok (.if_icmp .eq 6, 3) := by decide +kernel
theorem dX6_keyAt_26 : decode cX6_keyAt 26 = .ok (.bipush (-3), 2) := by decide +kernel
theorem dX6_keyAt_28 : decode cX6_keyAt 28 = .ok (.ireturn, 1) := by decide +kernel
theorem dX6_keyAt_29 : decode cX6_keyAt 29 = .ok (.aload_n 0, 1) := by decide +kernel
theorem dX6_keyAt_30 : decode cX6_keyAt 30 = .ok (.iload_n 1, 1) := by decide +kernel
theorem dX6_keyAt_31 : decode cX6_keyAt 31 = .ok (.invokevirtual 162, 3) := by decide +kernel
theorem dX6_keyAt_34 : decode cX6_keyAt 34 = .ok (.istore_n 3, 1) := by decide +kernel
theorem dX6_keyAt_35 : decode cX6_keyAt 35 = .ok (.iload_n 2, 1) := by decide +kernel
theorem dX6_keyAt_36 : decode cX6_keyAt 36 = .ok (.i2l, 1) := by decide +kernel
theorem dX6_keyAt_37 : decode cX6_keyAt 37 = .ok (.lconst 0, 1) := by decide +kernel
theorem dX6_keyAt_38 : decode cX6_keyAt 38 = .ok (.iload_n 3, 1) := by decide +kernel
theorem dX6_keyAt_39 : decode cX6_keyAt 39 = .ok (.iconst 1, 1) := by decide +kernel
theorem dX6_keyAt_40 : decode cX6_keyAt 40 = .ok (.isub, 1) := by decide +kernel
theorem dX6_keyAt_41 : decode cX6_keyAt 41 = .ok (.i2l, 1) := by decide +kernel
theorem dX6_keyAt_42 : decode cX6_keyAt 42 = .ok (.invokestatic 56, 3) := by decide +kernel
theorem dX6_keyAt_45 : decode cX6_keyAt 45 = .ok (.ifCond .eq 15, 3) := by decide +kernel
theorem dX6_keyAt_48 : decode cX6_keyAt 48 = .ok (.aload_n 0, 1) := by decide +kernel
theorem dX6_keyAt_49 : decode cX6_keyAt 49 = .ok (.getfield 34, 3) := by decide +kernel
theorem dX6_keyAt_52 : decode cX6_keyAt 52 = .ok (.iload_n 2, 1) := by decide +kernel
theorem dX6_keyAt_53 : decode cX6_keyAt 53 = .ok (.iaload, 1) := by decide +kernel
theorem dX6_keyAt_54 : decode cX6_keyAt 54 = .ok (.sipush 999, 3) := by decide +kernel
theorem dX6_keyAt_57 : decode cX6_keyAt 57 = .ok (.if_icmp .ne 8, 3) := by decide +kernel
theorem dX6_keyAt_60 : decode cX6_keyAt 60 = .ok (.bipush (-9), 2) := by decide +kernel
theorem dX6_keyAt_62 : decode cX6_keyAt 62 = .ok (.goto 25, 3) := by decide +kernel
theorem dX6_keyAt_65 : decode cX6_keyAt 65 = .ok (.bipush 100, 2) := by decide +kernel
theorem dX6_keyAt_67 : decode cX6_keyAt 67 = .ok (.aload_n 0, 1) := by decide +kernel
theorem dX6_keyAt_68 : decode cX6_keyAt 68 = .ok (.getfield 34, 3) := by decide +kernel
theorem dX6_keyAt_71 : decode cX6_keyAt 71 = .ok (.iload_n 2, 1) := by decide +kernel
theorem dX6_keyAt_72 : decode cX6_keyAt 72 = .ok (.iaload, 1) := by decide +kernel
theorem dX6_keyAt_73 : decode cX6_keyAt 73 = .ok (.bipush 16, 2) := by decide +kernel
theorem dX6_keyAt_75 : decode cX6_keyAt 75 = .ok (.idiv, 1) := by decide +kernel
theorem dX6_keyAt_76 : decode cX6_keyAt 76 = .ok (.imul, 1) := by decide +kernel
theorem dX6_keyAt_77 : decode cX6_keyAt 77 = .ok (.aload_n 0, 1) := by decide +kernel
theorem dX6_keyAt_78 : decode cX6_keyAt 78 = .ok (.getfield 34, 3) := by decide +kernel
theorem dX6_keyAt_81 : decode cX6_keyAt 81 = .ok (.iload_n 2, 1) := by decide +kernel
theorem dX6_keyAt_82 : decode cX6_keyAt 82 = .ok (.iaload, 1) := by decide +kernel
theorem dX6_keyAt_83 : decode cX6_keyAt 83 = .ok (.bipush 16, 2) := by decide +kernel
theorem dX6_keyAt_85 : decode cX6_keyAt 85 = .ok (.irem, 1) := by decide +kernel
theorem dX6_keyAt_86 : decode cX6_keyAt 86 = .ok (.iadd, 1) := by decide +kernel
theorem dX6_keyAt_87 : decode cX6_keyAt 87 = .ok (.ireturn, 1) := by decide +kernel
theorem dX6_common_0 : decode cX6_common 0 = .ok (.iload_n 0, 1) := by decide +kernel
theorem dX6_common_1 : decode cX6_common 1 = .ok (.istore_n 2, 1) := by decide +kernel
theorem dX6_common_2 : decode cX6_common 2 = .ok (.iload_n 1, 1) := by decide +kernel
theorem dX6_common_3 : decode cX6_common 3 = .ok (.istore_n 3, 1) := by decide +kernel
theorem dX6_common_4 : decode cX6_common 4 = .ok (.iload_n 3, 1) := by decide +kernel
theorem dX6_common_5 : decode cX6_common 5 = .ok (.ifCond .eq 16, 3) := by decide +kernel
theorem dX6_common_8 : decode cX6_common 8 = .ok (.iload_n 2, 1) := by decide +kernel
theorem dX6_common_9 : decode cX6_common 9 = .ok (.iload_n 3, 1) := by decide +kernel
theorem dX6_common_10 : decode cX6_common 10 = .ok (.irem, 1) := by decide +kernel
theorem dX6_common_11 : decode cX6_common 11 = .ok (.istore 4, 2) := by decide +kernel
theorem dX6_common_13 : decode cX6_common 13 = .ok (.iload_n 3, 1) := by decide +kernel
theorem dX6_common_14 : decode cX6_common 14 = .ok (.istore_n 2, 1) := by decide +kernel
theorem dX6_common_15 : decode cX6_common 15 = .ok (.iload 4, 2) := by decide +kernel
theorem dX6_common_17 : decode cX6_common 17 = .ok (.istore_n 3, 1) := by decide +kernel
theorem dX6_common_18 : decode cX6_common 18 = .ok (.goto (-14), 3) := by decide +kernel
theorem dX6_common_21 : decode cX6_common 21 = .ok (.iload_n 2, 1) := by decide +kernel
theorem dX6_common_22 : decode cX6_common 22 = .ok (.ireturn, 1) := by decide +kernel
theorem dX6_odds_0 : decode cX6_odds 0 = .ok (.aload_n 0, 1) := by decide +kernel
theorem dX6_odds_1 : decode cX6_odds 1 = .ok (.getfield 19, 3) := by decide +kernel
theorem dX6_odds_4 : decode cX6_odds 4 = .ok (.iconst 0, 1) := by decide +kernel
theorem dX6_odds_5 : decode cX6_odds 5 = .ok (.iaload, 1) := by decide +kernel
theorem dX6_odds_6 : decode cX6_odds 6 = .ok (.bipush (-9), 2) := by decide +kernel
theorem dX6_odds_8 : decode cX6_odds 8 = .ok (.if_icmp .eq 6, 3) := by decide +kernel
theorem dX6_odds_11 : decode cX6_odds 11 = .ok (.bipush (-3), 2) := by decide +kernel
theorem dX6_odds_13 : decode cX6_odds 13 = .ok (.ireturn, 1) := by decide +kernel
theorem dX6_odds_14 : decode cX6_odds 14 = .ok (.aload_n 0, 1) := by decide +kernel
theorem dX6_odds_15 : decode cX6_odds 15 = .ok (.iconst 0, 1) := by decide +kernel
theorem dX6_odds_16 : decode cX6_odds 16 = .ok (.invokevirtual 130, 3) := by decide +kernel
theorem dX6_odds_19 : decode cX6_odds 19 = .ok (.istore_n 2, 1) := by decide +kernel
theorem dX6_odds_20 : decode cX6_odds 20 = .ok (.iconst 0, 1) := by decide +kernel
theorem dX6_odds_21 : decode cX6_odds 21 = .ok (.istore_n 3, 1) := by decide +kernel
theorem dX6_odds_22 : decode cX6_odds 22 = .ok (.iconst 0, 1) := by decide +kernel
theorem dX6_odds_23 : decode cX6_odds 23 = .ok (.istore 4, 2) := by decide +kernel
theorem dX6_odds_25 : decode cX6_odds 25 = .ok (.iload 4, 2) := by decide +kernel
theorem dX6_odds_27 : decode cX6_odds 27 = .ok (.iload_n 2, 1) := by decide +kernel
theorem dX6_odds_28 : decode cX6_odds 28 = .ok (.if_icmp .ge 25, 3) := by decide +kernel
theorem dX6_odds_31 : decode cX6_odds 31 = .ok (.iload_n 3, 1) := by decide +kernel
theorem dX6_odds_32 : decode cX6_odds 32 = .ok (.aload_n 0, 1) := by decide +kernel
theorem dX6_odds_33 : decode cX6_odds 33 = .ok (.iconst 0, 1) := by decide +kernel
theorem dX6_odds_34 : decode cX6_odds 34 = .ok (.iconst 1, 1) := by decide +kernel
theorem dX6_odds_35 : decode cX6_odds 35 = .ok (.aload_n 0, 1) := by decide +kernel
theorem dX6_odds_36 : decode cX6_odds 36 = .ok (.getfield 25, 3) := by decide +kernel
theorem dX6_odds_39 : decode cX6_odds 39 = .ok (.iload 4, 2) := by decide +kernel
theorem dX6_odds_41 : decode cX6_odds 41 = .ok (.iaload, 1) := by decide +kernel
theorem dX6_odds_42 : decode cX6_odds 42 = .ok (.invokevirtual 143, 3) := by decide +kernel
theorem dX6_odds_45 : decode cX6_odds 45 = .ok (.iadd, 1) := by decide +kernel
theorem dX6_odds_46 : decode cX6_odds 46 = .ok (.istore_n 3, 1) := by decide +kernel
theorem dX6_odds_47 : decode cX6_odds 47 = .ok (.iinc 4 1, 3) := by decide +kernel
theorem dX6_odds_50 : decode cX6_odds 50 = .ok (.goto (-25), 3) := by decide +kernel
theorem dX6_odds_53 : decode cX6_odds 53 = .ok (.iload_n 1, 1) := by decide +kernel
theorem dX6_odds_54 : decode cX6_odds 54 = .ok (.ifCond .eq 13, 3) := by decide +kernel
theorem dX6_odds_57 : decode cX6_odds 57 = .ok (.iload_n 3, 1) := by decide +kernel
theorem dX6_odds_58 : decode cX6_odds 58 = .ok (.iload_n 3, 1) := by decide +kernel
theorem dX6_odds_59 : decode cX6_odds 59 = .ok (.iload_n 2, 1) := by decide +kernel
theorem dX6_odds_60 : decode cX6_odds 60 = .ok (.invokestatic 165, 3) := by decide +kernel
theorem dX6_odds_63 : decode cX6_odds 63 = .ok (.idiv, 1) := by decide +kernel
theorem dX6_odds_64 : decode cX6_odds 64 = .ok (.goto 10, 3) := by decide +kernel
theorem dX6_odds_67 : decode cX6_odds 67 = .ok (.iload_n 2, 1) := by decide +kernel
theorem dX6_odds_68 : decode cX6_odds 68 = .ok (.iload_n 3, 1) := by decide +kernel
theorem dX6_odds_69 : decode cX6_odds 69 = .ok (.iload_n 2, 1) := by decide +kernel
theorem dX6_odds_70 : decode cX6_odds 70 = .ok (.invokestatic 165, 3) := by decide +kernel
theorem dX6_odds_73 : decode cX6_odds 73 = .ok (.idiv, 1) := by decide +kernel
theorem dX6_odds_74 : decode cX6_odds 74 = .ok (.ireturn, 1) := by decide +kernel
theorem dX6_layParts_0 : decode cX6_layParts 0 = .ok (.iconst 0, 1) := by decide +kernel
theorem dX6_layParts_1 : decode cX6_layParts 1 = .ok (.istore_n 1, 1) := by decide +kernel
theorem dX6_layParts_2 : decode cX6_layParts 2 = .ok (.iconst 0, 1) := by decide +kernel
theorem dX6_layParts_3 : decode cX6_layParts 3 = .ok (.istore_n 2, 1) := by decide +kernel
theorem dX6_layParts_4 : decode cX6_layParts 4 = .ok (.iload_n 2, 1) := by decide +kernel
theorem dX6_layParts_5 : decode cX6_layParts 5 = .ok (.bipush 16, 2) := by decide +kernel
theorem dX6_layParts_7 : decode cX6_layParts 7 = .ok (.if_icmp .ge 17, 3) := by decide +kernel
theorem dX6_layParts_10 : decode cX6_layParts 10 = .ok (.aload_n 0, 1) := by decide +kernel
theorem dX6_layParts_11 : decode cX6_layParts 11 = .ok (.getfield 37, 3) := by decide +kernel
theorem dX6_layParts_14 : decode cX6_layParts 14 = .ok (.iload_n 2, 1) := by decide +kernel
theorem dX6_layParts_15 : decode cX6_layParts 15 = .ok (.bipush (-9), 2) := by decide +kernel
theorem dX6_layParts_17 : decode cX6_layParts 17 = .ok (.iastore, 1) := by decide +kernel
theorem dX6_layParts_18 : decode cX6_layParts 18 = .ok (.iinc 2 1, 3) := by decide +kernel
theorem dX6_layParts_21 : decode cX6_layParts 21 = .ok (.goto (-17), 3) := by decide +kernel
theorem dX6_layParts_24 : decode cX6_layParts 24 = .ok (.iconst 0, 1) := by decide +kernel
theorem dX6_layParts_25 : decode cX6_layParts 25 = .ok (.istore_n 2, 1) := by decide +kernel
theorem dX6_layParts_26 : decode cX6_layParts 26 = .ok (.iload_n 2, 1) := by decide +kernel
theorem dX6_layParts_27 : decode cX6_layParts 27 = .ok (.aload_n 0, 1) := by decide +kernel
theorem dX6_layParts_28 : decode cX6_layParts 28 = .ok (.getfield 47, 3) := by decide +kernel
theorem dX6_layParts_31 : decode cX6_layParts 31 = .ok (.aload_n 0, 1) := by decide +kernel
theorem dX6_layParts_32 : decode cX6_layParts 32 = .ok (.getfield 51, 3) := by decide +kernel
theorem dX6_layParts_35 : decode cX6_layParts 35 = .ok (.imul, 1) := by decide +kernel
theorem dX6_layParts_36 : decode cX6_layParts 36 = .ok (.if_icmp .ge 40, 3) := by decide +kernel
theorem dX6_layParts_39 : decode cX6_layParts 39 = .ok (.aload_n 0, 1) := by decide +kernel
theorem dX6_layParts_40 : decode cX6_layParts 40 = .ok (.getfield 7, 3) := by decide +kernel
theorem dX6_layParts_43 : decode cX6_layParts 43 = .ok (.iload_n 2, 1) := by decide +kernel
theorem dX6_layParts_44 : decode cX6_layParts 44 = .ok (.iaload, 1) := by decide +kernel
theorem dX6_layParts_45 : decode cX6_layParts 45 = .ok (.bipush 35, 2) := by decide +kernel
theorem dX6_layParts_47 : decode cX6_layParts 47 = .ok (.if_icmp .eq 23, 3) := by decide +kernel
theorem dX6_layParts_50 : decode cX6_layParts 50 = .ok (.aload_n 0, 1) := by decide +kernel
theorem dX6_layParts_51 : decode cX6_layParts 51 = .ok (.getfield 37, 3) := by decide +kernel
theorem dX6_layParts_54 : decode cX6_layParts 54 = .ok (.iload_n 2, 1) := by decide +kernel
theorem dX6_layParts_55 : decode cX6_layParts 55 = .ok (.iaload, 1) := by decide +kernel
theorem dX6_layParts_56 : decode cX6_layParts 56 = .ok (.bipush (-9), 2) := by decide +kernel
theorem dX6_layParts_58 : decode cX6_layParts 58 = .ok (.if_icmp .ne 12, 3) := by decide +kernel
theorem dX6_layParts_61 : decode cX6_layParts 61 = .ok (.aload_n 0, 1) := by decide +kernel
theorem dX6_layParts_62 : decode cX6_layParts 62 = .ok (.iload_n 2, 1) := by decide +kernel
theorem dX6_layParts_63 : decode cX6_layParts 63 = .ok (.iload_n 1, 1) := by decide +kernel
theorem dX6_layParts_64 : decode cX6_layParts 64 = .ok (.invokevirtual 168, 3) := by decide +kernel
theorem dX6_layParts_67 : decode cX6_layParts 67 = .ok (.iinc 1 1, 3) := by decide +kernel
theorem dX6_layParts_70 : decode cX6_layParts 70 = .ok (.iinc 2 1, 3) := by decide +kernel
theorem dX6_layParts_73 : decode cX6_layParts 73 = .ok (.goto (-47), 3) := by decide +kernel
theorem dX6_layParts_76 : decode cX6_layParts 76 = .ok (.iload_n 1, 1) := by decide +kernel
theorem dX6_layParts_77 : decode cX6_layParts 77 = .ok (.ireturn, 1) := by decide +kernel
theorem dX6_spread_0 : decode cX6_spread 0 = .ok (.aload_n 0, 1) := by decide +kernel
theorem dX6_spread_1 : decode cX6_spread 1 = .ok (.getfield 37, 3) := by decide +kernel
theorem dX6_spread_4 : decode cX6_spread 4 = .ok (.iload_n 1, 1) := by decide +kernel
theorem dX6_spread_5 : decode cX6_spread 5 = .ok (.iload_n 2, 1) := by decide +kernel
theorem dX6_spread_6 : decode cX6_spread 6 = .ok (.iastore, 1) := by decide +kernel
theorem dX6_spread_7 : decode cX6_spread 7 = .ok (.iconst 0, 1) := by decide +kernel
theorem dX6_spread_8 : decode cX6_spread 8 = .ok (.istore_n 3, 1) := by decide +kernel
theorem dX6_spread_9 : decode cX6_spread 9 = .ok (.iload_n 3, 1) := by decide +kernel
theorem dX6_spread_10 : decode cX6_spread 10 = .ok (.bipush 16, 2) := by decide +kernel
theorem dX6_spread_12 : decode cX6_spread 12 = .ok (.if_icmp .ge 116, 3) := by decide +kernel
theorem dX6_spread_15 : decode cX6_spread 15 = .ok (.iconst 0, 1) := by decide +kernel
theorem dX6_spread_16 : decode cX6_spread 16 = .ok (.istore 4, 2) := by decide +kernel
theorem dX6_spread_18 : decode cX6_spread 18 = .ok (.iload 4, 2) := by decide +kernel
theorem dX6_spread_20 : decode cX6_spread 20 = .ok (.aload_n 0, 1) := by decide +kernel
theorem dX6_spread_21 : decode cX6_spread 21 = .ok (.getfield 47, 3) := by decide +kernel
theorem dX6_spread_24 : decode cX6_spread 24 = .ok (.aload_n 0, 1) := by decide +kernel
theorem dX6_spread_25 : decode cX6_spread 25 = .ok (.getfield 51, 3) := by decide +kernel
theorem dX6_spread_28 : decode cX6_spread 28 = .ok (.imul, 1) := by decide +kernel
theorem dX6_spread_29 : decode cX6_spread 29 = .ok (.if_icmp .ge 93, 3) := by decide +kernel
theorem dX6_spread_32 : decode cX6_spread 32 = .ok (.aload_n 0, 1) := by decide +kernel
theorem dX6_spread_33 : decode cX6_spread 33 = .ok (.getfield 37, 3) := by decide +kernel
theorem dX6_spread_36 : decode cX6_spread 36 = .ok (.iload 4, 2) := by decide +kernel
theorem dX6_spread_38 : decode cX6_spread 38 = .ok (.iaload, 1) := by decide +kernel
theorem dX6_spread_39 : decode cX6_spread 39 = .ok (.iload_n 2, 1) := by decide +kernel
theorem dX6_spread_40 : decode cX6_spread 40 = .ok (.if_icmp .ne 16, 3) := by decide +kernel
theorem dX6_spread_43 : decode cX6_spread 43 = .ok (.aload_n 0, 1) := by decide +kernel
theorem dX6_spread_44 : decode cX6_spread 44 = .ok (.iconst 0, 1) := by decide +kernel
theorem dX6_spread_45 : decode cX6_spread 45 = .ok (.bipush 75, 2) := by decide +kernel
theorem dX6_spread_47 : decode cX6_spread 47 = .ok (.iload 4, 2) := by decide +kernel
theorem dX6_spread_49 : decode cX6_spread 49 = .ok (.iconst 1, 1) := by decide +kernel
theorem dX6_spread_50 : decode cX6_spread 50 = .ok (.invokevirtual 115, 3) := by decide +kernel
theorem dX6_spread_53 : decode cX6_spread 53 = .ok (.goto 4, 3) := by decide +kernel
theorem dX6_spread_56 : decode cX6_spread 56 = .ok (.iconst 0, 1) := by decide +kernel
theorem dX6_spread_57 : decode cX6_spread 57 = .ok (.istore 5, 2) := by decide +kernel
theorem dX6_spread_59 : decode cX6_spread 59 = .ok (.iconst 0, 1) := by decide +kernel
theorem dX6_spread_60 : decode cX6_spread 60 = .ok (.istore 6, 2) := by decide +kernel
theorem dX6_spread_62 : decode cX6_spread 62 = .ok (.iload 6, 2) := by decide +kernel
theorem dX6_spread_64 : decode cX6_spread 64 = .ok (.bipush 16, 2) := by decide +kernel
theorem dX6_spread_66 : decode cX6_spread 66 = .ok (.if_icmp .ge 50, 3) := by decide +kernel
theorem dX6_spread_69 : decode cX6_spread 69 = .ok (.aload_n 0, 1) := by decide +kernel
theorem dX6_spread_70 : decode cX6_spread 70 = .ok (.getfield 37, 3) := by decide +kernel
theorem dX6_spread_73 : decode cX6_spread 73 = .ok (.iload 6, 2) := by decide +kernel
theorem dX6_spread_75 : decode cX6_spread 75 = .ok (.iload 5, 2) := by decide +kernel
theorem dX6_spread_77 : decode cX6_spread 77 = .ok (.iload 6, 2) := by decide +kernel
theorem dX6_spread_79 : decode cX6_spread 79 = .ok (.ishr, 1) := by decide +kernel
theorem dX6_spread_80 : decode cX6_spread 80 = .ok (.iconst 1, 1) := by decide +kernel
theorem dX6_spread_81 : decode cX6_spread 81 = .ok (.iand, 1) := by decide +kernel
theorem dX6_spread_82 : decode cX6_spread 82 = .ok (.iconst 1, 1) := by decide +kernel
theorem dX6_spread_83 : decode cX6_spread 83 = .ok (.if_icmp .ne 19, 3) := by decide +kernel
theorem dX6_spread_86 : decode cX6_spread 86 = .ok (.aload_n 0, 1) := by decide +kernel
theorem dX6_spread_87 : decode cX6_spread 87 = .ok (.getfield 7, 3) := by decide +kernel
theorem dX6_spread_90 : decode cX6_spread 90 = .ok (.iload 6, 2) := by decide +kernel
theorem dX6_spread_92 : decode cX6_spread 92 = .ok (.iaload, 1) := by decide +kernel
theorem dX6_spread_93 : decode cX6_spread 93 = .ok (.bipush 35, 2) := by decide +kernel
theorem dX6_spread_95 : decode cX6_spread 95 = .ok (.if_icmp .eq 7, 3) := by decide +kernel
theorem dX6_spread_98 : decode cX6_spread 98 = .ok (.iload_n 2, 1) := by decide +kernel
theorem dX6_spread_99 : decode cX6_spread 99 = .ok (.goto 10, 3) := by decide +kernel
theorem dX6_spread_102 : decode cX6_spread 102 = .ok (.aload_n 0, 1) := by decide +kernel
theorem dX6_spread_103 : decode cX6_spread 103 = .ok (.getfield 37, 3) := by decide +kernel
theorem dX6_spread_106 : decode cX6_spread 106 = .ok (.iload 6, 2) := by decide +kernel
theorem dX6_spread_108 : decode cX6_spread 108 = .ok (.iaload, 1) := by decide +kernel
theorem dX6_spread_109 : decode cX6_spread 109 = .ok (.iastore, 1) := by decide +kernel
theorem dX6_spread_110 : decode cX6_spread 110 = .ok (.iinc 6 1, 3) := by decide +kernel
theorem dX6_spread_113 : decode cX6_spread 113 = .ok (.goto (-51), 3) := by decide +kernel
theorem dX6_spread_116 : decode cX6_spread 116 = .ok (.iinc 4 1, 3) := by decide +kernel
theorem dX6_spread_119 : decode cX6_spread 119 = .ok (.goto (-101), 3) := by decide +kernel
theorem dX6_spread_122 : decode cX6_spread 122 = .ok (.iinc 3 1, 3) := by decide +kernel
theorem dX6_spread_125 : decode cX6_spread 125 = .ok (.goto (-116), 3) := by decide +kernel
theorem dX6_spread_128 : decode cX6_spread 128 = .ok (.return_, 1) := by decide +kernel
theorem dX6_parts_0 : decode cX6_parts 0 = .ok (.aload_n 0, 1) := by decide +kernel
theorem dX6_parts_1 : decode cX6_parts 1 = .ok (.invokevirtual 172, 3) := by decide +kernel
theorem dX6_parts_4 : decode cX6_parts 4 = .ok (.ireturn, 1) := by decide +kernel
theorem dX6_part_0 : decode cX6_part 0 = .ok (.aload_n 0, 1) := by decide +kernel
theorem dX6_part_1 : decode cX6_part 1 = .ok (.iload_n 1, 1) := by decide +kernel
theorem dX6_part_2 : decode cX6_part 2 = .ok (.invokevirtual 94, 3) := by decide +kernel
theorem dX6_part_5 : decode cX6_part 5 = .ok (.ifCond .ne 5, 3) := by decide +kernel
theorem dX6_part_8 : decode cX6_part 8 = .ok (.iconst (-1), 1) := by decide +kernel
theorem dX6_part_9 : decode cX6_part 9 = .ok (.ireturn, 1) := by decide +kernel
theorem dX6_part_10 : decode cX6_part 10 = .ok (.aload_n 0, 1) := by decide +kernel
theorem dX6_part_11 : decode cX6_part 11 = .ok (.invokevirtual 172, 3) := by decide +kernel
theorem dX6_part_14 : decode cX6_part 14 = .ok (.pop, 1) := by decide +kernel
theorem dX6_part_15 : decode cX6_part 15 = .ok (.aload_n 0, 1) := by decide +kernel
theorem dX6_part_16 : decode cX6_part 16 = .ok (.getfield 37, 3) := by decide +kernel
theorem dX6_part_19 : decode cX6_part 19 = .ok (.iload_n 1, 1) := by decide +kernel
theorem dX6_part_20 : decode cX6_part 20 = .ok (.iaload, 1) := by decide +kernel
theorem dX6_part_21 : decode cX6_part 21 = .ok (.ireturn, 1) := by decide +kernel
theorem dX6_comesTo_0 : decode cX6_comesTo 0 = .ok (.aload_n 0, 1) := by decide +kernel
theorem dX6_comesTo_1 : decode cX6_comesTo 1 = .ok (.getfield 7, 3) := by decide +kernel
theorem dX6_comesTo_4 : decode cX6_comesTo 4 = .ok (.iload_n 1, 1) := by decide +kernel
theorem dX6_comesTo_5 : decode cX6_comesTo 5 = .ok (.iaload, 1) := by decide +kernel
theorem dX6_comesTo_6 : decode cX6_comesTo 6 = .ok (.istore_n 2, 1) := by decide +kernel
theorem dX6_comesTo_7 : decode cX6_comesTo 7 = .ok (.iconst 1, 1) := by decide +kernel
theorem dX6_comesTo_8 : decode cX6_comesTo 8 = .ok (.iload_n 1, 1) := by decide +kernel
theorem dX6_comesTo_9 : decode cX6_comesTo 9 = .ok (.ishl, 1) := by decide +kernel
theorem dX6_comesTo_10 : decode cX6_comesTo 10 = .ok (.istore_n 3, 1) := by decide +kernel
theorem dX6_comesTo_11 : decode cX6_comesTo 11 = .ok (.iconst 0, 1) := by decide +kernel
theorem dX6_comesTo_12 : decode cX6_comesTo 12 = .ok (.istore 4, 2) := by decide +kernel
theorem dX6_comesTo_14 : decode cX6_comesTo 14 = .ok (.iload 4, 2) := by decide +kernel
theorem dX6_comesTo_16 : decode cX6_comesTo 16 = .ok (.bipush 16, 2) := by decide +kernel
theorem dX6_comesTo_18 : decode cX6_comesTo 18 = .ok (.if_icmp .ge 58, 3) := by decide +kernel
theorem dX6_comesTo_21 : decode cX6_comesTo 21 = .ok (.iconst 0, 1) := by decide +kernel
theorem dX6_comesTo_22 : decode cX6_comesTo 22 = .ok (.istore 5, 2) := by decide +kernel
theorem dX6_comesTo_24 : decode cX6_comesTo 24 = .ok (.iload 5, 2) := by decide +kernel
theorem dX6_comesTo_26 : decode cX6_comesTo 26 = .ok (.aload_n 0, 1) := by decide +kernel
theorem dX6_comesTo_27 : decode cX6_comesTo 27 = .ok (.getfield 47, 3) := by decide +kernel
theorem dX6_comesTo_30 : decode cX6_comesTo 30 = .ok (.aload_n 0, 1) := by decide +kernel
theorem dX6_comesTo_31 : decode cX6_comesTo 31 = .ok (.getfield 51, 3) := by decide +kernel
theorem dX6_comesTo_34 : decode cX6_comesTo 34 = .ok (.imul, 1) := by decide +kernel
theorem dX6_comesTo_35 : decode cX6_comesTo 35 = .ok (.if_icmp .ge 35, 3) := by decide +kernel
theorem dX6_comesTo_38 : decode cX6_comesTo 38 = .ok (.iload_n 3, 1) := by decide +kernel
theorem dX6_comesTo_39 : decode cX6_comesTo 39 = .ok (.iload_n 3, 1) := by decide +kernel
theorem dX6_comesTo_40 : decode cX6_comesTo 40 = .ok (.iload 5, 2) := by decide +kernel
theorem dX6_comesTo_42 : decode cX6_comesTo 42 = .ok (.ishr, 1) := by decide +kernel
theorem dX6_comesTo_43 : decode cX6_comesTo 43 = .ok (.iconst 1, 1) := by decide +kernel
theorem dX6_comesTo_44 : decode cX6_comesTo 44 = .ok (.iand, 1) := by decide +kernel
theorem dX6_comesTo_45 : decode cX6_comesTo 45 = .ok (.iconst 1, 1) := by decide +kernel
theorem dX6_comesTo_46 : decode cX6_comesTo 46 = .ok (.if_icmp .ne 15, 3) := by decide +kernel
theorem dX6_comesTo_49 : decode cX6_comesTo 49 = .ok (.aload_n 0, 1) := by decide +kernel
theorem dX6_comesTo_50 : decode cX6_comesTo 50 = .ok (.iconst 0, 1) := by decide +kernel
theorem dX6_comesTo_51 : decode cX6_comesTo 51 = .ok (.iload_n 2, 1) := by decide +kernel
theorem dX6_comesTo_52 : decode cX6_comesTo 52 = .ok (.iload 5, 2) := by decide +kernel
theorem dX6_comesTo_54 : decode cX6_comesTo 54 = .ok (.iconst 1, 1) := by decide +kernel
theorem dX6_comesTo_55 : decode cX6_comesTo 55 = .ok (.invokevirtual 119, 3) := by decide +kernel
theorem dX6_comesTo_58 : decode cX6_comesTo 58 = .ok (.goto 4, 3) := by decide +kernel
theorem dX6_comesTo_61 : decode cX6_comesTo 61 = .ok (.iconst 0, 1) := by decide +kernel
theorem dX6_comesTo_62 : decode cX6_comesTo 62 = .ok (.ior, 1) := by decide +kernel
theorem dX6_comesTo_63 : decode cX6_comesTo 63 = .ok (.istore_n 3, 1) := by decide +kernel
theorem dX6_comesTo_64 : decode cX6_comesTo 64 = .ok (.iinc 5 1, 3) := by decide +kernel
theorem dX6_comesTo_67 : decode cX6_comesTo 67 = .ok (.goto (-43), 3) := by decide +kernel
theorem dX6_comesTo_70 : decode cX6_comesTo 70 = .ok (.iinc 4 1, 3) := by decide +kernel
theorem dX6_comesTo_73 : decode cX6_comesTo 73 = .ok (.goto (-59), 3) := by decide +kernel
theorem dX6_comesTo_76 : decode cX6_comesTo 76 = .ok (.iload_n 3, 1) := by decide +kernel
theorem dX6_comesTo_77 : decode cX6_comesTo 77 = .ok (.ireturn, 1) := by decide +kernel
theorem dX6_comes_0 : decode cX6_comes 0 = .ok (.aload_n 0, 1) := by decide +kernel
theorem dX6_comes_1 : decode cX6_comes 1 = .ok (.iload_n 1, 1) := by decide +kernel
theorem dX6_comes_2 : decode cX6_comes 2 = .ok (.invokevirtual 94, 3) := by decide +kernel
theorem dX6_comes_5 : decode cX6_comes 5 = .ok (.ifCond .ne 5, 3) := by decide +kernel
theorem dX6_comes_8 : decode cX6_comes 8 = .ok (.iconst (-1), 1) := by decide +kernel
theorem dX6_comes_9 : decode cX6_comes 9 = .ok (.ireturn, 1) := by decide +kernel
theorem dX6_comes_10 : decode cX6_comes 10 = .ok (.aload_n 0, 1) := by decide +kernel
theorem dX6_comes_11 : decode cX6_comes 11 = .ok (.getfield 7, 3) := by decide +kernel
theorem dX6_comes_14 : decode cX6_comes 14 = .ok (.iload_n 1, 1) := by decide +kernel
theorem dX6_comes_15 : decode cX6_comes 15 = .ok (.iaload, 1) := by decide +kernel
theorem dX6_comes_16 : decode cX6_comes 16 = .ok (.invokestatic 65, 3) := by decide +kernel
theorem dX6_comes_19 : decode cX6_comes 19 = .ok (.bipush (-9), 2) := by decide +kernel
theorem dX6_comes_21 : decode cX6_comes 21 = .ok (.if_icmp .ne 7, 3) := by decide +kernel
theorem dX6_comes_24 : decode cX6_comes 24 = .ok (.iconst 0, 1) := by decide +kernel
theorem dX6_comes_25 : decode cX6_comes 25 = .ok (.goto 8, 3) := by decide +kernel
theorem dX6_comes_28 : decode cX6_comes 28 = .ok (.aload_n 0, 1) := by decide +kernel
theorem dX6_comes_29 : decode cX6_comes 29 = .ok (.iload_n 1, 1) := by decide +kernel
theorem dX6_comes_30 : decode cX6_comes 30 = .ok (.invokevirtual 175, 3) := by decide +kernel
theorem dX6_comes_33 : decode cX6_comes 33 = .ok (.ireturn, 1) := by decide +kernel
theorem dX6_canComeAt_0 : decode cX6_canComeAt 0 = .ok (.aload_n 0, 1) := by decide +kernel
theorem dX6_canComeAt_1 : decode cX6_canComeAt 1 = .ok (.iload_n 1, 1) := by decide +kernel
theorem dX6_canComeAt_2 : decode cX6_canComeAt 2 = .ok (.invokevirtual 175, 3) := by decide +kernel
theorem dX6_canComeAt_5 : decode cX6_canComeAt 5 = .ok (.istore_n 3, 1) := by decide +kernel
theorem dX6_canComeAt_6 : decode cX6_canComeAt 6 = .ok (.aload_n 0, 1) := by decide +kernel
theorem dX6_canComeAt_7 : decode cX6_canComeAt 7 = .ok (.iload_n 2, 1) := by decide +kernel
theorem dX6_canComeAt_8 : decode cX6_canComeAt 8 = .ok (.invokevirtual 175, 3) := by decide +kernel
theorem dX6_canComeAt_11 : decode cX6_canComeAt 11 = .ok (.istore 4, 2) := by decide +kernel
theorem dX6_canComeAt_13 : decode cX6_canComeAt 13 = .ok (.iconst 0, 1) := by decide +kernel
theorem dX6_canComeAt_14 : decode cX6_canComeAt 14 = .ok (.istore 5, 2) := by decide +kernel
theorem dX6_canComeAt_16 : decode cX6_canComeAt 16 = .ok (.iconst 0, 1) := by decide +kernel
theorem dX6_canComeAt_17 : decode cX6_canComeAt 17 = .ok (.istore 6, 2) := by decide +kernel
theorem dX6_canComeAt_19 : decode cX6_canComeAt 19 = .ok (.iload 6, 2) := by decide +kernel
theorem dX6_canComeAt_21 : decode cX6_canComeAt 21 = .ok (.aload_n 0, 1) := by decide +kernel
theorem dX6_canComeAt_22 : decode cX6_canComeAt 22 = .ok (.getfield 47, 3) := by decide +kernel
theorem dX6_canComeAt_25 : decode cX6_canComeAt 25 = .ok (.aload_n 0, 1) := by decide +kernel
theorem dX6_canComeAt_26 : decode cX6_canComeAt 26 = .ok (.getfield 51, 3) := by decide +kernel
theorem dX6_canComeAt_29 : decode cX6_canComeAt 29 = .ok (.imul, 1) := by decide +kernel
theorem dX6_canComeAt_30 : decode cX6_canComeAt 30 = .ok (.if_icmp .ge 51, 3) := by decide +kernel
theorem dX6_canComeAt_33 : decode cX6_canComeAt 33 = .ok (.iload 5, 2) := by decide +kernel
theorem dX6_canComeAt_35 : decode cX6_canComeAt 35 = .ok (.ifCond .ne 33, 3) := by decide +kernel
theorem dX6_canComeAt_38 : decode cX6_canComeAt 38 = .ok (.iload_n 3, 1) := by decide +kernel
theorem dX6_canComeAt_39 : decode cX6_canComeAt 39 = .ok (.iload 6, 2) := by decide +kernel
theorem dX6_canComeAt_41 : decode cX6_canComeAt 41 = .ok (.ishr, 1) := by decide +kernel
theorem dX6_canComeAt_42 : decode cX6_canComeAt 42 = .ok (.iconst 1, 1) := by decide +kernel
theorem dX6_canComeAt_43 : decode cX6_canComeAt 43 = .ok (.iand, 1) := by decide +kernel
theorem dX6_canComeAt_44 : decode cX6_canComeAt 44 = .ok (.iconst 1, 1) := by decide +kernel
theorem dX6_canComeAt_45 : decode cX6_canComeAt 45 = .ok (.if_icmp .ne 27, 3) := by decide +kernel
theorem dX6_canComeAt_48 : decode cX6_canComeAt 48 = .ok (.aload_n 0, 1) := by decide +kernel
theorem dX6_canComeAt_49 : decode cX6_canComeAt 49 = .ok (.iconst 0, 1) := by decide +kernel
theorem dX6_canComeAt_50 : decode cX6_canComeAt 50 = .ok (.aload_n 0, 1) := by decide +kernel
theorem dX6_canComeAt_51 : decode cX6_canComeAt 51 = .ok (.getfield 7, 3) := by decide +kernel
theorem dX6_canComeAt_54 : decode cX6_canComeAt 54 = .ok (.iload_n 1, 1) := by decide +kernel
theorem dX6_canComeAt_55 : decode cX6_canComeAt 55 = .ok (.iaload, 1) := by decide +kernel
theorem dX6_canComeAt_56 : decode cX6_canComeAt 56 = .ok (.iload 6, 2) := by decide +kernel
theorem dX6_canComeAt_58 : decode cX6_canComeAt 58 = .ok (.iconst 1, 1) := by decide +kernel
theorem dX6_canComeAt_59 : decode cX6_canComeAt 59 = .ok (.invokevirtual 115, 3) := by decide +kernel
theorem dX6_canComeAt_62 : decode cX6_canComeAt 62 = .ok (.iload 4, 2) := by decide +kernel
theorem dX6_canComeAt_64 : decode cX6_canComeAt 64 = .ok (.iand, 1) := by decide +kernel
theorem dX6_canComeAt_65 : decode cX6_canComeAt 65 = .ok (.ifCond .eq 7, 3) := by decide +kernel
theorem dX6_canComeAt_68 : decode cX6_canComeAt 68 = .ok (.iconst 1, 1) := by decide +kernel
theorem dX6_canComeAt_69 : decode cX6_canComeAt 69 = .ok (.goto 4, 3) := by decide +kernel
theorem dX6_canComeAt_72 : decode cX6_canComeAt 72 = .ok (.iconst 0, 1) := by decide +kernel
theorem dX6_canComeAt_73 : decode cX6_canComeAt 73 = .ok (.istore 5, 2) := by decide +kernel
theorem dX6_canComeAt_75 : decode cX6_canComeAt 75 = .ok (.iinc 6 1, 3) := by decide +kernel
theorem dX6_canComeAt_78 : decode cX6_canComeAt 78 = .ok (.goto (-59), 3) := by decide +kernel
theorem dX6_canComeAt_81 : decode cX6_canComeAt 81 = .ok (.iload 5, 2) := by decide +kernel
theorem dX6_canComeAt_83 : decode cX6_canComeAt 83 = .ok (.ireturn, 1) := by decide +kernel
theorem dX6_areFoes_0 : decode cX6_areFoes 0 = .ok (.aload_n 0, 1) := by decide +kernel
theorem dX6_areFoes_1 : decode cX6_areFoes 1 = .ok (.getfield 7, 3) := by decide +kernel
theorem dX6_areFoes_4 : decode cX6_areFoes 4 = .ok (.iload_n 1, 1) := by decide +kernel
theorem dX6_areFoes_5 : decode cX6_areFoes 5 = .ok (.iaload, 1) := by decide +kernel
theorem dX6_areFoes_6 : decode cX6_areFoes 6 = .ok (.invokestatic 65, 3) := by decide +kernel
theorem dX6_areFoes_9 : decode cX6_areFoes 9 = .ok (.istore_n 3, 1) := by decide +kernel
theorem dX6_areFoes_10 : decode cX6_areFoes 10 = .ok (.iload_n 3, 1) := by decide +kernel
theorem dX6_areFoes_11 : decode cX6_areFoes 11 = .ok (.bipush (-9), 2) := by decide +kernel
theorem dX6_areFoes_13 : decode cX6_areFoes 13 = .ok (.if_icmp .eq 22, 3) := by decide +kernel
theorem dX6_areFoes_16 : decode cX6_areFoes 16 = .ok (.aload_n 0, 1) := by decide +kernel
theorem dX6_areFoes_17 : decode cX6_areFoes 17 = .ok (.getfield 7, 3) := by decide +kernel
theorem dX6_areFoes_20 : decode cX6_areFoes 20 = .ok (.iload_n 2, 1) := by decide +kernel
theorem dX6_areFoes_21 : decode cX6_areFoes 21 = .ok (.iaload, 1) := by decide +kernel
theorem dX6_areFoes_22 : decode cX6_areFoes 22 = .ok (.invokestatic 65, 3) := by decide +kernel
theorem dX6_areFoes_25 : decode cX6_areFoes 25 = .ok (.iconst 1, 1) := by decide +kernel
theorem dX6_areFoes_26 : decode cX6_areFoes 26 = .ok (.iload_n 3, 1) := by decide +kernel
theorem dX6_areFoes_27 : decode cX6_areFoes 27 = .ok (.isub, 1) := by decide +kernel
theorem dX6_areFoes_28 : decode cX6_areFoes 28 = .ok (.if_icmp .ne 7, 3) := by decide +kernel
theorem dX6_areFoes_31 : decode cX6_areFoes 31 = .ok (.iconst 1, 1) := by decide +kernel
theorem dX6_areFoes_32 : decode cX6_areFoes 32 = .ok (.goto 4, 3) := by decide +kernel
theorem dX6_areFoes_35 : decode cX6_areFoes 35 = .ok (.iconst 0, 1) := by decide +kernel
theorem dX6_areFoes_36 : decode cX6_areFoes 36 = .ok (.ireturn, 1) := by decide +kernel
theorem dX6_comesAt_0 : decode cX6_comesAt 0 = .ok (.aload_n 0, 1) := by decide +kernel
theorem dX6_comesAt_1 : decode cX6_comesAt 1 = .ok (.iload_n 1, 1) := by decide +kernel
theorem dX6_comesAt_2 : decode cX6_comesAt 2 = .ok (.invokevirtual 94, 3) := by decide +kernel
theorem dX6_comesAt_5 : decode cX6_comesAt 5 = .ok (.ifCond .eq 11, 3) := by decide +kernel
theorem dX6_comesAt_8 : decode cX6_comesAt 8 = .ok (.aload_n 0, 1) := by decide +kernel
theorem dX6_comesAt_9 : decode cX6_comesAt 9 = .ok (.iload_n 2, 1) := by decide +kernel
theorem dX6_comesAt_10 : decode cX6_comesAt 10 = .ok (.invokevirtual 94, 3) := by decide +kernel
theorem dX6_comesAt_13 : decode cX6_comesAt 13 = .ok (.ifCond .ne 5, 3) := by decide +kernel
theorem dX6_comesAt_16 : decode cX6_comesAt 16 = .ok (.iconst (-1), 1) := by decide +kernel
theorem dX6_comesAt_17 : decode cX6_comesAt 17 = .ok (.ireturn, 1) := by decide +kernel
theorem dX6_comesAt_18 : decode cX6_comesAt 18 = .ok (.aload_n 0, 1) := by decide +kernel
theorem dX6_comesAt_19 : decode cX6_comesAt 19 = .ok (.iload_n 1, 1) := by decide +kernel
theorem dX6_comesAt_20 : decode cX6_comesAt 20 = .ok (.iload_n 2, 1) := by decide +kernel
theorem dX6_comesAt_21 : decode cX6_comesAt 21 = .ok (.invokevirtual 178, 3) := by decide +kernel
theorem dX6_comesAt_24 : decode cX6_comesAt 24 = .ok (.ifCond .ne 8, 3) := by decide +kernel
theorem dX6_comesAt_27 : decode cX6_comesAt 27 = .ok (.bipush (-3), 2) := by decide +kernel
theorem dX6_comesAt_29 : decode cX6_comesAt 29 = .ok (.goto 17, 3) := by decide +kernel
theorem dX6_comesAt_32 : decode cX6_comesAt 32 = .ok (.aload_n 0, 1) := by decide +kernel
theorem dX6_comesAt_33 : decode cX6_comesAt 33 = .ok (.iload_n 1, 1) := by decide +kernel
theorem dX6_comesAt_34 : decode cX6_comesAt 34 = .ok (.iload_n 2, 1) := by decide +kernel
theorem dX6_comesAt_35 : decode cX6_comesAt 35 = .ok (.invokevirtual 181, 3) := by decide +kernel
theorem dX6_comesAt_38 : decode cX6_comesAt 38 = .ok (.ifCond .eq 7, 3) := by decide +kernel
theorem dX6_comesAt_41 : decode cX6_comesAt 41 = .ok (.iconst 1, 1) := by decide +kernel
theorem dX6_comesAt_42 : decode cX6_comesAt 42 = .ok (.goto 4, 3) := by decide +kernel
theorem dX6_comesAt_45 : decode cX6_comesAt 45 = .ok (.iconst 0, 1) := by decide +kernel
theorem dX6_comesAt_46 : decode cX6_comesAt 46 = .ok (.ireturn, 1) := by decide +kernel
theorem dX6_shut_0 : decode cX6_shut 0 = .ok (.iconst 0, 1) := by decide +kernel
theorem dX6_shut_1 : decode cX6_shut 1 = .ok (.istore_n 1, 1) := by decide +kernel
theorem dX6_shut_2 : decode cX6_shut 2 = .ok (.iload_n 1, 1) := by decide +kernel
theorem dX6_shut_3 : decode cX6_shut 3 = .ok (.aload_n 0, 1) := by decide +kernel
theorem dX6_shut_4 : decode cX6_shut 4 = .ok (.getfield 47, 3) := by decide +kernel
theorem dX6_shut_7 : decode cX6_shut 7 = .ok (.aload_n 0, 1) := by decide +kernel
theorem dX6_shut_8 : decode cX6_shut 8 = .ok (.getfield 51, 3) := by decide +kernel
theorem dX6_shut_11 : decode cX6_shut 11 = .ok (.imul, 1) := by decide +kernel
theorem dX6_shut_12 : decode cX6_shut 12 = .ok (.if_icmp .ge 50, 3) := by decide +kernel
theorem dX6_shut_15 : decode cX6_shut 15 = .ok (.iconst 0, 1) := by decide +kernel
theorem dX6_shut_16 : decode cX6_shut 16 = .ok (.istore_n 2, 1) := by decide +kernel
theorem dX6_shut_17 : decode cX6_shut 17 = .ok (.iload_n 2, 1) := by decide +kernel
theorem dX6_shut_18 : decode cX6_shut 18 = .ok (.aload_n 0, 1) := by decide +kernel
theorem dX6_shut_19 : decode cX6_shut 19 = .ok (.getfield 47, 3) := by decide +kernel
theorem dX6_shut_22 : decode cX6_shut 22 = .ok (.aload_n 0, 1) := by decide +kernel
theorem dX6_shut_23 : decode cX6_shut 23 = .ok (.getfield 51, 3) := by decide +kernel
theorem dX6_shut_26 : decode cX6_shut 26 = .ok (.imul, 1) := by decide +kernel
theorem dX6_shut_27 : decode cX6_shut 27 = .ok (.if_icmp .ge 29, 3) := by decide +kernel
theorem dX6_shut_30 : decode cX6_shut 30 = .ok (.aload_n 0, 1) := by decide +kernel
theorem dX6_shut_31 : decode cX6_shut 31 = .ok (.iload_n 1, 1) := by decide +kernel
theorem dX6_shut_32 : decode cX6_shut 32 = .ok (.iload_n 2, 1) := by decide +kernel
theorem dX6_shut_33 : decode cX6_shut 33 = .ok (.invokevirtual 178, 3) := by decide +kernel
theorem dX6_shut_36 : decode cX6_shut 36 = .ok (.ifCond .eq 14, 3) := by decide +kernel
theorem dX6_shut_39 : decode cX6_shut 39 = .ok (.aload_n 0, 1) := by decide +kernel
theorem dX6_shut_40 : decode cX6_shut 40 = .ok (.iload_n 1, 1) := by decide +kernel
theorem dX6_shut_41 : decode cX6_shut 41 = .ok (.iload_n 2, 1) := by decide +kernel
theorem dX6_shut_42 : decode cX6_shut 42 = .ok (.invokevirtual 181, 3) := by decide +kernel
theorem dX6_shut_45 : decode cX6_shut 45 = .ok (.ifCond .eq 5, 3) := by decide +kernel
theorem dX6_shut_48 : decode cX6_shut 48 = .ok (.iconst 0, 1) := by decide +kernel
theorem dX6_shut_49 : decode cX6_shut 49 = .ok (.ireturn, 1) := by decide +kernel
theorem dX6_shut_50 : decode cX6_shut 50 = .ok (.iinc 2 1, 3) := by decide +kernel
theorem dX6_shut_53 : decode cX6_shut 53 = .ok (.goto (-36), 3) := by decide +kernel
theorem dX6_shut_56 : decode cX6_shut 56 = .ok (.iinc 1 1, 3) := by decide +kernel
theorem dX6_shut_59 : decode cX6_shut 59 = .ok (.goto (-57), 3) := by decide +kernel
theorem dX6_shut_62 : decode cX6_shut 62 = .ok (.iconst 1, 1) := by decide +kernel
theorem dX6_shut_63 : decode cX6_shut 63 = .ok (.ireturn, 1) := by decide +kernel
theorem dX6_isLike_0 : decode cX6_isLike 0 = .ok (.aload_n 0, 1) := by decide +kernel
theorem dX6_isLike_1 : decode cX6_isLike 1 = .ok (.getfield 16, 3) := by decide +kernel
theorem dX6_isLike_4 : decode cX6_isLike 4 = .ok (.iload_n 1, 1) := by decide +kernel
theorem dX6_isLike_5 : decode cX6_isLike 5 = .ok (.iaload, 1) := by decide +kernel
theorem dX6_isLike_6 : decode cX6_isLike 6 = .ok (.aload_n 0, 1) := by decide +kernel
theorem dX6_isLike_7 : decode cX6_isLike 7 = .ok (.getfield 44, 3) := by decide +kernel
theorem dX6_isLike_10 : decode cX6_isLike 10 = .ok (.bipush 34, 2) := by decide +kernel
theorem dX6_isLike_12 : decode cX6_isLike 12 = .ok (.iload_n 2, 1) := by decide +kernel
theorem dX6_isLike_13 : decode cX6_isLike 13 = .ok (.imul, 1) := by decide +kernel
theorem dX6_isLike_14 : decode cX6_isLike 14 = .ok (.bipush 32, 2) := by decide +kernel
theorem dX6_isLike_16 : decode cX6_isLike 16 = .ok (.iadd, 1) := by decide +kernel
theorem dX6_isLike_17 : decode cX6_isLike 17 = .ok (.iaload, 1) := by decide +kernel
theorem dX6_isLike_18 : decode cX6_isLike 18 = .ok (.if_icmp .ne 7, 3) := by decide +kernel
theorem dX6_isLike_21 : decode cX6_isLike 21 = .ok (.iconst 1, 1) := by decide +kernel
theorem dX6_isLike_22 : decode cX6_isLike 22 = .ok (.goto 4, 3) := by decide +kernel
theorem dX6_isLike_25 : decode cX6_isLike 25 = .ok (.iconst 0, 1) := by decide +kernel
theorem dX6_isLike_26 : decode cX6_isLike 26 = .ok (.istore_n 3, 1) := by decide +kernel
theorem dX6_isLike_27 : decode cX6_isLike 27 = .ok (.iconst 0, 1) := by decide +kernel
theorem dX6_isLike_28 : decode cX6_isLike 28 = .ok (.istore 4, 2) := by decide +kernel
theorem dX6_isLike_30 : decode cX6_isLike 30 = .ok (.iload 4, 2) := by decide +kernel
theorem dX6_isLike_32 : decode cX6_isLike 32 = .ok (.aload_n 0, 1) := by decide +kernel
theorem dX6_isLike_33 : decode cX6_isLike 33 = .ok (.getfield 47, 3) := by decide +kernel
theorem dX6_isLike_36 : decode cX6_isLike 36 = .ok (.aload_n 0, 1) := by decide +kernel
theorem dX6_isLike_37 : decode cX6_isLike 37 = .ok (.getfield 51, 3) := by decide +kernel
theorem dX6_isLike_40 : decode cX6_isLike 40 = .ok (.imul, 1) := by decide +kernel
theorem dX6_isLike_41 : decode cX6_isLike 41 = .ok (.if_icmp .ge 76, 3) := by decide +kernel
theorem dX6_isLike_44 : decode cX6_isLike 44 = .ok (.iload_n 3, 1) := by decide +kernel
theorem dX6_isLike_45 : decode cX6_isLike 45 = .ok (.ifCond .eq 64, 3) := by decide +kernel
theorem dX6_isLike_48 : decode cX6_isLike 48 = .ok (.aload_n 0, 1) := by decide +kernel
theorem dX6_isLike_49 : decode cX6_isLike 49 = .ok (.getfield 7, 3) := by decide +kernel
theorem dX6_isLike_52 : decode cX6_isLike 52 = .ok (.bipush 16, 2) := by decide +kernel
theorem dX6_isLike_54 : decode cX6_isLike 54 = .ok (.iload_n 1, 1) := by decide +kernel
theorem dX6_isLike_55 : decode cX6_isLike 55 = .ok (.imul, 1) := by decide +kernel
theorem dX6_isLike_56 : decode cX6_isLike 56 = .ok (.iload 4, 2) := by decide +kernel
theorem dX6_isLike_58 : decode cX6_isLike 58 = .ok (.iadd, 1) := by decide +kernel
theorem dX6_isLike_59 : decode cX6_isLike 59 = .ok (.iaload, 1) := by decide +kernel
theorem dX6_isLike_60 : decode cX6_isLike 60 = .ok (.aload_n 0, 1) := by decide +kernel
theorem dX6_isLike_61 : decode cX6_isLike 61 = .ok (.getfield 44, 3) := by decide +kernel
theorem dX6_isLike_64 : decode cX6_isLike 64 = .ok (.bipush 34, 2) := by decide +kernel
theorem dX6_isLike_66 : decode cX6_isLike 66 = .ok (.iload_n 2, 1) := by decide +kernel
theorem dX6_isLike_67 : decode cX6_isLike 67 = .ok (.imul, 1) := by decide +kernel
theorem dX6_isLike_68 : decode cX6_isLike 68 = .ok (.iload 4, 2) := by decide +kernel
theorem dX6_isLike_70 : decode cX6_isLike 70 = .ok (.iadd, 1) := by decide +kernel
theorem dX6_isLike_71 : decode cX6_isLike 71 = .ok (.iaload, 1) := by decide +kernel
theorem dX6_isLike_72 : decode cX6_isLike 72 = .ok (.if_icmp .ne 37, 3) := by decide +kernel
theorem dX6_isLike_75 : decode cX6_isLike 75 = .ok (.aload_n 0, 1) := by decide +kernel
theorem dX6_isLike_76 : decode cX6_isLike 76 = .ok (.getfield 13, 3) := by decide +kernel
theorem dX6_isLike_79 : decode cX6_isLike 79 = .ok (.bipush 16, 2) := by decide +kernel
theorem dX6_isLike_81 : decode cX6_isLike 81 = .ok (.iload_n 1, 1) := by decide +kernel
theorem dX6_isLike_82 : decode cX6_isLike 82 = .ok (.imul, 1) := by decide +kernel
theorem dX6_isLike_83 : decode cX6_isLike 83 = .ok (.iload 4, 2) := by decide +kernel
theorem dX6_isLike_85 : decode cX6_isLike 85 = .ok (.iadd, 1) := by decide +kernel
theorem dX6_isLike_86 : decode cX6_isLike 86 = .ok (.iaload, 1) := by decide +kernel
theorem dX6_isLike_87 : decode cX6_isLike 87 = .ok (.aload_n 0, 1) := by decide +kernel
theorem dX6_isLike_88 : decode cX6_isLike 88 = .ok (.getfield 44, 3) := by decide +kernel
theorem dX6_isLike_91 : decode cX6_isLike 91 = .ok (.bipush 34, 2) := by decide +kernel
theorem dX6_isLike_93 : decode cX6_isLike 93 = .ok (.iload_n 2, 1) := by decide +kernel
theorem dX6_isLike_94 : decode cX6_isLike 94 = .ok (.imul, 1) := by decide +kernel
theorem dX6_isLike_95 : decode cX6_isLike 95 = .ok (.bipush 16, 2) := by decide +kernel
theorem dX6_isLike_97 : decode cX6_isLike 97 = .ok (.iadd, 1) := by decide +kernel
theorem dX6_isLike_98 : decode cX6_isLike 98 = .ok (.iload 4, 2) := by decide +kernel
theorem dX6_isLike_100 : decode cX6_isLike 100 = .ok (.iadd, 1) := by decide +kernel
theorem dX6_isLike_101 : decode cX6_isLike 101 = .ok (.iaload, 1) := by decide +kernel
theorem dX6_isLike_102 : decode cX6_isLike 102 = .ok (.if_icmp .ne 7, 3) := by decide +kernel
theorem dX6_isLike_105 : decode cX6_isLike 105 = .ok (.iconst 1, 1) := by decide +kernel
theorem dX6_isLike_106 : decode cX6_isLike 106 = .ok (.goto 4, 3) := by decide +kernel
theorem dX6_isLike_109 : decode cX6_isLike 109 = .ok (.iconst 0, 1) := by decide +kernel
theorem dX6_isLike_110 : decode cX6_isLike 110 = .ok (.istore_n 3, 1) := by decide +kernel
theorem dX6_isLike_111 : decode cX6_isLike 111 = .ok (.iinc 4 1, 3) := by decide +kernel
theorem dX6_isLike_114 : decode cX6_isLike 114 = .ok (.goto (-84), 3) := by decide +kernel
theorem dX6_isLike_117 : decode cX6_isLike 117 = .ok (.iload_n 3, 1) := by decide +kernel
theorem dX6_isLike_118 : decode cX6_isLike 118 = .ok (.ireturn, 1) := by decide +kernel
theorem dX6_oneWay_0 : decode cX6_oneWay 0 = .ok (.aload_n 0, 1) := by decide +kernel
theorem dX6_oneWay_1 : decode cX6_oneWay 1 = .ok (.iload_n 1, 1) := by decide +kernel
theorem dX6_oneWay_2 : decode cX6_oneWay 2 = .ok (.invokevirtual 130, 3) := by decide +kernel
theorem dX6_oneWay_5 : decode cX6_oneWay 5 = .ok (.istore_n 3, 1) := by decide +kernel
theorem dX6_oneWay_6 : decode cX6_oneWay 6 = .ok (.iconst 0, 1) := by decide +kernel
theorem dX6_oneWay_7 : decode cX6_oneWay 7 = .ok (.istore 4, 2) := by decide +kernel
theorem dX6_oneWay_9 : decode cX6_oneWay 9 = .ok (.iconst 0, 1) := by decide +kernel
theorem dX6_oneWay_10 : decode cX6_oneWay 10 = .ok (.istore 5, 2) := by decide +kernel
theorem dX6_oneWay_12 : decode cX6_oneWay 12 = .ok (.iload 5, 2) := by decide +kernel
theorem dX6_oneWay_14 : decode cX6_oneWay 14 = .ok (.iload_n 3, 1) := by decide +kernel
theorem dX6_oneWay_15 : decode cX6_oneWay 15 = .ok (.if_icmp .ge 52, 3) := by decide +kernel
theorem dX6_oneWay_18 : decode cX6_oneWay 18 = .ok (.aload_n 0, 1) := by decide +kernel
theorem dX6_oneWay_19 : decode cX6_oneWay 19 = .ok (.iload_n 1, 1) := by decide +kernel
theorem dX6_oneWay_20 : decode cX6_oneWay 20 = .ok (.iload_n 1, 1) := by decide +kernel
theorem dX6_oneWay_21 : decode cX6_oneWay 21 = .ok (.iconst 1, 1) := by decide +kernel
theorem dX6_oneWay_22 : decode cX6_oneWay 22 = .ok (.iadd, 1) := by decide +kernel
theorem dX6_oneWay_23 : decode cX6_oneWay 23 = .ok (.aload_n 0, 1) := by decide +kernel
theorem dX6_oneWay_24 : decode cX6_oneWay 24 = .ok (.getfield 25, 3) := by decide +kernel
theorem dX6_oneWay_27 : decode cX6_oneWay 27 = .ok (.sipush 256, 3) := by decide +kernel
theorem dX6_oneWay_30 : decode cX6_oneWay 30 = .ok (.iload_n 1, 1) := by decide +kernel
theorem dX6_oneWay_31 : decode cX6_oneWay 31 = .ok (.imul, 1) := by decide +kernel
theorem dX6_oneWay_32 : decode cX6_oneWay 32 = .ok (.iload 5, 2) := by decide +kernel
theorem dX6_oneWay_34 : decode cX6_oneWay 34 = .ok (.iadd, 1) := by decide +kernel
theorem dX6_oneWay_35 : decode cX6_oneWay 35 = .ok (.iaload, 1) := by decide +kernel
theorem dX6_oneWay_36 : decode cX6_oneWay 36 = .ok (.invokevirtual 143, 3) := by decide +kernel
theorem dX6_oneWay_39 : decode cX6_oneWay 39 = .ok (.pop, 1) := by decide +kernel
theorem dX6_oneWay_40 : decode cX6_oneWay 40 = .ok (.iload 4, 2) := by decide +kernel
theorem dX6_oneWay_42 : decode cX6_oneWay 42 = .ok (.aload_n 0, 1) := by decide +kernel
theorem dX6_oneWay_43 : decode cX6_oneWay 43 = .ok (.iload_n 1, 1) := by decide +kernel
theorem dX6_oneWay_44 : decode cX6_oneWay 44 = .ok (.iconst 1, 1) := by decide +kernel
theorem dX6_oneWay_45 : decode cX6_oneWay 45 = .ok (.iadd, 1) := by decide +kernel
theorem dX6_oneWay_46 : decode cX6_oneWay 46 = .ok (.iload_n 2, 1) := by decide +kernel
theorem dX6_oneWay_47 : decode cX6_oneWay 47 = .ok (.invokevirtual 184, 3) := by decide +kernel
theorem dX6_oneWay_50 : decode cX6_oneWay 50 = .ok (.ifCond .eq 7, 3) := by decide +kernel
theorem dX6_oneWay_53 : decode cX6_oneWay 53 = .ok (.iconst 1, 1) := by decide +kernel
theorem dX6_oneWay_54 : decode cX6_oneWay 54 = .ok (.goto 4, 3) := by decide +kernel
theorem dX6_oneWay_57 : decode cX6_oneWay 57 = .ok (.iconst 0, 1) := by decide +kernel
theorem dX6_oneWay_58 : decode cX6_oneWay 58 = .ok (.iadd, 1) := by decide +kernel
theorem dX6_oneWay_59 : decode cX6_oneWay 59 = .ok (.istore 4, 2) := by decide +kernel
theorem dX6_oneWay_61 : decode cX6_oneWay 61 = .ok (.iinc 5 1, 3) := by decide +kernel
theorem dX6_oneWay_64 : decode cX6_oneWay 64 = .ok (.goto (-52), 3) := by decide +kernel
theorem dX6_oneWay_67 : decode cX6_oneWay 67 = .ok (.iload 4, 2) := by decide +kernel
theorem dX6_oneWay_69 : decode cX6_oneWay 69 = .ok (.ireturn, 1) := by decide +kernel
theorem dX6_twoWays_0 : decode cX6_twoWays 0 = .ok (.aload_n 0, 1) := by decide +kernel
theorem dX6_twoWays_1 : decode cX6_twoWays 1 = .ok (.iload_n 1, 1) := by decide +kernel
theorem dX6_twoWays_2 : decode cX6_twoWays 2 = .ok (.invokevirtual 130, 3) := by decide +kernel
theorem dX6_twoWays_5 : decode cX6_twoWays 5 = .ok (.istore_n 3, 1) := by decide +kernel
theorem dX6_twoWays_6 : decode cX6_twoWays 6 = .ok (.iconst 0, 1) := by decide +kernel
theorem dX6_twoWays_7 : decode cX6_twoWays 7 = .ok (.istore 4, 2) := by decide +kernel
theorem dX6_twoWays_9 : decode cX6_twoWays 9 = .ok (.iconst 0, 1) := by decide +kernel
theorem dX6_twoWays_10 : decode cX6_twoWays 10 = .ok (.istore 5, 2) := by decide +kernel
theorem dX6_twoWays_12 : decode cX6_twoWays 12 = .ok (.iload 5, 2) := by decide +kernel
theorem dX6_twoWays_14 : decode cX6_twoWays 14 = .ok (.iload_n 3, 1) := by decide +kernel
theorem dX6_twoWays_15 : decode cX6_twoWays 15 = .ok (.if_icmp .ge 44, 3) := by decide +kernel
theorem dX6_twoWays_18 : decode cX6_twoWays 18 = .ok (.aload_n 0, 1) := by decide +kernel
theorem dX6_twoWays_19 : decode cX6_twoWays 19 = .ok (.iload_n 1, 1) := by decide +kernel
theorem dX6_twoWays_20 : decode cX6_twoWays 20 = .ok (.iload_n 1, 1) := by decide +kernel
theorem dX6_twoWays_21 : decode cX6_twoWays 21 = .ok (.iconst 1, 1) := by decide +kernel
theorem dX6_twoWays_22 : decode cX6_twoWays 22 = .ok (.iadd, 1) := by decide +kernel
theorem dX6_twoWays_23 : decode cX6_twoWays 23 = .ok (.aload_n 0, 1) := by decide +kernel
theorem dX6_twoWays_24 : decode cX6_twoWays 24 = .ok (.getfield 25, 3) := by decide +kernel
theorem dX6_twoWays_27 : decode cX6_twoWays 27 = .ok (.sipush 256, 3) := by decide +kernel
theorem dX6_twoWays_30 : decode cX6_twoWays 30 = .ok (.iload_n 1, 1) := by decide +kernel
theorem dX6_twoWays_31 : decode cX6_twoWays 31 = .ok (.imul, 1) := by decide +kernel
theorem dX6_twoWays_32 : decode cX6_twoWays 32 = .ok (.iload 5, 2) := by decide +kernel
theorem dX6_twoWays_34 : decode cX6_twoWays 34 = .ok (.iadd, 1) := by decide +kernel
theorem dX6_twoWays_35 : decode cX6_twoWays 35 = .ok (.iaload, 1) := by decide +kernel
theorem dX6_twoWays_36 : decode cX6_twoWays 36 = .ok (.invokevirtual 143, 3) := by decide +kernel
theorem dX6_twoWays_39 : decode cX6_twoWays 39 = .ok (.pop, 1) := by decide +kernel
theorem dX6_twoWays_40 : decode cX6_twoWays 40 = .ok (.iload 4, 2) := by decide +kernel
theorem dX6_twoWays_42 : decode cX6_twoWays 42 = .ok (.aload_n 0, 1) := by decide +kernel
theorem dX6_twoWays_43 : decode cX6_twoWays 43 = .ok (.iload_n 1, 1) := by decide +kernel
theorem dX6_twoWays_44 : decode cX6_twoWays 44 = .ok (.iconst 1, 1) := by decide +kernel
theorem dX6_twoWays_45 : decode cX6_twoWays 45 = .ok (.iadd, 1) := by decide +kernel
theorem dX6_twoWays_46 : decode cX6_twoWays 46 = .ok (.iload_n 2, 1) := by decide +kernel
theorem dX6_twoWays_47 : decode cX6_twoWays 47 = .ok (.invokevirtual 187, 3) := by decide +kernel
theorem dX6_twoWays_50 : decode cX6_twoWays 50 = .ok (.iadd, 1) := by decide +kernel
theorem dX6_twoWays_51 : decode cX6_twoWays 51 = .ok (.istore 4, 2) := by decide +kernel
theorem dX6_twoWays_53 : decode cX6_twoWays 53 = .ok (.iinc 5 1, 3) := by decide +kernel
theorem dX6_twoWays_56 : decode cX6_twoWays 56 = .ok (.goto (-44), 3) := by decide +kernel
theorem dX6_twoWays_59 : decode cX6_twoWays 59 = .ok (.iload 4, 2) := by decide +kernel
theorem dX6_twoWays_61 : decode cX6_twoWays 61 = .ok (.ireturn, 1) := by decide +kernel
theorem dX6_ways_0 : decode cX6_ways 0 = .ok (.iload_n 1, 1) := by decide +kernel
theorem dX6_ways_1 : decode cX6_ways 1 = .ok (.i2l, 1) := by decide +kernel
theorem dX6_ways_2 : decode cX6_ways 2 = .ok (.lconst 0, 1) := by decide +kernel
theorem dX6_ways_3 : decode cX6_ways 3 = .ok (.lconst 1, 1) := by decide +kernel
theorem dX6_ways_4 : decode cX6_ways 4 = .ok (.invokestatic 56, 3) := by decide +kernel
theorem dX6_ways_7 : decode cX6_ways 7 = .ok (.ifCond .ne 5, 3) := by decide +kernel
theorem dX6_ways_10 : decode cX6_ways 10 = .ok (.iconst (-1), 1) := by decide +kernel
theorem dX6_ways_11 : decode cX6_ways 11 = .ok (.ireturn, 1) := by decide +kernel
theorem dX6_ways_12 : decode cX6_ways 12 = .ok (.iload_n 2, 1) := by decide +kernel
theorem dX6_ways_13 : decode cX6_ways 13 = .ok (.i2l, 1) := by decide +kernel
theorem dX6_ways_14 : decode cX6_ways 14 = .ok (.lconst 1, 1) := by decide +kernel
theorem dX6_ways_15 : decode cX6_ways 15 = .ok (.ldc2_w 190, 3) := by decide +kernel
theorem dX6_ways_18 : decode cX6_ways 18 = .ok (.invokestatic 56, 3) := by decide +kernel
theorem dX6_ways_21 : decode cX6_ways 21 = .ok (.ifCond .ne 6, 3) := by decide +kernel
theorem dX6_ways_24 : decode cX6_ways 24 = .ok (.bipush (-2), 2) := by decide +kernel
theorem dX6_ways_26 : decode cX6_ways 26 = .ok (.ireturn, 1) := by decide +kernel
theorem dX6_ways_27 : decode cX6_ways 27 = .ok (.aload_n 0, 1) := by decide +kernel
theorem dX6_ways_28 : decode cX6_ways 28 = .ok (.getfield 40, 3) := by decide +kernel
theorem dX6_ways_31 : decode cX6_ways 31 = .ok (.iload_n 1, 1) := by decide +kernel
theorem dX6_ways_32 : decode cX6_ways 32 = .ok (.baload, 1) := by decide +kernel
theorem dX6_ways_33 : decode cX6_ways 33 = .ok (.ifCond .ne 6, 3) := by decide +kernel
theorem dX6_ways_36 : decode cX6_ways 36 = .ok (.bipush (-3), 2) := by decide +kernel
theorem dX6_ways_38 : decode cX6_ways 38 = .ok (.ireturn, 1) := by decide +kernel
theorem dX6_ways_39 : decode cX6_ways 39 = .ok (.iload_n 2, 1) := by decide +kernel
theorem dX6_ways_40 : decode cX6_ways 40 = .ok (.iconst 3, 1) := by decide +kernel
theorem dX6_ways_41 : decode cX6_ways 41 = .ok (.if_icmp .ge 24, 3) := by decide +kernel
theorem dX6_ways_44 : decode cX6_ways 44 = .ok (.iload_n 2, 1) := by decide +kernel
theorem dX6_ways_45 : decode cX6_ways 45 = .ok (.iconst 1, 1) := by decide +kernel
theorem dX6_ways_46 : decode cX6_ways 46 = .ok (.if_icmp .ne 12, 3) := by decide +kernel
theorem dX6_ways_49 : decode cX6_ways 49 = .ok (.aload_n 0, 1) := by decide +kernel
theorem dX6_ways_50 : decode cX6_ways 50 = .ok (.iconst 0, 1) := by decide +kernel
theorem dX6_ways_51 : decode cX6_ways 51 = .ok (.iload_n 1, 1) := by decide +kernel
theorem dX6_ways_52 : decode cX6_ways 52 = .ok (.invokevirtual 187, 3) := by decide +kernel
theorem dX6_ways_55 : decode cX6_ways 55 = .ok (.goto 9, 3) := by decide +kernel
theorem dX6_ways_58 : decode cX6_ways 58 = .ok (.aload_n 0, 1) := by decide +kernel
theorem dX6_ways_59 : decode cX6_ways 59 = .ok (.iconst 0, 1) := by decide +kernel
theorem dX6_ways_60 : decode cX6_ways 60 = .ok (.iload_n 1, 1) := by decide +kernel
theorem dX6_ways_61 : decode cX6_ways 61 = .ok (.invokevirtual 192, 3) := by decide +kernel
theorem dX6_ways_64 : decode cX6_ways 64 = .ok (.ireturn, 1) := by decide +kernel
theorem dX6_ways_65 : decode cX6_ways 65 = .ok (.aload_n 0, 1) := by decide +kernel
theorem dX6_ways_66 : decode cX6_ways 66 = .ok (.iconst 0, 1) := by decide +kernel
theorem dX6_ways_67 : decode cX6_ways 67 = .ok (.invokevirtual 130, 3) := by decide +kernel
theorem dX6_ways_70 : decode cX6_ways 70 = .ok (.istore_n 3, 1) := by decide +kernel
theorem dX6_ways_71 : decode cX6_ways 71 = .ok (.iconst 0, 1) := by decide +kernel
theorem dX6_ways_72 : decode cX6_ways 72 = .ok (.istore 4, 2) := by decide +kernel
theorem dX6_ways_74 : decode cX6_ways 74 = .ok (.iconst 0, 1) := by decide +kernel
theorem dX6_ways_75 : decode cX6_ways 75 = .ok (.istore 5, 2) := by decide +kernel
theorem dX6_ways_77 : decode cX6_ways 77 = .ok (.iload 5, 2) := by decide +kernel
theorem dX6_ways_79 : decode cX6_ways 79 = .ok (.iload_n 3, 1) := by decide +kernel
theorem dX6_ways_80 : decode cX6_ways 80 = .ok (.if_icmp .ge 34, 3) := by decide +kernel
theorem dX6_ways_83 : decode cX6_ways 83 = .ok (.aload_n 0, 1) := by decide +kernel
theorem dX6_ways_84 : decode cX6_ways 84 = .ok (.iconst 0, 1) := by decide +kernel
theorem dX6_ways_85 : decode cX6_ways 85 = .ok (.iconst 1, 1) := by decide +kernel
theorem dX6_ways_86 : decode cX6_ways 86 = .ok (.aload_n 0, 1) := by decide +kernel
theorem dX6_ways_87 : decode cX6_ways 87 = .ok (.getfield 25, 3) := by decide +kernel
theorem dX6_ways_90 : decode cX6_ways 90 = .ok (.iload 5, 2) := by decide +kernel
theorem dX6_ways_92 : decode cX6_ways 92 = .ok (.iaload, 1) := by decide +kernel
theorem dX6_ways_93 : decode cX6_ways 93 = .ok (.invokevirtual 143, 3) := by decide +kernel
theorem dX6_ways_96 : decode cX6_ways 96 = .ok (.pop, 1) := by decide +kernel
theorem dX6_ways_97 : decode cX6_ways 97 = .ok (.iload 4, 2) := by decide +kernel
theorem dX6_ways_99 : decode cX6_ways 99 = .ok (.aload_n 0, 1) := by decide +kernel
theorem dX6_ways_100 : decode cX6_ways 100 = .ok (.iconst 1, 1) := by decide +kernel
theorem dX6_ways_101 : decode cX6_ways 101 = .ok (.iload_n 1, 1) := by decide +kernel
theorem dX6_ways_102 : decode cX6_ways 102 = .ok (.invokevirtual 192, 3) := by decide +kernel
theorem dX6_ways_105 : decode cX6_ways 105 = .ok (.iadd, 1) := by decide +kernel
theorem dX6_ways_106 : decode cX6_ways 106 = .ok (.istore 4, 2) := by decide +kernel
theorem dX6_ways_108 : decode cX6_ways 108 = .ok (.iinc 5 1, 3) := by decide +kernel
theorem dX6_ways_111 : decode cX6_ways 111 = .ok (.goto (-34), 3) := by decide +kernel
theorem dX6_ways_114 : decode cX6_ways 114 = .ok (.iload 4, 2) := by decide +kernel
theorem dX6_ways_116 : decode cX6_ways 116 = .ok (.ireturn, 1) := by decide +kernel
theorem dX6_seed_0 : decode cX6_seed 0 = .ok (.aload_n 0, 1) := by decide +kernel
theorem dX6_seed_1 : decode cX6_seed 1 = .ok (.getfield 195, 3) := by decide +kernel
theorem dX6_seed_4 : decode cX6_seed 4 = .ok (.lstore_n 3, 1) := by decide +kernel
theorem dX6_seed_5 : decode cX6_seed 5 = .ok (.aload_n 0, 1) := by decide +kernel
theorem dX6_seed_6 : decode cX6_seed 6 = .ok (.lload_n 1, 1) := by decide +kernel
theorem dX6_seed_7 : decode cX6_seed 7 = .ok (.putfield 195, 3) := by decide +kernel
theorem dX6_seed_10 : decode cX6_seed 10 = .ok (.lload_n 3, 1) := by decide +kernel
theorem dX6_seed_11 : decode cX6_seed 11 = .ok (.lreturn, 1) := by decide +kernel
theorem dX6_men_0 : decode cX6_men 0 = .ok (.iconst 0, 1) := by decide +kernel
theorem dX6_men_1 : decode cX6_men 1 = .ok (.istore_n 2, 1) := by decide +kernel
theorem dX6_men_2 : decode cX6_men 2 = .ok (.iconst 0, 1) := by decide +kernel
theorem dX6_men_3 : decode cX6_men 3 = .ok (.istore_n 3, 1) := by decide +kernel
theorem dX6_men_4 : decode cX6_men 4 = .ok (.iload_n 3, 1) := by decide +kernel
theorem dX6_men_5 : decode cX6_men 5 = .ok (.aload_n 0, 1) := by decide +kernel
theorem dX6_men_6 : decode cX6_men 6 = .ok (.getfield 47, 3) := by decide +kernel
theorem dX6_men_9 : decode cX6_men 9 = .ok (.aload_n 0, 1) := by decide +kernel
theorem dX6_men_10 : decode cX6_men 10 = .ok (.getfield 51, 3) := by decide +kernel
theorem dX6_men_13 : decode cX6_men 13 = .ok (.imul, 1) := by decide +kernel
theorem dX6_men_14 : decode cX6_men 14 = .ok (.if_icmp .ge 36, 3) := by decide +kernel
theorem dX6_men_17 : decode cX6_men 17 = .ok (.iload_n 2, 1) := by decide +kernel
theorem dX6_men_18 : decode cX6_men 18 = .ok (.aload_n 0, 1) := by decide +kernel
theorem dX6_men_19 : decode cX6_men 19 = .ok (.getfield 7, 3) := by decide +kernel
theorem dX6_men_22 : decode cX6_men 22 = .ok (.bipush 16, 2) := by decide +kernel
theorem dX6_men_24 : decode cX6_men 24 = .ok (.iload_n 1, 1) := by decide +kernel
theorem dX6_men_25 : decode cX6_men 25 = .ok (.imul, 1) := by decide +kernel
theorem dX6_men_26 : decode cX6_men 26 = .ok (.iload_n 3, 1) := by decide +kernel
theorem dX6_men_27 : decode cX6_men 27 = .ok (.iadd, 1) := by decide +kernel
theorem dX6_men_28 : decode cX6_men 28 = .ok (.iaload, 1) := by decide +kernel
theorem dX6_men_29 : decode cX6_men 29 = .ok (.invokestatic 65, 3) := by decide +kernel
theorem dX6_men_32 : decode cX6_men 32 = .ok (.bipush (-9), 2) := by decide +kernel
theorem dX6_men_34 : decode cX6_men 34 = .ok (.if_icmp .eq 7, 3) := by decide +kernel
theorem dX6_men_37 : decode cX6_men 37 = .ok (.iconst 1, 1) := by decide +kernel
theorem dX6_men_38 : decode cX6_men 38 = .ok (.goto 4, 3) := by decide +kernel
theorem dX6_men_41 : decode cX6_men 41 = .ok (.iconst 0, 1) := by decide +kernel
theorem dX6_men_42 : decode cX6_men 42 = .ok (.iadd, 1) := by decide +kernel
theorem dX6_men_43 : decode cX6_men 43 = .ok (.istore_n 2, 1) := by decide +kernel
theorem dX6_men_44 : decode cX6_men 44 = .ok (.iinc 3 1, 3) := by decide +kernel
theorem dX6_men_47 : decode cX6_men 47 = .ok (.goto (-43), 3) := by decide +kernel
theorem dX6_men_50 : decode cX6_men 50 = .ok (.iload_n 2, 1) := by decide +kernel
theorem dX6_men_51 : decode cX6_men 51 = .ok (.ireturn, 1) := by decide +kernel
theorem dX6_play_0 : decode cX6_play 0 = .ok (.iload_n 1, 1) := by decide +kernel
theorem dX6_play_1 : decode cX6_play 1 = .ok (.i2l, 1) := by decide +kernel
theorem dX6_play_2 : decode cX6_play 2 = .ok (.lconst 1, 1) := by decide +kernel
theorem dX6_play_3 : decode cX6_play 3 = .ok (.ldc2_w 199, 3) := by decide +kernel
theorem dX6_play_6 : decode cX6_play 6 = .ok (.invokestatic 56, 3) := by decide +kernel
theorem dX6_play_9 : decode cX6_play 9 = .ok (.ifCond .ne 6, 3) := by decide +kernel
theorem dX6_play_12 : decode cX6_play 12 = .ok (.bipush (-2), 2) := by decide +kernel
theorem dX6_play_14 : decode cX6_play 14 = .ok (.ireturn, 1) := by decide +kernel
theorem dX6_play_15 : decode cX6_play 15 = .ok (.iconst 0, 1) := by decide +kernel
theorem dX6_play_16 : decode cX6_play 16 = .ok (.istore_n 2, 1) := by decide +kernel
theorem dX6_play_17 : decode cX6_play 17 = .ok (.iconst 0, 1) := by decide +kernel
theorem dX6_play_18 : decode cX6_play 18 = .ok (.istore_n 3, 1) := by decide +kernel
theorem dX6_play_19 : decode cX6_play 19 = .ok (.iload_n 3, 1) := by decide +kernel
theorem dX6_play_20 : decode cX6_play 20 = .ok (.iload_n 1, 1) := by decide +kernel
theorem dX6_play_21 : decode cX6_play 21 = .ok (.if_icmp .ge 75, 3) := by decide +kernel
theorem dX6_play_24 : decode cX6_play 24 = .ok (.aload_n 0, 1) := by decide +kernel
theorem dX6_play_25 : decode cX6_play 25 = .ok (.getfield 19, 3) := by decide +kernel
theorem dX6_play_28 : decode cX6_play 28 = .ok (.iload_n 2, 1) := by decide +kernel
theorem dX6_play_29 : decode cX6_play 29 = .ok (.iaload, 1) := by decide +kernel
theorem dX6_play_30 : decode cX6_play 30 = .ok (.bipush (-9), 2) := by decide +kernel
theorem dX6_play_32 : decode cX6_play 32 = .ok (.if_icmp .ne 64, 3) := by decide +kernel
theorem dX6_play_35 : decode cX6_play 35 = .ok (.aload_n 0, 1) := by decide +kernel
theorem dX6_play_36 : decode cX6_play 36 = .ok (.iload_n 2, 1) := by decide +kernel
theorem dX6_play_37 : decode cX6_play 37 = .ok (.invokevirtual 130, 3) := by decide +kernel
theorem dX6_play_40 : decode cX6_play 40 = .ok (.istore 4, 2) := by decide +kernel
theorem dX6_play_42 : decode cX6_play 42 = .ok (.aload_n 0, 1) := by decide +kernel
theorem dX6_play_43 : decode cX6_play 43 = .ok (.aload_n 0, 1) := by decide +kernel
theorem dX6_play_44 : decode cX6_play 44 = .ok (.getfield 195, 3) := by decide +kernel
theorem dX6_play_47 : decode cX6_play 47 = .ok (.ldc2_w 201, 3) := by decide +kernel
theorem dX6_play_50 : decode cX6_play 50 = .ok (.lmul, 1) := by decide +kernel
theorem dX6_play_51 : decode cX6_play 51 = .ok (.ldc2_w 203, 3) := by decide +kernel
theorem dX6_play_54 : decode cX6_play 54 = .ok (.ladd, 1) := by decide +kernel
theorem dX6_play_55 : decode cX6_play 55 = .ok (.putfield 195, 3) := by decide +kernel
theorem dX6_play_58 : decode cX6_play 58 = .ok (.aload_n 0, 1) := by decide +kernel
theorem dX6_play_59 : decode cX6_play 59 = .ok (.iload_n 2, 1) := by decide +kernel
theorem dX6_play_60 : decode cX6_play 60 = .ok (.iconst 1, 1) := by decide +kernel
theorem dX6_play_61 : decode cX6_play 61 = .ok (.aload_n 0, 1) := by decide +kernel
theorem dX6_play_62 : decode cX6_play 62 = .ok (.getfield 25, 3) := by decide +kernel
theorem dX6_play_65 : decode cX6_play 65 = .ok (.sipush 256, 3) := by decide +kernel
theorem dX6_play_68 : decode cX6_play 68 = .ok (.iload_n 2, 1) := by decide +kernel
theorem dX6_play_69 : decode cX6_play 69 = .ok (.imul, 1) := by decide +kernel
theorem dX6_play_70 : decode cX6_play 70 = .ok (.aload_n 0, 1) := by decide +kernel
theorem dX6_play_71 : decode cX6_play 71 = .ok (.getfield 195, 3) := by decide +kernel
theorem dX6_play_74 : decode cX6_play 74 = .ok (.bipush 33, 2) := by decide +kernel
theorem dX6_play_76 : decode cX6_play 76 = .ok (.lushr, 1) := by decide +kernel
theorem dX6_play_77 : decode cX6_play 77 = .ok (.iload 4, 2) := by decide +kernel
theorem dX6_play_79 : decode cX6_play 79 = .ok (.i2l, 1) := by decide +kernel
theorem dX6_play_80 : decode cX6_play 80 = .ok (.lrem, 1) := by decide +kernel
theorem dX6_play_81 : decode cX6_play 81 = .ok (.l2i, 1) := by decide +kernel
theorem dX6_play_82 : decode cX6_play 82 = .ok (.iadd, 1) := by decide +kernel
theorem dX6_play_83 : decode cX6_play 83 = .ok (.iaload, 1) := by decide +kernel
theorem dX6_play_84 : decode cX6_play 84 = .ok (.invokevirtual 143, 3) := by decide +kernel
theorem dX6_play_87 : decode cX6_play 87 = .ok (.pop, 1) := by decide +kernel
theorem dX6_play_88 : decode cX6_play 88 = .ok (.iconst 1, 1) := by decide +kernel
theorem dX6_play_89 : decode cX6_play 89 = .ok (.istore_n 2, 1) := by decide +kernel
theorem dX6_play_90 : decode cX6_play 90 = .ok (.iinc 3 1, 3) := by decide +kernel
theorem dX6_play_93 : decode cX6_play 93 = .ok (.goto (-74), 3) := by decide +kernel
theorem dX6_play_96 : decode cX6_play 96 = .ok (.aload_n 0, 1) := by decide +kernel
theorem dX6_play_97 : decode cX6_play 97 = .ok (.iload_n 2, 1) := by decide +kernel
theorem dX6_play_98 : decode cX6_play 98 = .ok (.invokevirtual 205, 3) := by decide +kernel
theorem dX6_play_101 : decode cX6_play 101 = .ok (.ireturn, 1) := by decide +kernel
theorem dX6_keep_0 : decode cX6_keep 0 = .ok (.iload_n 1, 1) := by decide +kernel
theorem dX6_keep_1 : decode cX6_keep 1 = .ok (.i2l, 1) := by decide +kernel
theorem dX6_keep_2 : decode cX6_keep 2 = .ok (.lconst 0, 1) := by decide +kernel
theorem dX6_keep_3 : decode cX6_keep 3 = .ok (.lconst 1, 1) := by decide +kernel
theorem dX6_keep_4 : decode cX6_keep 4 = .ok (.invokestatic 56, 3) := by decide +kernel
theorem dX6_keep_7 : decode cX6_keep 7 = .ok (.ifCond .ne 5, 3) := by decide +kernel
theorem dX6_keep_10 : decode cX6_keep 10 = .ok (.iconst (-1), 1) := by decide +kernel
theorem dX6_keep_11 : decode cX6_keep 11 = .ok (.ireturn, 1) := by decide +kernel
theorem dX6_keep_12 : decode cX6_keep 12 = .ok (.aload_n 0, 1) := by decide +kernel
theorem dX6_keep_13 : decode cX6_keep 13 = .ok (.getfield 40, 3) := by decide +kernel
theorem dX6_keep_16 : decode cX6_keep 16 = .ok (.iload_n 1, 1) := by decide +kernel
theorem dX6_keep_17 : decode cX6_keep 17 = .ok (.iconst 1, 1) := by decide +kernel
theorem dX6_keep_18 : decode cX6_keep 18 = .ok (.bastore, 1) := by decide +kernel
theorem dX6_keep_19 : decode cX6_keep 19 = .ok (.iconst 0, 1) := by decide +kernel
theorem dX6_keep_20 : decode cX6_keep 20 = .ok (.istore_n 2, 1) := by decide +kernel
theorem dX6_keep_21 : decode cX6_keep 21 = .ok (.iload_n 2, 1) := by decide +kernel
theorem dX6_keep_22 : decode cX6_keep 22 = .ok (.bipush 16, 2) := by decide +kernel
theorem dX6_keep_24 : decode cX6_keep 24 = .ok (.if_icmp .ge 46, 3) := by decide +kernel
theorem dX6_keep_27 : decode cX6_keep 27 = .ok (.aload_n 0, 1) := by decide +kernel
theorem dX6_keep_28 : decode cX6_keep 28 = .ok (.getfield 44, 3) := by decide +kernel
theorem dX6_keep_31 : decode cX6_keep 31 = .ok (.bipush 34, 2) := by decide +kernel
theorem dX6_keep_33 : decode cX6_keep 33 = .ok (.iload_n 1, 1) := by decide +kernel
theorem dX6_keep_34 : decode cX6_keep 34 = .ok (.imul, 1) := by decide +kernel
theorem dX6_keep_35 : decode cX6_keep 35 = .ok (.iload_n 2, 1) := by decide +kernel
theorem dX6_keep_36 : decode cX6_keep 36 = .ok (.iadd, 1) := by decide +kernel
theorem dX6_keep_37 : decode cX6_keep 37 = .ok (.aload_n 0, 1) := by decide +kernel
theorem dX6_keep_38 : decode cX6_keep 38 = .ok (.getfield 7, 3) := by decide +kernel
theorem dX6_keep_41 : decode cX6_keep 41 = .ok (.iload_n 2, 1) := by decide +kernel
theorem dX6_keep_42 : decode cX6_keep 42 = .ok (.iaload, 1) := by decide +kernel
theorem dX6_keep_43 : decode cX6_keep 43 = .ok (.iastore, 1) := by decide +kernel
theorem dX6_keep_44 : decode cX6_keep 44 = .ok (.aload_n 0, 1) := by decide +kernel
theorem dX6_keep_45 : decode cX6_keep 45 = .ok (.getfield 44, 3) := by decide +kernel
theorem dX6_keep_48 : decode cX6_keep 48 = .ok (.bipush 34, 2) := by decide +kernel
theorem dX6_keep_50 : decode cX6_keep 50 = .ok (.iload_n 1, 1) := by decide +kernel
theorem dX6_keep_51 : decode cX6_keep 51 = .ok (.imul, 1) := by decide +kernel
theorem dX6_keep_52 : decode cX6_keep 52 = .ok (.bipush 16, 2) := by decide +kernel
theorem dX6_keep_54 : decode cX6_keep 54 = .ok (.iadd, 1) := by decide +kernel
theorem dX6_keep_55 : decode cX6_keep 55 = .ok (.iload_n 2, 1) := by decide +kernel
theorem dX6_keep_56 : decode cX6_keep 56 = .ok (.iadd, 1) := by decide +kernel
theorem dX6_keep_57 : decode cX6_keep 57 = .ok (.aload_n 0, 1) := by decide +kernel
theorem dX6_keep_58 : decode cX6_keep 58 = .ok (.getfield 13, 3) := by decide +kernel
theorem dX6_keep_61 : decode cX6_keep 61 = .ok (.iload_n 2, 1) := by decide +kernel
theorem dX6_keep_62 : decode cX6_keep 62 = .ok (.iaload, 1) := by decide +kernel
theorem dX6_keep_63 : decode cX6_keep 63 = .ok (.iastore, 1) := by decide +kernel
theorem dX6_keep_64 : decode cX6_keep 64 = .ok (.iinc 2 1, 3) := by decide +kernel
theorem dX6_keep_67 : decode cX6_keep 67 = .ok (.goto (-46), 3) := by decide +kernel
theorem dX6_keep_70 : decode cX6_keep 70 = .ok (.aload_n 0, 1) := by decide +kernel
theorem dX6_keep_71 : decode cX6_keep 71 = .ok (.getfield 44, 3) := by decide +kernel
theorem dX6_keep_74 : decode cX6_keep 74 = .ok (.bipush 34, 2) := by decide +kernel
theorem dX6_keep_76 : decode cX6_keep 76 = .ok (.iload_n 1, 1) := by decide +kernel
theorem dX6_keep_77 : decode cX6_keep 77 = .ok (.imul, 1) := by decide +kernel
theorem dX6_keep_78 : decode cX6_keep 78 = .ok (.bipush 32, 2) := by decide +kernel
theorem dX6_keep_80 : decode cX6_keep 80 = .ok (.iadd, 1) := by decide +kernel
theorem dX6_keep_81 : decode cX6_keep 81 = .ok (.aload_n 0, 1) := by decide +kernel
theorem dX6_keep_82 : decode cX6_keep 82 = .ok (.getfield 16, 3) := by decide +kernel
theorem dX6_keep_85 : decode cX6_keep 85 = .ok (.iconst 0, 1) := by decide +kernel
theorem dX6_keep_86 : decode cX6_keep 86 = .ok (.iaload, 1) := by decide +kernel
theorem dX6_keep_87 : decode cX6_keep 87 = .ok (.iastore, 1) := by decide +kernel
theorem dX6_keep_88 : decode cX6_keep 88 = .ok (.aload_n 0, 1) := by decide +kernel
theorem dX6_keep_89 : decode cX6_keep 89 = .ok (.getfield 44, 3) := by decide +kernel
theorem dX6_keep_92 : decode cX6_keep 92 = .ok (.bipush 34, 2) := by decide +kernel
theorem dX6_keep_94 : decode cX6_keep 94 = .ok (.iload_n 1, 1) := by decide +kernel
theorem dX6_keep_95 : decode cX6_keep 95 = .ok (.imul, 1) := by decide +kernel
theorem dX6_keep_96 : decode cX6_keep 96 = .ok (.bipush 33, 2) := by decide +kernel
theorem dX6_keep_98 : decode cX6_keep 98 = .ok (.iadd, 1) := by decide +kernel
theorem dX6_keep_99 : decode cX6_keep 99 = .ok (.aload_n 0, 1) := by decide +kernel
theorem dX6_keep_100 : decode cX6_keep 100 = .ok (.getfield 19, 3) := by decide +kernel
theorem dX6_keep_103 : decode cX6_keep 103 = .ok (.iconst 0, 1) := by decide +kernel
theorem dX6_keep_104 : decode cX6_keep 104 = .ok (.iaload, 1) := by decide +kernel
theorem dX6_keep_105 : decode cX6_keep 105 = .ok (.iastore, 1) := by decide +kernel
theorem dX6_keep_106 : decode cX6_keep 106 = .ok (.aload_n 0, 1) := by decide +kernel
theorem dX6_keep_107 : decode cX6_keep 107 = .ok (.iconst 0, 1) := by decide +kernel
theorem dX6_keep_108 : decode cX6_keep 108 = .ok (.invokevirtual 205, 3) := by decide +kernel
theorem dX6_keep_111 : decode cX6_keep 111 = .ok (.ireturn, 1) := by decide +kernel
theorem dX6_again_0 : decode cX6_again 0 = .ok (.iload_n 1, 1) := by decide +kernel
theorem dX6_again_1 : decode cX6_again 1 = .ok (.i2l, 1) := by decide +kernel
theorem dX6_again_2 : decode cX6_again 2 = .ok (.lconst 0, 1) := by decide +kernel
theorem dX6_again_3 : decode cX6_again 3 = .ok (.lconst 1, 1) := by decide +kernel
theorem dX6_again_4 : decode cX6_again 4 = .ok (.invokestatic 56, 3) := by decide +kernel
theorem dX6_again_7 : decode cX6_again 7 = .ok (.ifCond .ne 5, 3) := by decide +kernel
theorem dX6_again_10 : decode cX6_again 10 = .ok (.iconst (-1), 1) := by decide +kernel
theorem dX6_again_11 : decode cX6_again 11 = .ok (.ireturn, 1) := by decide +kernel
theorem dX6_again_12 : decode cX6_again 12 = .ok (.aload_n 0, 1) := by decide +kernel
theorem dX6_again_13 : decode cX6_again 13 = .ok (.getfield 40, 3) := by decide +kernel
theorem dX6_again_16 : decode cX6_again 16 = .ok (.iload_n 1, 1) := by decide +kernel
theorem dX6_again_17 : decode cX6_again 17 = .ok (.baload, 1) := by decide +kernel
theorem dX6_again_18 : decode cX6_again 18 = .ok (.ifCond .ne 6, 3) := by decide +kernel
theorem dX6_again_21 : decode cX6_again 21 = .ok (.bipush (-3), 2) := by decide +kernel
theorem dX6_again_23 : decode cX6_again 23 = .ok (.ireturn, 1) := by decide +kernel
theorem dX6_again_24 : decode cX6_again 24 = .ok (.iconst 0, 1) := by decide +kernel
theorem dX6_again_25 : decode cX6_again 25 = .ok (.istore_n 2, 1) := by decide +kernel
theorem dX6_again_26 : decode cX6_again 26 = .ok (.iload_n 2, 1) := by decide +kernel
theorem dX6_again_27 : decode cX6_again 27 = .ok (.bipush 16, 2) := by decide +kernel
theorem dX6_again_29 : decode cX6_again 29 = .ok (.if_icmp .ge 46, 3) := by decide +kernel
theorem dX6_again_32 : decode cX6_again 32 = .ok (.aload_n 0, 1) := by decide +kernel
theorem dX6_again_33 : decode cX6_again 33 = .ok (.getfield 7, 3) := by decide +kernel
theorem dX6_again_36 : decode cX6_again 36 = .ok (.iload_n 2, 1) := by decide +kernel
theorem dX6_again_37 : decode cX6_again 37 = .ok (.aload_n 0, 1) := by decide +kernel
theorem dX6_again_38 : decode cX6_again 38 = .ok (.getfield 44, 3) := by decide +kernel
theorem dX6_again_41 : decode cX6_again 41 = .ok (.bipush 34, 2) := by decide +kernel
theorem dX6_again_43 : decode cX6_again 43 = .ok (.iload_n 1, 1) := by decide +kernel
theorem dX6_again_44 : decode cX6_again 44 = .ok (.imul, 1) := by decide +kernel
theorem dX6_again_45 : decode cX6_again 45 = .ok (.iload_n 2, 1) := by decide +kernel
theorem dX6_again_46 : decode cX6_again 46 = .ok (.iadd, 1) := by decide +kernel
theorem dX6_again_47 : decode cX6_again 47 = .ok (.iaload, 1) := by decide +kernel
theorem dX6_again_48 : decode cX6_again 48 = .ok (.iastore, 1) := by decide +kernel
theorem dX6_again_49 : decode cX6_again 49 = .ok (.aload_n 0, 1) := by decide +kernel
theorem dX6_again_50 : decode cX6_again 50 = .ok (.getfield 13, 3) := by decide +kernel
theorem dX6_again_53 : decode cX6_again 53 = .ok (.iload_n 2, 1) := by decide +kernel
theorem dX6_again_54 : decode cX6_again 54 = .ok (.aload_n 0, 1) := by decide +kernel
theorem dX6_again_55 : decode cX6_again 55 = .ok (.getfield 44, 3) := by decide +kernel
theorem dX6_again_58 : decode cX6_again 58 = .ok (.bipush 34, 2) := by decide +kernel
theorem dX6_again_60 : decode cX6_again 60 = .ok (.iload_n 1, 1) := by decide +kernel
theorem dX6_again_61 : decode cX6_again 61 = .ok (.imul, 1) := by decide +kernel
theorem dX6_again_62 : decode cX6_again 62 = .ok (.bipush 16, 2) := by decide +kernel
theorem dX6_again_64 : decode cX6_again 64 = .ok (.iadd, 1) := by decide +kernel
theorem dX6_again_65 : decode cX6_again 65 = .ok (.iload_n 2, 1) := by decide +kernel
theorem dX6_again_66 : decode cX6_again 66 = .ok (.iadd, 1) := by decide +kernel
theorem dX6_again_67 : decode cX6_again 67 = .ok (.iaload, 1) := by decide +kernel
theorem dX6_again_68 : decode cX6_again 68 = .ok (.iastore, 1) := by decide +kernel
theorem dX6_again_69 : decode cX6_again 69 = .ok (.iinc 2 1, 3) := by decide +kernel
theorem dX6_again_72 : decode cX6_again 72 = .ok (.goto (-46), 3) := by decide +kernel
theorem dX6_again_75 : decode cX6_again 75 = .ok (.aload_n 0, 1) := by decide +kernel
theorem dX6_again_76 : decode cX6_again 76 = .ok (.getfield 16, 3) := by decide +kernel
theorem dX6_again_79 : decode cX6_again 79 = .ok (.iconst 0, 1) := by decide +kernel
theorem dX6_again_80 : decode cX6_again 80 = .ok (.aload_n 0, 1) := by decide +kernel
theorem dX6_again_81 : decode cX6_again 81 = .ok (.getfield 44, 3) := by decide +kernel
theorem dX6_again_84 : decode cX6_again 84 = .ok (.bipush 34, 2) := by decide +kernel
theorem dX6_again_86 : decode cX6_again 86 = .ok (.iload_n 1, 1) := by decide +kernel
theorem dX6_again_87 : decode cX6_again 87 = .ok (.imul, 1) := by decide +kernel
theorem dX6_again_88 : decode cX6_again 88 = .ok (.bipush 32, 2) := by decide +kernel
theorem dX6_again_90 : decode cX6_again 90 = .ok (.iadd, 1) := by decide +kernel
theorem dX6_again_91 : decode cX6_again 91 = .ok (.iaload, 1) := by decide +kernel
theorem dX6_again_92 : decode cX6_again 92 = .ok (.iastore, 1) := by decide +kernel
theorem dX6_again_93 : decode cX6_again 93 = .ok (.aload_n 0, 1) := by decide +kernel
theorem dX6_again_94 : decode cX6_again 94 = .ok (.getfield 19, 3) := by decide +kernel
theorem dX6_again_97 : decode cX6_again 97 = .ok (.iconst 0, 1) := by decide +kernel
theorem dX6_again_98 : decode cX6_again 98 = .ok (.aload_n 0, 1) := by decide +kernel
theorem dX6_again_99 : decode cX6_again 99 = .ok (.getfield 44, 3) := by decide +kernel
theorem dX6_again_102 : decode cX6_again 102 = .ok (.bipush 34, 2) := by decide +kernel
theorem dX6_again_104 : decode cX6_again 104 = .ok (.iload_n 1, 1) := by decide +kernel
theorem dX6_again_105 : decode cX6_again 105 = .ok (.imul, 1) := by decide +kernel
theorem dX6_again_106 : decode cX6_again 106 = .ok (.bipush 33, 2) := by decide +kernel
theorem dX6_again_108 : decode cX6_again 108 = .ok (.iadd, 1) := by decide +kernel
theorem dX6_again_109 : decode cX6_again 109 = .ok (.iaload, 1) := by decide +kernel
theorem dX6_again_110 : decode cX6_again 110 = .ok (.iastore, 1) := by decide +kernel
theorem dX6_again_111 : decode cX6_again 111 = .ok (.aload_n 0, 1) := by decide +kernel
theorem dX6_again_112 : decode cX6_again 112 = .ok (.iconst 0, 1) := by decide +kernel
theorem dX6_again_113 : decode cX6_again 113 = .ok (.putfield 91, 3) := by decide +kernel
theorem dX6_again_116 : decode cX6_again 116 = .ok (.aload_n 0, 1) := by decide +kernel
theorem dX6_again_117 : decode cX6_again 117 = .ok (.iconst 0, 1) := by decide +kernel
theorem dX6_again_118 : decode cX6_again 118 = .ok (.invokevirtual 205, 3) := by decide +kernel
theorem dX6_again_121 : decode cX6_again 121 = .ok (.ireturn, 1) := by decide +kernel
theorem dX6_setOf_0 : decode cX6_setOf 0 = .ok (.iconst 0, 1) := by decide +kernel
theorem dX6_setOf_1 : decode cX6_setOf 1 = .ok (.istore_n 2, 1) := by decide +kernel
theorem dX6_setOf_2 : decode cX6_setOf 2 = .ok (.iconst 0, 1) := by decide +kernel
theorem dX6_setOf_3 : decode cX6_setOf 3 = .ok (.istore_n 3, 1) := by decide +kernel
theorem dX6_setOf_4 : decode cX6_setOf 4 = .ok (.iload_n 3, 1) := by decide +kernel
theorem dX6_setOf_5 : decode cX6_setOf 5 = .ok (.aload_n 0, 1) := by decide +kernel
theorem dX6_setOf_6 : decode cX6_setOf 6 = .ok (.getfield 47, 3) := by decide +kernel
theorem dX6_setOf_9 : decode cX6_setOf 9 = .ok (.aload_n 0, 1) := by decide +kernel
theorem dX6_setOf_10 : decode cX6_setOf 10 = .ok (.getfield 51, 3) := by decide +kernel
theorem dX6_setOf_13 : decode cX6_setOf 13 = .ok (.imul, 1) := by decide +kernel
theorem dX6_setOf_14 : decode cX6_setOf 14 = .ok (.if_icmp .ge 32, 3) := by decide +kernel
theorem dX6_setOf_17 : decode cX6_setOf 17 = .ok (.iload_n 2, 1) := by decide +kernel
theorem dX6_setOf_18 : decode cX6_setOf 18 = .ok (.aload_n 0, 1) := by decide +kernel
theorem dX6_setOf_19 : decode cX6_setOf 19 = .ok (.getfield 7, 3) := by decide +kernel
theorem dX6_setOf_22 : decode cX6_setOf 22 = .ok (.iload_n 3, 1) := by decide +kernel
theorem dX6_setOf_23 : decode cX6_setOf 23 = .ok (.iaload, 1) := by decide +kernel
theorem dX6_setOf_24 : decode cX6_setOf 24 = .ok (.invokestatic 65, 3) := by decide +kernel
theorem dX6_setOf_27 : decode cX6_setOf 27 = .ok (.iload_n 1, 1) := by decide +kernel
theorem dX6_setOf_28 : decode cX6_setOf 28 = .ok (.if_icmp .ne 9, 3) := by decide +kernel
theorem dX6_setOf_31 : decode cX6_setOf 31 = .ok (.iconst 1, 1) := by decide +kernel
theorem dX6_setOf_32 : decode cX6_setOf 32 = .ok (.iload_n 3, 1) := by decide +kernel
theorem dX6_setOf_33 : decode cX6_setOf 33 = .ok (.ishl, 1) := by decide +kernel
theorem dX6_setOf_34 : decode cX6_setOf 34 = .ok (.goto 4, 3) := by decide +kernel
theorem dX6_setOf_37 : decode cX6_setOf 37 = .ok (.iconst 0, 1) := by decide +kernel
theorem dX6_setOf_38 : decode cX6_setOf 38 = .ok (.ior, 1) := by decide +kernel
theorem dX6_setOf_39 : decode cX6_setOf 39 = .ok (.istore_n 2, 1) := by decide +kernel
theorem dX6_setOf_40 : decode cX6_setOf 40 = .ok (.iinc 3 1, 3) := by decide +kernel
theorem dX6_setOf_43 : decode cX6_setOf 43 = .ok (.goto (-39), 3) := by decide +kernel
theorem dX6_setOf_46 : decode cX6_setOf 46 = .ok (.iload_n 2, 1) := by decide +kernel
theorem dX6_setOf_47 : decode cX6_setOf 47 = .ok (.ireturn, 1) := by decide +kernel
theorem dX6_count_0 : decode cX6_count 0 = .ok (.iconst 0, 1) := by decide +kernel
theorem dX6_count_1 : decode cX6_count 1 = .ok (.istore_n 2, 1) := by decide +kernel
theorem dX6_count_2 : decode cX6_count 2 = .ok (.iconst 0, 1) := by decide +kernel
theorem dX6_count_3 : decode cX6_count 3 = .ok (.istore_n 3, 1) := by decide +kernel
theorem dX6_count_4 : decode cX6_count 4 = .ok (.iload_n 3, 1) := by decide +kernel
theorem dX6_count_5 : decode cX6_count 5 = .ok (.aload_n 0, 1) := by decide +kernel
theorem dX6_count_6 : decode cX6_count 6 = .ok (.getfield 47, 3) := by decide +kernel
theorem dX6_count_9 : decode cX6_count 9 = .ok (.aload_n 0, 1) := by decide +kernel
theorem dX6_count_10 : decode cX6_count 10 = .ok (.getfield 51, 3) := by decide +kernel
theorem dX6_count_13 : decode cX6_count 13 = .ok (.imul, 1) := by decide +kernel
theorem dX6_count_14 : decode cX6_count 14 = .ok (.if_icmp .ge 30, 3) := by decide +kernel
theorem dX6_count_17 : decode cX6_count 17 = .ok (.iload_n 2, 1) := by decide +kernel
theorem dX6_count_18 : decode cX6_count 18 = .ok (.aload_n 0, 1) := by decide +kernel
theorem dX6_count_19 : decode cX6_count 19 = .ok (.getfield 7, 3) := by decide +kernel
theorem dX6_count_22 : decode cX6_count 22 = .ok (.iload_n 3, 1) := by decide +kernel
theorem dX6_count_23 : decode cX6_count 23 = .ok (.iaload, 1) := by decide +kernel
theorem dX6_count_24 : decode cX6_count 24 = .ok (.bipush 35, 2) := by decide +kernel
theorem dX6_count_26 : decode cX6_count 26 = .ok (.if_icmp .ne 9, 3) := by decide +kernel
theorem dX6_count_29 : decode cX6_count 29 = .ok (.iconst 1, 1) := by decide +kernel
theorem dX6_count_30 : decode cX6_count 30 = .ok (.iload_n 3, 1) := by decide +kernel
theorem dX6_count_31 : decode cX6_count 31 = .ok (.ishl, 1) := by decide +kernel
theorem dX6_count_32 : decode cX6_count 32 = .ok (.goto 4, 3) := by decide +kernel
theorem dX6_count_35 : decode cX6_count 35 = .ok (.iconst 0, 1) := by decide +kernel
theorem dX6_count_36 : decode cX6_count 36 = .ok (.ior, 1) := by decide +kernel
theorem dX6_count_37 : decode cX6_count 37 = .ok (.istore_n 2, 1) := by decide +kernel
theorem dX6_count_38 : decode cX6_count 38 = .ok (.iinc 3 1, 3) := by decide +kernel
theorem dX6_count_41 : decode cX6_count 41 = .ok (.goto (-37), 3) := by decide +kernel
theorem dX6_count_44 : decode cX6_count 44 = .ok (.iload_n 1, 1) := by decide +kernel
theorem dX6_count_45 : decode cX6_count 45 = .ok (.tableswitch 108 0 9 #[55, 60, 65, 70, 75, 82, 88, 94, 96, 101], 55) := by decide +kernel
theorem dX6_count_100 : decode cX6_count 100 = .ok (.aload_n 0, 1) := by decide +kernel
theorem dX6_count_101 : decode cX6_count 101 = .ok (.getfield 60, 3) := by decide +kernel
theorem dX6_count_104 : decode cX6_count 104 = .ok (.ireturn, 1) := by decide +kernel
theorem dX6_count_105 : decode cX6_count 105 = .ok (.aload_n 0, 1) := by decide +kernel
theorem dX6_count_106 : decode cX6_count 106 = .ok (.getfield 47, 3) := by decide +kernel
theorem dX6_count_109 : decode cX6_count 109 = .ok (.ireturn, 1) := by decide +kernel
theorem dX6_count_110 : decode cX6_count 110 = .ok (.aload_n 0, 1) := by decide +kernel
theorem dX6_count_111 : decode cX6_count 111 = .ok (.getfield 51, 3) := by decide +kernel
theorem dX6_count_114 : decode cX6_count 114 = .ok (.ireturn, 1) := by decide +kernel
theorem dX6_count_115 : decode cX6_count 115 = .ok (.aload_n 0, 1) := by decide +kernel
theorem dX6_count_116 : decode cX6_count 116 = .ok (.getfield 88, 3) := by decide +kernel
theorem dX6_count_119 : decode cX6_count 119 = .ok (.ireturn, 1) := by decide +kernel
theorem dX6_count_120 : decode cX6_count 120 = .ok (.aload_n 0, 1) := by decide +kernel
theorem dX6_count_121 : decode cX6_count 121 = .ok (.getfield 16, 3) := by decide +kernel
theorem dX6_count_124 : decode cX6_count 124 = .ok (.iconst 0, 1) := by decide +kernel
theorem dX6_count_125 : decode cX6_count 125 = .ok (.iaload, 1) := by decide +kernel
theorem dX6_count_126 : decode cX6_count 126 = .ok (.ireturn, 1) := by decide +kernel
theorem dX6_count_127 : decode cX6_count 127 = .ok (.aload_n 0, 1) := by decide +kernel
theorem dX6_count_128 : decode cX6_count 128 = .ok (.iconst 0, 1) := by decide +kernel
theorem dX6_count_129 : decode cX6_count 129 = .ok (.invokevirtual 208, 3) := by decide +kernel
theorem dX6_count_132 : decode cX6_count 132 = .ok (.ireturn, 1) := by decide +kernel
theorem dX6_count_133 : decode cX6_count 133 = .ok (.aload_n 0, 1) := by decide +kernel
theorem dX6_count_134 : decode cX6_count 134 = .ok (.iconst 1, 1) := by decide +kernel
theorem dX6_count_135 : decode cX6_count 135 = .ok (.invokevirtual 208, 3) := by decide +kernel
theorem dX6_count_138 : decode cX6_count 138 = .ok (.ireturn, 1) := by decide +kernel
theorem dX6_count_139 : decode cX6_count 139 = .ok (.iload_n 2, 1) := by decide +kernel
theorem dX6_count_140 : decode cX6_count 140 = .ok (.ireturn, 1) := by decide +kernel
theorem dX6_count_141 : decode cX6_count 141 = .ok (.aload_n 0, 1) := by decide +kernel
theorem dX6_count_142 : decode cX6_count 142 = .ok (.getfield 91, 3) := by decide +kernel
theorem dX6_count_145 : decode cX6_count 145 = .ok (.ireturn, 1) := by decide +kernel
theorem dX6_count_146 : decode cX6_count 146 = .ok (.aload_n 0, 1) := by decide +kernel
theorem dX6_count_147 : decode cX6_count 147 = .ok (.getfield 19, 3) := by decide +kernel
theorem dX6_count_150 : decode cX6_count 150 = .ok (.iconst 0, 1) := by decide +kernel
theorem dX6_count_151 : decode cX6_count 151 = .ok (.iaload, 1) := by decide +kernel
theorem dX6_count_152 : decode cX6_count 152 = .ok (.ireturn, 1) := by decide +kernel
theorem dX6_count_153 : decode cX6_count 153 = .ok (.bipush (-2), 2) := by decide +kernel
theorem dX6_count_155 : decode cX6_count 155 = .ok (.ireturn, 1) := by decide +kernel
