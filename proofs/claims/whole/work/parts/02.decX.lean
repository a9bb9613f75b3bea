theorem dX0_init_0 : decode cX0_init 0 = .ok (.aload_n 0, 1) := by decide +kernel
theorem dX0_init_1 : decode cX0_init 1 = .ok (.invokespecial 3, 3) := by decide +kernel
theorem dX0_init_4 : decode cX0_init 4 = .ok (.aload_n 0, 1) := by decide +kernel
theorem dX0_init_5 : decode cX0_init 5 = .ok (.sipush 128, 3) := by decide +kernel
theorem dX0_init_8 : decode cX0_init 8 = .ok (.newarray .int, 2) := by decide +kernel
theorem dX0_init_10 : decode cX0_init 10 = .ok (.putfield 11, 3) := by decide +kernel
theorem dX0_init_13 : decode cX0_init 13 = .ok (.aload_n 0, 1) := by decide +kernel
theorem dX0_init_14 : decode cX0_init 14 = .ok (.bipush 16, 2) := by decide +kernel
theorem dX0_init_16 : decode cX0_init 16 = .ok (.newarray .int, 2) := by decide +kernel
theorem dX0_init_18 : decode cX0_init 18 = .ok (.putfield 15, 3) := by decide +kernel
theorem dX0_init_21 : decode cX0_init 21 = .ok (.aload_n 0, 1) := by decide +kernel
theorem dX0_init_22 : decode cX0_init 22 = .ok (.bipush 16, 2) := by decide +kernel
theorem dX0_init_24 : decode cX0_init 24 = .ok (.newarray .int, 2) := by decide +kernel
theorem dX0_init_26 : decode cX0_init 26 = .ok (.putfield 18, 3) := by decide +kernel
theorem dX0_init_29 : decode cX0_init 29 = .ok (.aload_n 0, 1) := by decide +kernel
theorem dX0_init_30 : decode cX0_init 30 = .ok (.bipush 32, 2) := by decide +kernel
theorem dX0_init_32 : decode cX0_init 32 = .ok (.newarray .int, 2) := by decide +kernel
theorem dX0_init_34 : decode cX0_init 34 = .ok (.putfield 21, 3) := by decide +kernel
theorem dX0_init_37 : decode cX0_init 37 = .ok (.aload_n 0, 1) := by decide +kernel
theorem dX0_init_38 : decode cX0_init 38 = .ok (.bipush 32, 2) := by decide +kernel
theorem dX0_init_40 : decode cX0_init 40 = .ok (.newarray .int, 2) := by decide +kernel
theorem dX0_init_42 : decode cX0_init 42 = .ok (.putfield 24, 3) := by decide +kernel
theorem dX0_init_45 : decode cX0_init 45 = .ok (.aload_n 0, 1) := by decide +kernel
theorem dX0_init_46 : decode cX0_init 46 = .ok (.iconst 1, 1) := by decide +kernel
theorem dX0_init_47 : decode cX0_init 47 = .ok (.putfield 27, 3) := by decide +kernel
theorem dX0_init_50 : decode cX0_init 50 = .ok (.aload_n 0, 1) := by decide +kernel
theorem dX0_init_51 : decode cX0_init 51 = .ok (.iconst 1, 1) := by decide +kernel
theorem dX0_init_52 : decode cX0_init 52 = .ok (.putfield 31, 3) := by decide +kernel
theorem dX0_init_55 : decode cX0_init 55 = .ok (.aload_n 0, 1) := by decide +kernel
theorem dX0_init_56 : decode cX0_init 56 = .ok (.iconst 0, 1) := by decide +kernel
theorem dX0_init_57 : decode cX0_init 57 = .ok (.putfield 34, 3) := by decide +kernel
theorem dX0_init_60 : decode cX0_init 60 = .ok (.aload_n 0, 1) := by decide +kernel
theorem dX0_init_61 : decode cX0_init 61 = .ok (.iconst 1, 1) := by decide +kernel
theorem dX0_init_62 : decode cX0_init 62 = .ok (.putfield 37, 3) := by decide +kernel
theorem dX0_init_65 : decode cX0_init 65 = .ok (.return_, 1) := by decide +kernel
theorem dX0_shape_0 : decode cX0_shape 0 = .ok (.aload_n 0, 1) := by decide +kernel
theorem dX0_shape_1 : decode cX0_shape 1 = .ok (.iload_n 1, 1) := by decide +kernel
theorem dX0_shape_2 : decode cX0_shape 2 = .ok (.putfield 27, 3) := by decide +kernel
theorem dX0_shape_5 : decode cX0_shape 5 = .ok (.aload_n 0, 1) := by decide +kernel
theorem dX0_shape_6 : decode cX0_shape 6 = .ok (.iload_n 2, 1) := by decide +kernel
theorem dX0_shape_7 : decode cX0_shape 7 = .ok (.putfield 31, 3) := by decide +kernel
theorem dX0_shape_10 : decode cX0_shape 10 = .ok (.aload_n 0, 1) := by decide +kernel
theorem dX0_shape_11 : decode cX0_shape 11 = .ok (.iload_n 3, 1) := by decide +kernel
theorem dX0_shape_12 : decode cX0_shape 12 = .ok (.putfield 34, 3) := by decide +kernel
theorem dX0_shape_15 : decode cX0_shape 15 = .ok (.aload_n 0, 1) := by decide +kernel
theorem dX0_shape_16 : decode cX0_shape 16 = .ok (.iload_n 1, 1) := by decide +kernel
theorem dX0_shape_17 : decode cX0_shape 17 = .ok (.iload_n 2, 1) := by decide +kernel
theorem dX0_shape_18 : decode cX0_shape 18 = .ok (.imul, 1) := by decide +kernel
theorem dX0_shape_19 : decode cX0_shape 19 = .ok (.putfield 37, 3) := by decide +kernel
theorem dX0_shape_22 : decode cX0_shape 22 = .ok (.iconst 0, 1) := by decide +kernel
theorem dX0_shape_23 : decode cX0_shape 23 = .ok (.istore 4, 2) := by decide +kernel
theorem dX0_shape_25 : decode cX0_shape 25 = .ok (.iload 4, 2) := by decide +kernel
theorem dX0_shape_27 : decode cX0_shape 27 = .ok (.iload_n 2, 1) := by decide +kernel
theorem dX0_shape_28 : decode cX0_shape 28 = .ok (.if_icmp .ge 78, 3) := by decide +kernel
theorem dX0_shape_31 : decode cX0_shape 31 = .ok (.iconst 0, 1) := by decide +kernel
theorem dX0_shape_32 : decode cX0_shape 32 = .ok (.istore 5, 2) := by decide +kernel
theorem dX0_shape_34 : decode cX0_shape 34 = .ok (.iload 5, 2) := by decide +kernel
theorem dX0_shape_36 : decode cX0_shape 36 = .ok (.iload_n 1, 1) := by decide +kernel
theorem dX0_shape_37 : decode cX0_shape 37 = .ok (.if_icmp .ge 63, 3) := by decide +kernel
theorem dX0_shape_40 : decode cX0_shape 40 = .ok (.aload_n 0, 1) := by decide +kernel
theorem dX0_shape_41 : decode cX0_shape 41 = .ok (.iload 4, 2) := by decide +kernel
theorem dX0_shape_43 : decode cX0_shape 43 = .ok (.iload_n 1, 1) := by decide +kernel
theorem dX0_shape_44 : decode cX0_shape 44 = .ok (.imul, 1) := by decide +kernel
theorem dX0_shape_45 : decode cX0_shape 45 = .ok (.iload 5, 2) := by decide +kernel
theorem dX0_shape_47 : decode cX0_shape 47 = .ok (.iadd, 1) := by decide +kernel
theorem dX0_shape_48 : decode cX0_shape 48 = .ok (.iload 5, 2) := by decide +kernel
theorem dX0_shape_50 : decode cX0_shape 50 = .ok (.iload 4, 2) := by decide +kernel
theorem dX0_shape_52 : decode cX0_shape 52 = .ok (.invokevirtual 40, 3) := by decide +kernel
theorem dX0_shape_55 : decode cX0_shape 55 = .ok (.aload_n 0, 1) := by decide +kernel
theorem dX0_shape_56 : decode cX0_shape 56 = .ok (.iconst 0, 1) := by decide +kernel
theorem dX0_shape_57 : decode cX0_shape 57 = .ok (.iload 4, 2) := by decide +kernel
theorem dX0_shape_59 : decode cX0_shape 59 = .ok (.iload_n 1, 1) := by decide +kernel
theorem dX0_shape_60 : decode cX0_shape 60 = .ok (.imul, 1) := by decide +kernel
theorem dX0_shape_61 : decode cX0_shape 61 = .ok (.iadd, 1) := by decide +kernel
theorem dX0_shape_62 : decode cX0_shape 62 = .ok (.iload 5, 2) := by decide +kernel
theorem dX0_shape_64 : decode cX0_shape 64 = .ok (.iadd, 1) := by decide +kernel
theorem dX0_shape_65 : decode cX0_shape 65 = .ok (.iload 5, 2) := by decide +kernel
theorem dX0_shape_67 : decode cX0_shape 67 = .ok (.iload 4, 2) := by decide +kernel
theorem dX0_shape_69 : decode cX0_shape 69 = .ok (.iconst 1, 1) := by decide +kernel
theorem dX0_shape_70 : decode cX0_shape 70 = .ok (.isub, 1) := by decide +kernel
theorem dX0_shape_71 : decode cX0_shape 71 = .ok (.invokevirtual 44, 3) := by decide +kernel
theorem dX0_shape_74 : decode cX0_shape 74 = .ok (.aload_n 0, 1) := by decide +kernel
theorem dX0_shape_75 : decode cX0_shape 75 = .ok (.bipush 16, 2) := by decide +kernel
theorem dX0_shape_77 : decode cX0_shape 77 = .ok (.iload 4, 2) := by decide +kernel
theorem dX0_shape_79 : decode cX0_shape 79 = .ok (.iload_n 1, 1) := by decide +kernel
theorem dX0_shape_80 : decode cX0_shape 80 = .ok (.imul, 1) := by decide +kernel
theorem dX0_shape_81 : decode cX0_shape 81 = .ok (.iadd, 1) := by decide +kernel
theorem dX0_shape_82 : decode cX0_shape 82 = .ok (.iload 5, 2) := by decide +kernel
theorem dX0_shape_84 : decode cX0_shape 84 = .ok (.iadd, 1) := by decide +kernel
theorem dX0_shape_85 : decode cX0_shape 85 = .ok (.iload 5, 2) := by decide +kernel
theorem dX0_shape_87 : decode cX0_shape 87 = .ok (.iload 4, 2) := by decide +kernel
theorem dX0_shape_89 : decode cX0_shape 89 = .ok (.iconst 1, 1) := by decide +kernel
theorem dX0_shape_90 : decode cX0_shape 90 = .ok (.iadd, 1) := by decide +kernel
theorem dX0_shape_91 : decode cX0_shape 91 = .ok (.invokevirtual 44, 3) := by decide +kernel
theorem dX0_shape_94 : decode cX0_shape 94 = .ok (.iinc 5 1, 3) := by decide +kernel
theorem dX0_shape_97 : decode cX0_shape 97 = .ok (.goto (-63), 3) := by decide +kernel
theorem dX0_shape_100 : decode cX0_shape 100 = .ok (.iinc 4 1, 3) := by decide +kernel
theorem dX0_shape_103 : decode cX0_shape 103 = .ok (.goto (-78), 3) := by decide +kernel
theorem dX0_shape_106 : decode cX0_shape 106 = .ok (.return_, 1) := by decide +kernel
theorem dX0_all_0 : decode cX0_all 0 = .ok (.iconst 1, 1) := by decide +kernel
theorem dX0_all_1 : decode cX0_all 1 = .ok (.aload_n 0, 1) := by decide +kernel
theorem dX0_all_2 : decode cX0_all 2 = .ok (.getfield 37, 3) := by decide +kernel
theorem dX0_all_5 : decode cX0_all 5 = .ok (.ishl, 1) := by decide +kernel
theorem dX0_all_6 : decode cX0_all 6 = .ok (.iconst 1, 1) := by decide +kernel
theorem dX0_all_7 : decode cX0_all 7 = .ok (.isub, 1) := by decide +kernel
theorem dX0_all_8 : decode cX0_all 8 = .ok (.ireturn, 1) := by decide +kernel
theorem dX0_aimed_0 : decode cX0_aimed 0 = .ok (.iload_n 1, 1) := by decide +kernel
theorem dX0_aimed_1 : decode cX0_aimed 1 = .ok (.invokestatic 47, 3) := by decide +kernel
theorem dX0_aimed_4 : decode cX0_aimed 4 = .ok (.tableswitch 87 0 4 #[36, 45, 53, 61, 70], 36) := by decide +kernel
theorem dX0_aimed_40 : decode cX0_aimed 40 = .ok (.aload_n 0, 1) := by decide +kernel
theorem dX0_aimed_41 : decode cX0_aimed 41 = .ok (.getfield 15, 3) := by decide +kernel
theorem dX0_aimed_44 : decode cX0_aimed 44 = .ok (.iload_n 2, 1) := by decide +kernel
theorem dX0_aimed_45 : decode cX0_aimed 45 = .ok (.invokestatic 51, 3) := by decide +kernel
theorem dX0_aimed_48 : decode cX0_aimed 48 = .ok (.ireturn, 1) := by decide +kernel
theorem dX0_aimed_49 : decode cX0_aimed 49 = .ok (.aload_n 0, 1) := by decide +kernel
theorem dX0_aimed_50 : decode cX0_aimed 50 = .ok (.iload_n 2, 1) := by decide +kernel
theorem dX0_aimed_51 : decode cX0_aimed 51 = .ok (.iconst 0, 1) := by decide +kernel
theorem dX0_aimed_52 : decode cX0_aimed 52 = .ok (.iload_n 3, 1) := by decide +kernel
theorem dX0_aimed_53 : decode cX0_aimed 53 = .ok (.invokevirtual 55, 3) := by decide +kernel
theorem dX0_aimed_56 : decode cX0_aimed 56 = .ok (.ireturn, 1) := by decide +kernel
theorem dX0_aimed_57 : decode cX0_aimed 57 = .ok (.aload_n 0, 1) := by decide +kernel
theorem dX0_aimed_58 : decode cX0_aimed 58 = .ok (.iload_n 2, 1) := by decide +kernel
theorem dX0_aimed_59 : decode cX0_aimed 59 = .ok (.iconst 1, 1) := by decide +kernel
theorem dX0_aimed_60 : decode cX0_aimed 60 = .ok (.iload_n 3, 1) := by decide +kernel
theorem dX0_aimed_61 : decode cX0_aimed 61 = .ok (.invokevirtual 55, 3) := by decide +kernel
theorem dX0_aimed_64 : decode cX0_aimed 64 = .ok (.ireturn, 1) := by decide +kernel
theorem dX0_aimed_65 : decode cX0_aimed 65 = .ok (.aload_n 0, 1) := by decide +kernel
theorem dX0_aimed_66 : decode cX0_aimed 66 = .ok (.getfield 18, 3) := by decide +kernel
theorem dX0_aimed_69 : decode cX0_aimed 69 = .ok (.iload_n 2, 1) := by decide +kernel
theorem dX0_aimed_70 : decode cX0_aimed 70 = .ok (.invokestatic 51, 3) := by decide +kernel
theorem dX0_aimed_73 : decode cX0_aimed 73 = .ok (.ireturn, 1) := by decide +kernel
theorem dX0_aimed_74 : decode cX0_aimed 74 = .ok (.aload_n 0, 1) := by decide +kernel
theorem dX0_aimed_75 : decode cX0_aimed 75 = .ok (.getfield 21, 3) := by decide +kernel
theorem dX0_aimed_78 : decode cX0_aimed 78 = .ok (.iload_n 1, 1) := by decide +kernel
theorem dX0_aimed_79 : decode cX0_aimed 79 = .ok (.invokestatic 59, 3) := by decide +kernel
theorem dX0_aimed_82 : decode cX0_aimed 82 = .ok (.bipush 16, 2) := by decide +kernel
theorem dX0_aimed_84 : decode cX0_aimed 84 = .ok (.imul, 1) := by decide +kernel
theorem dX0_aimed_85 : decode cX0_aimed 85 = .ok (.iload_n 2, 1) := by decide +kernel
theorem dX0_aimed_86 : decode cX0_aimed 86 = .ok (.iadd, 1) := by decide +kernel
theorem dX0_aimed_87 : decode cX0_aimed 87 = .ok (.invokestatic 51, 3) := by decide +kernel
theorem dX0_aimed_90 : decode cX0_aimed 90 = .ok (.ireturn, 1) := by decide +kernel
theorem dX0_aimed_91 : decode cX0_aimed 91 = .ok (.iconst 0, 1) := by decide +kernel
theorem dX0_aimed_92 : decode cX0_aimed 92 = .ok (.ireturn, 1) := by decide +kernel
theorem dX0_going_0 : decode cX0_going 0 = .ok (.iload_n 1, 1) := by decide +kernel
theorem dX0_going_1 : decode cX0_going 1 = .ok (.invokestatic 47, 3) := by decide +kernel
theorem dX0_going_4 : decode cX0_going 4 = .ok (.iconst 4, 1) := by decide +kernel
theorem dX0_going_5 : decode cX0_going 5 = .ok (.if_icmp .ne 22, 3) := by decide +kernel
theorem dX0_going_8 : decode cX0_going 8 = .ok (.aload_n 0, 1) := by decide +kernel
theorem dX0_going_9 : decode cX0_going 9 = .ok (.getfield 24, 3) := by decide +kernel
theorem dX0_going_12 : decode cX0_going 12 = .ok (.iload_n 1, 1) := by decide +kernel
theorem dX0_going_13 : decode cX0_going 13 = .ok (.invokestatic 59, 3) := by decide +kernel
theorem dX0_going_16 : decode cX0_going 16 = .ok (.bipush 16, 2) := by decide +kernel
theorem dX0_going_18 : decode cX0_going 18 = .ok (.imul, 1) := by decide +kernel
theorem dX0_going_19 : decode cX0_going 19 = .ok (.iload_n 2, 1) := by decide +kernel
theorem dX0_going_20 : decode cX0_going 20 = .ok (.iadd, 1) := by decide +kernel
theorem dX0_going_21 : decode cX0_going 21 = .ok (.invokestatic 51, 3) := by decide +kernel
theorem dX0_going_24 : decode cX0_going 24 = .ok (.goto 4, 3) := by decide +kernel
theorem dX0_going_27 : decode cX0_going 27 = .ok (.iload_n 3, 1) := by decide +kernel
theorem dX0_going_28 : decode cX0_going 28 = .ok (.ireturn, 1) := by decide +kernel
theorem dX0_coming_0 : decode cX0_coming 0 = .ok (.iload_n 1, 1) := by decide +kernel
theorem dX0_coming_1 : decode cX0_coming 1 = .ok (.invokestatic 47, 3) := by decide +kernel
theorem dX0_coming_4 : decode cX0_coming 4 = .ok (.iconst (-1), 1) := by decide +kernel
theorem dX0_coming_5 : decode cX0_coming 5 = .ok (.if_icmp .ne 5, 3) := by decide +kernel
theorem dX0_coming_8 : decode cX0_coming 8 = .ok (.iconst 0, 1) := by decide +kernel
theorem dX0_coming_9 : decode cX0_coming 9 = .ok (.ireturn, 1) := by decide +kernel
theorem dX0_coming_10 : decode cX0_coming 10 = .ok (.iconst 1, 1) := by decide +kernel
theorem dX0_coming_11 : decode cX0_coming 11 = .ok (.iload_n 2, 1) := by decide +kernel
theorem dX0_coming_12 : decode cX0_coming 12 = .ok (.ishl, 1) := by decide +kernel
theorem dX0_coming_13 : decode cX0_coming 13 = .ok (.istore 4, 2) := by decide +kernel
theorem dX0_coming_15 : decode cX0_coming 15 = .ok (.iconst 0, 1) := by decide +kernel
theorem dX0_coming_16 : decode cX0_coming 16 = .ok (.istore 5, 2) := by decide +kernel
theorem dX0_coming_18 : decode cX0_coming 18 = .ok (.iconst 0, 1) := by decide +kernel
theorem dX0_coming_19 : decode cX0_coming 19 = .ok (.istore 6, 2) := by decide +kernel
theorem dX0_coming_21 : decode cX0_coming 21 = .ok (.iload 6, 2) := by decide +kernel
theorem dX0_coming_23 : decode cX0_coming 23 = .ok (.bipush 16, 2) := by decide +kernel
theorem dX0_coming_25 : decode cX0_coming 25 = .ok (.if_icmp .ge 61, 3) := by decide +kernel
theorem dX0_coming_28 : decode cX0_coming 28 = .ok (.iload 4, 2) := by decide +kernel
theorem dX0_coming_30 : decode cX0_coming 30 = .ok (.iload 5, 2) := by decide +kernel
theorem dX0_coming_32 : decode cX0_coming 32 = .ok (.if_icmp .eq 54, 3) := by decide +kernel
theorem dX0_coming_35 : decode cX0_coming 35 = .ok (.iload 4, 2) := by decide +kernel
theorem dX0_coming_37 : decode cX0_coming 37 = .ok (.iload 5, 2) := by decide +kernel
theorem dX0_coming_39 : decode cX0_coming 39 = .ok (.iconst (-1), 1) := by decide +kernel
theorem dX0_coming_40 : decode cX0_coming 40 = .ok (.ixor, 1) := by decide +kernel
theorem dX0_coming_41 : decode cX0_coming 41 = .ok (.iand, 1) := by decide +kernel
theorem dX0_coming_42 : decode cX0_coming 42 = .ok (.invokestatic 62, 3) := by decide +kernel
theorem dX0_coming_45 : decode cX0_coming 45 = .ok (.istore 7, 2) := by decide +kernel
theorem dX0_coming_47 : decode cX0_coming 47 = .ok (.iload 5, 2) := by decide +kernel
theorem dX0_coming_49 : decode cX0_coming 49 = .ok (.iconst 1, 1) := by decide +kernel
theorem dX0_coming_50 : decode cX0_coming 50 = .ok (.iload 7, 2) := by decide +kernel
theorem dX0_coming_52 : decode cX0_coming 52 = .ok (.ishl, 1) := by decide +kernel
theorem dX0_coming_53 : decode cX0_coming 53 = .ok (.ior, 1) := by decide +kernel
theorem dX0_coming_54 : decode cX0_coming 54 = .ok (.istore 5, 2) := by decide +kernel
theorem dX0_coming_56 : decode cX0_coming 56 = .ok (.iload 4, 2) := by decide +kernel
theorem dX0_coming_58 : decode cX0_coming 58 = .ok (.aload_n 0, 1) := by decide +kernel
theorem dX0_coming_59 : decode cX0_coming 59 = .ok (.iload_n 1, 1) := by decide +kernel
theorem dX0_coming_60 : decode cX0_coming 60 = .ok (.iload 7, 2) := by decide +kernel
theorem dX0_coming_62 : decode cX0_coming 62 = .ok (.aload_n 0, 1) := by decide +kernel
theorem dX0_coming_63 : decode cX0_coming 63 = .ok (.iload_n 1, 1) := by decide +kernel
theorem dX0_coming_64 : decode cX0_coming 64 = .ok (.iload 7, 2) := by decide +kernel
theorem dX0_coming_66 : decode cX0_coming 66 = .ok (.iload_n 3, 1) := by decide +kernel
theorem dX0_coming_67 : decode cX0_coming 67 = .ok (.invokevirtual 65, 3) := by decide +kernel
theorem dX0_coming_70 : decode cX0_coming 70 = .ok (.invokevirtual 68, 3) := by decide +kernel
theorem dX0_coming_73 : decode cX0_coming 73 = .ok (.iload_n 3, 1) := by decide +kernel
theorem dX0_coming_74 : decode cX0_coming 74 = .ok (.iconst (-1), 1) := by decide +kernel
theorem dX0_coming_75 : decode cX0_coming 75 = .ok (.ixor, 1) := by decide +kernel
theorem dX0_coming_76 : decode cX0_coming 76 = .ok (.iand, 1) := by decide +kernel
theorem dX0_coming_77 : decode cX0_coming 77 = .ok (.ior, 1) := by decide +kernel
theorem dX0_coming_78 : decode cX0_coming 78 = .ok (.istore 4, 2) := by decide +kernel
theorem dX0_coming_80 : decode cX0_coming 80 = .ok (.iinc 6 1, 3) := by decide +kernel
theorem dX0_coming_83 : decode cX0_coming 83 = .ok (.goto (-62), 3) := by decide +kernel
theorem dX0_coming_86 : decode cX0_coming 86 = .ok (.iload 4, 2) := by decide +kernel
theorem dX0_coming_88 : decode cX0_coming 88 = .ok (.ireturn, 1) := by decide +kernel
theorem dX0_threatened_0 : decode cX0_threatened 0 = .ok (.aload_n 0, 1) := by decide +kernel
theorem dX0_threatened_1 : decode cX0_threatened 1 = .ok (.iload_n 1, 1) := by decide +kernel
theorem dX0_threatened_2 : decode cX0_threatened 2 = .ok (.iload_n 2, 1) := by decide +kernel
theorem dX0_threatened_3 : decode cX0_threatened 3 = .ok (.iload_n 3, 1) := by decide +kernel
theorem dX0_threatened_4 : decode cX0_threatened 4 = .ok (.invokevirtual 71, 3) := by decide +kernel
theorem dX0_threatened_7 : decode cX0_threatened 7 = .ok (.istore 4, 2) := by decide +kernel
theorem dX0_threatened_9 : decode cX0_threatened 9 = .ok (.iconst 0, 1) := by decide +kernel
theorem dX0_threatened_10 : decode cX0_threatened 10 = .ok (.istore 5, 2) := by decide +kernel
theorem dX0_threatened_12 : decode cX0_threatened 12 = .ok (.iconst 0, 1) := by decide +kernel
theorem dX0_threatened_13 : decode cX0_threatened 13 = .ok (.istore 6, 2) := by decide +kernel
theorem dX0_threatened_15 : decode cX0_threatened 15 = .ok (.iload 6, 2) := by decide +kernel
theorem dX0_threatened_17 : decode cX0_threatened 17 = .ok (.aload_n 0, 1) := by decide +kernel
theorem dX0_threatened_18 : decode cX0_threatened 18 = .ok (.getfield 37, 3) := by decide +kernel
theorem dX0_threatened_21 : decode cX0_threatened 21 = .ok (.if_icmp .ge 32, 3) := by decide +kernel
theorem dX0_threatened_24 : decode cX0_threatened 24 = .ok (.iload 4, 2) := by decide +kernel
theorem dX0_threatened_26 : decode cX0_threatened 26 = .ok (.iload 6, 2) := by decide +kernel
theorem dX0_threatened_28 : decode cX0_threatened 28 = .ok (.invokestatic 74, 3) := by decide +kernel
theorem dX0_threatened_31 : decode cX0_threatened 31 = .ok (.ifCond .eq 16, 3) := by decide +kernel
theorem dX0_threatened_34 : decode cX0_threatened 34 = .ok (.iload 5, 2) := by decide +kernel
theorem dX0_threatened_36 : decode cX0_threatened 36 = .ok (.aload_n 0, 1) := by decide +kernel
theorem dX0_threatened_37 : decode cX0_threatened 37 = .ok (.iload_n 1, 1) := by decide +kernel
theorem dX0_threatened_38 : decode cX0_threatened 38 = .ok (.iload 6, 2) := by decide +kernel
theorem dX0_threatened_40 : decode cX0_threatened 40 = .ok (.iload_n 3, 1) := by decide +kernel
theorem dX0_threatened_41 : decode cX0_threatened 41 = .ok (.invokevirtual 65, 3) := by decide +kernel
theorem dX0_threatened_44 : decode cX0_threatened 44 = .ok (.ior, 1) := by decide +kernel
theorem dX0_threatened_45 : decode cX0_threatened 45 = .ok (.istore 5, 2) := by decide +kernel
theorem dX0_threatened_47 : decode cX0_threatened 47 = .ok (.iinc 6 1, 3) := by decide +kernel
theorem dX0_threatened_50 : decode cX0_threatened 50 = .ok (.goto (-35), 3) := by decide +kernel
theorem dX0_threatened_53 : decode cX0_threatened 53 = .ok (.iload 5, 2) := by decide +kernel
theorem dX0_threatened_55 : decode cX0_threatened 55 = .ok (.ireturn, 1) := by decide +kernel
theorem dX0_hanging_0 : decode cX0_hanging 0 = .ok (.iconst 1, 1) := by decide +kernel
theorem dX0_hanging_1 : decode cX0_hanging 1 = .ok (.iload_n 1, 1) := by decide +kernel
theorem dX0_hanging_2 : decode cX0_hanging 2 = .ok (.ishl, 1) := by decide +kernel
theorem dX0_hanging_3 : decode cX0_hanging 3 = .ok (.istore_n 3, 1) := by decide +kernel
theorem dX0_hanging_4 : decode cX0_hanging 4 = .ok (.iconst 0, 1) := by decide +kernel
theorem dX0_hanging_5 : decode cX0_hanging 5 = .ok (.istore 4, 2) := by decide +kernel
theorem dX0_hanging_7 : decode cX0_hanging 7 = .ok (.iconst 0, 1) := by decide +kernel
theorem dX0_hanging_8 : decode cX0_hanging 8 = .ok (.istore 5, 2) := by decide +kernel
theorem dX0_hanging_10 : decode cX0_hanging 10 = .ok (.iload 5, 2) := by decide +kernel
theorem dX0_hanging_12 : decode cX0_hanging 12 = .ok (.bipush 16, 2) := by decide +kernel
theorem dX0_hanging_14 : decode cX0_hanging 14 = .ok (.if_icmp .ge 49, 3) := by decide +kernel
theorem dX0_hanging_17 : decode cX0_hanging 17 = .ok (.iload_n 3, 1) := by decide +kernel
theorem dX0_hanging_18 : decode cX0_hanging 18 = .ok (.iload 4, 2) := by decide +kernel
theorem dX0_hanging_20 : decode cX0_hanging 20 = .ok (.if_icmp .eq 43, 3) := by decide +kernel
theorem dX0_hanging_23 : decode cX0_hanging 23 = .ok (.iload_n 3, 1) := by decide +kernel
theorem dX0_hanging_24 : decode cX0_hanging 24 = .ok (.iload 4, 2) := by decide +kernel
theorem dX0_hanging_26 : decode cX0_hanging 26 = .ok (.iconst (-1), 1) := by decide +kernel
theorem dX0_hanging_27 : decode cX0_hanging 27 = .ok (.ixor, 1) := by decide +kernel
theorem dX0_hanging_28 : decode cX0_hanging 28 = .ok (.iand, 1) := by decide +kernel
theorem dX0_hanging_29 : decode cX0_hanging 29 = .ok (.invokestatic 62, 3) := by decide +kernel
theorem dX0_hanging_32 : decode cX0_hanging 32 = .ok (.istore 6, 2) := by decide +kernel
theorem dX0_hanging_34 : decode cX0_hanging 34 = .ok (.iload 4, 2) := by decide +kernel
theorem dX0_hanging_36 : decode cX0_hanging 36 = .ok (.iconst 1, 1) := by decide +kernel
theorem dX0_hanging_37 : decode cX0_hanging 37 = .ok (.iload 6, 2) := by decide +kernel
theorem dX0_hanging_39 : decode cX0_hanging 39 = .ok (.ishl, 1) := by decide +kernel
theorem dX0_hanging_40 : decode cX0_hanging 40 = .ok (.ior, 1) := by decide +kernel
theorem dX0_hanging_41 : decode cX0_hanging 41 = .ok (.istore 4, 2) := by decide +kernel
theorem dX0_hanging_43 : decode cX0_hanging 43 = .ok (.iload_n 3, 1) := by decide +kernel
theorem dX0_hanging_44 : decode cX0_hanging 44 = .ok (.aload_n 0, 1) := by decide +kernel
theorem dX0_hanging_45 : decode cX0_hanging 45 = .ok (.getfield 15, 3) := by decide +kernel
theorem dX0_hanging_48 : decode cX0_hanging 48 = .ok (.iload 6, 2) := by decide +kernel
theorem dX0_hanging_50 : decode cX0_hanging 50 = .ok (.invokestatic 51, 3) := by decide +kernel
theorem dX0_hanging_53 : decode cX0_hanging 53 = .ok (.iload_n 2, 1) := by decide +kernel
theorem dX0_hanging_54 : decode cX0_hanging 54 = .ok (.iand, 1) := by decide +kernel
theorem dX0_hanging_55 : decode cX0_hanging 55 = .ok (.ior, 1) := by decide +kernel
theorem dX0_hanging_56 : decode cX0_hanging 56 = .ok (.istore_n 3, 1) := by decide +kernel
theorem dX0_hanging_57 : decode cX0_hanging 57 = .ok (.iinc 5 1, 3) := by decide +kernel
theorem dX0_hanging_60 : decode cX0_hanging 60 = .ok (.goto (-50), 3) := by decide +kernel
theorem dX0_hanging_63 : decode cX0_hanging 63 = .ok (.iload_n 3, 1) := by decide +kernel
theorem dX0_hanging_64 : decode cX0_hanging 64 = .ok (.ireturn, 1) := by decide +kernel
theorem dX0_surround_0 : decode cX0_surround 0 = .ok (.iconst 0, 1) := by decide +kernel
theorem dX0_surround_1 : decode cX0_surround 1 = .ok (.istore 4, 2) := by decide +kernel
theorem dX0_surround_3 : decode cX0_surround 3 = .ok (.iconst 0, 1) := by decide +kernel
theorem dX0_surround_4 : decode cX0_surround 4 = .ok (.istore 5, 2) := by decide +kernel
theorem dX0_surround_6 : decode cX0_surround 6 = .ok (.iconst 0, 1) := by decide +kernel
theorem dX0_surround_7 : decode cX0_surround 7 = .ok (.istore 6, 2) := by decide +kernel
theorem dX0_surround_9 : decode cX0_surround 9 = .ok (.iload 6, 2) := by decide +kernel
theorem dX0_surround_11 : decode cX0_surround 11 = .ok (.bipush 8, 2) := by decide +kernel
theorem dX0_surround_13 : decode cX0_surround 13 = .ok (.if_icmp .ge 93, 3) := by decide +kernel
theorem dX0_surround_16 : decode cX0_surround 16 = .ok (.aload_n 0, 1) := by decide +kernel
theorem dX0_surround_17 : decode cX0_surround 17 = .ok (.iload_n 2, 1) := by decide +kernel
theorem dX0_surround_18 : decode cX0_surround 18 = .ok (.getstatic 78, 3) := by decide +kernel
theorem dX0_surround_21 : decode cX0_surround 21 = .ok (.iload 6, 2) := by decide +kernel
theorem dX0_surround_23 : decode cX0_surround 23 = .ok (.invokestatic 51, 3) := by decide +kernel
theorem dX0_surround_26 : decode cX0_surround 26 = .ok (.iadd, 1) := by decide +kernel
theorem dX0_surround_27 : decode cX0_surround 27 = .ok (.iload_n 3, 1) := by decide +kernel
theorem dX0_surround_28 : decode cX0_surround 28 = .ok (.getstatic 81, 3) := by decide +kernel
theorem dX0_surround_31 : decode cX0_surround 31 = .ok (.iload 6, 2) := by decide +kernel
theorem dX0_surround_33 : decode cX0_surround 33 = .ok (.invokestatic 51, 3) := by decide +kernel
theorem dX0_surround_36 : decode cX0_surround 36 = .ok (.iadd, 1) := by decide +kernel
theorem dX0_surround_37 : decode cX0_surround 37 = .ok (.invokevirtual 84, 3) := by decide +kernel
theorem dX0_surround_40 : decode cX0_surround 40 = .ok (.istore 7, 2) := by decide +kernel
theorem dX0_surround_42 : decode cX0_surround 42 = .ok (.aload_n 0, 1) := by decide +kernel
theorem dX0_surround_43 : decode cX0_surround 43 = .ok (.getfield 11, 3) := by decide +kernel
theorem dX0_surround_46 : decode cX0_surround 46 = .ok (.iload 6, 2) := by decide +kernel
theorem dX0_surround_48 : decode cX0_surround 48 = .ok (.bipush 16, 2) := by decide +kernel
theorem dX0_surround_50 : decode cX0_surround 50 = .ok (.imul, 1) := by decide +kernel
theorem dX0_surround_51 : decode cX0_surround 51 = .ok (.iload_n 1, 1) := by decide +kernel
theorem dX0_surround_52 : decode cX0_surround 52 = .ok (.iadd, 1) := by decide +kernel
theorem dX0_surround_53 : decode cX0_surround 53 = .ok (.iload 7, 2) := by decide +kernel
theorem dX0_surround_55 : decode cX0_surround 55 = .ok (.invokestatic 88, 3) := by decide +kernel
theorem dX0_surround_58 : decode cX0_surround 58 = .ok (.iload 4, 2) := by decide +kernel
theorem dX0_surround_60 : decode cX0_surround 60 = .ok (.iload 7, 2) := by decide +kernel
theorem dX0_surround_62 : decode cX0_surround 62 = .ok (.invokestatic 92, 3) := by decide +kernel
theorem dX0_surround_65 : decode cX0_surround 65 = .ok (.ior, 1) := by decide +kernel
theorem dX0_surround_66 : decode cX0_surround 66 = .ok (.istore 4, 2) := by decide +kernel
theorem dX0_surround_68 : decode cX0_surround 68 = .ok (.iload 5, 2) := by decide +kernel
theorem dX0_surround_70 : decode cX0_surround 70 = .ok (.aload_n 0, 1) := by decide +kernel
theorem dX0_surround_71 : decode cX0_surround 71 = .ok (.iload_n 2, 1) := by decide +kernel
theorem dX0_surround_72 : decode cX0_surround 72 = .ok (.getstatic 95, 3) := by decide +kernel
theorem dX0_surround_75 : decode cX0_surround 75 = .ok (.iload 6, 2) := by decide +kernel
theorem dX0_surround_77 : decode cX0_surround 77 = .ok (.invokestatic 51, 3) := by decide +kernel
theorem dX0_surround_80 : decode cX0_surround 80 = .ok (.iadd, 1) := by decide +kernel
theorem dX0_surround_81 : decode cX0_surround 81 = .ok (.iload_n 3, 1) := by decide +kernel
theorem dX0_surround_82 : decode cX0_surround 82 = .ok (.getstatic 98, 3) := by decide +kernel
theorem dX0_surround_85 : decode cX0_surround 85 = .ok (.iload 6, 2) := by decide +kernel
theorem dX0_surround_87 : decode cX0_surround 87 = .ok (.invokestatic 51, 3) := by decide +kernel
theorem dX0_surround_90 : decode cX0_surround 90 = .ok (.iadd, 1) := by decide +kernel
theorem dX0_surround_91 : decode cX0_surround 91 = .ok (.invokevirtual 84, 3) := by decide +kernel
theorem dX0_surround_94 : decode cX0_surround 94 = .ok (.invokestatic 92, 3) := by decide +kernel
theorem dX0_surround_97 : decode cX0_surround 97 = .ok (.ior, 1) := by decide +kernel
theorem dX0_surround_98 : decode cX0_surround 98 = .ok (.istore 5, 2) := by decide +kernel
theorem dX0_surround_100 : decode cX0_surround 100 = .ok (.iinc 6 1, 3) := by decide +kernel
theorem dX0_surround_103 : decode cX0_surround 103 = .ok (.goto (-94), 3) := by decide +kernel
theorem dX0_surround_106 : decode cX0_surround 106 = .ok (.aload_n 0, 1) := by decide +kernel
theorem dX0_surround_107 : decode cX0_surround 107 = .ok (.getfield 15, 3) := by decide +kernel
theorem dX0_surround_110 : decode cX0_surround 110 = .ok (.iload_n 1, 1) := by decide +kernel
theorem dX0_surround_111 : decode cX0_surround 111 = .ok (.iload 4, 2) := by decide +kernel
theorem dX0_surround_113 : decode cX0_surround 113 = .ok (.invokestatic 88, 3) := by decide +kernel
theorem dX0_surround_116 : decode cX0_surround 116 = .ok (.aload_n 0, 1) := by decide +kernel
theorem dX0_surround_117 : decode cX0_surround 117 = .ok (.getfield 18, 3) := by decide +kernel
theorem dX0_surround_120 : decode cX0_surround 120 = .ok (.iload_n 1, 1) := by decide +kernel
theorem dX0_surround_121 : decode cX0_surround 121 = .ok (.iload 5, 2) := by decide +kernel
theorem dX0_surround_123 : decode cX0_surround 123 = .ok (.invokestatic 88, 3) := by decide +kernel
theorem dX0_surround_126 : decode cX0_surround 126 = .ok (.return_, 1) := by decide +kernel
theorem dX0_lookAhead_0 : decode cX0_lookAhead 0 = .ok (.aload_n 0, 1) := by decide +kernel
theorem dX0_lookAhead_1 : decode cX0_lookAhead 1 = .ok (.getfield 24, 3) := by decide +kernel
theorem dX0_lookAhead_4 : decode cX0_lookAhead 4 = .ok (.iload_n 1, 1) := by decide +kernel
theorem dX0_lookAhead_5 : decode cX0_lookAhead 5 = .ok (.aload_n 0, 1) := by decide +kernel
theorem dX0_lookAhead_6 : decode cX0_lookAhead 6 = .ok (.iload_n 2, 1) := by decide +kernel
theorem dX0_lookAhead_7 : decode cX0_lookAhead 7 = .ok (.iload_n 3, 1) := by decide +kernel
theorem dX0_lookAhead_8 : decode cX0_lookAhead 8 = .ok (.invokevirtual 84, 3) := by decide +kernel
theorem dX0_lookAhead_11 : decode cX0_lookAhead 11 = .ok (.invokestatic 92, 3) := by decide +kernel
theorem dX0_lookAhead_14 : decode cX0_lookAhead 14 = .ok (.invokestatic 88, 3) := by decide +kernel
theorem dX0_lookAhead_17 : decode cX0_lookAhead 17 = .ok (.aload_n 0, 1) := by decide +kernel
theorem dX0_lookAhead_18 : decode cX0_lookAhead 18 = .ok (.getfield 21, 3) := by decide +kernel
theorem dX0_lookAhead_21 : decode cX0_lookAhead 21 = .ok (.iload_n 1, 1) := by decide +kernel
theorem dX0_lookAhead_22 : decode cX0_lookAhead 22 = .ok (.aload_n 0, 1) := by decide +kernel
theorem dX0_lookAhead_23 : decode cX0_lookAhead 23 = .ok (.iload_n 2, 1) := by decide +kernel
theorem dX0_lookAhead_24 : decode cX0_lookAhead 24 = .ok (.iconst 1, 1) := by decide +kernel
theorem dX0_lookAhead_25 : decode cX0_lookAhead 25 = .ok (.isub, 1) := by decide +kernel
theorem dX0_lookAhead_26 : decode cX0_lookAhead 26 = .ok (.iload_n 3, 1) := by decide +kernel
theorem dX0_lookAhead_27 : decode cX0_lookAhead 27 = .ok (.invokevirtual 84, 3) := by decide +kernel
theorem dX0_lookAhead_30 : decode cX0_lookAhead 30 = .ok (.invokestatic 92, 3) := by decide +kernel
theorem dX0_lookAhead_33 : decode cX0_lookAhead 33 = .ok (.aload_n 0, 1) := by decide +kernel
theorem dX0_lookAhead_34 : decode cX0_lookAhead 34 = .ok (.iload_n 2, 1) := by decide +kernel
theorem dX0_lookAhead_35 : decode cX0_lookAhead 35 = .ok (.iconst 1, 1) := by decide +kernel
theorem dX0_lookAhead_36 : decode cX0_lookAhead 36 = .ok (.iadd, 1) := by decide +kernel
theorem dX0_lookAhead_37 : decode cX0_lookAhead 37 = .ok (.iload_n 3, 1) := by decide +kernel
theorem dX0_lookAhead_38 : decode cX0_lookAhead 38 = .ok (.invokevirtual 84, 3) := by decide +kernel
theorem dX0_lookAhead_41 : decode cX0_lookAhead 41 = .ok (.invokestatic 92, 3) := by decide +kernel
theorem dX0_lookAhead_44 : decode cX0_lookAhead 44 = .ok (.ior, 1) := by decide +kernel
theorem dX0_lookAhead_45 : decode cX0_lookAhead 45 = .ok (.invokestatic 88, 3) := by decide +kernel
theorem dX0_lookAhead_48 : decode cX0_lookAhead 48 = .ok (.return_, 1) := by decide +kernel
theorem dX0_cellAt_0 : decode cX0_cellAt 0 = .ok (.iload_n 1, 1) := by decide +kernel
theorem dX0_cellAt_1 : decode cX0_cellAt 1 = .ok (.ifCond .lt 27, 3) := by decide +kernel
theorem dX0_cellAt_4 : decode cX0_cellAt 4 = .ok (.iload_n 1, 1) := by decide +kernel
theorem dX0_cellAt_5 : decode cX0_cellAt 5 = .ok (.aload_n 0, 1) := by decide +kernel
theorem dX0_cellAt_6 : decode cX0_cellAt 6 = .ok (.getfield 27, 3) := by decide +kernel
theorem dX0_cellAt_9 : decode cX0_cellAt 9 = .ok (.if_icmp .ge 19, 3) := by decide +kernel
theorem dX0_cellAt_12 : decode cX0_cellAt 12 = .ok (.iload_n 2, 1) := by decide +kernel
theorem dX0_cellAt_13 : decode cX0_cellAt 13 = .ok (.ifCond .lt 15, 3) := by decide +kernel
theorem dX0_cellAt_16 : decode cX0_cellAt 16 = .ok (.iload_n 2, 1) := by decide +kernel
theorem dX0_cellAt_17 : decode cX0_cellAt 17 = .ok (.aload_n 0, 1) := by decide +kernel
theorem dX0_cellAt_18 : decode cX0_cellAt 18 = .ok (.getfield 31, 3) := by decide +kernel
theorem dX0_cellAt_21 : decode cX0_cellAt 21 = .ok (.if_icmp .ge 7, 3) := by decide +kernel
theorem dX0_cellAt_24 : decode cX0_cellAt 24 = .ok (.iconst 1, 1) := by decide +kernel
theorem dX0_cellAt_25 : decode cX0_cellAt 25 = .ok (.goto 4, 3) := by decide +kernel
theorem dX0_cellAt_28 : decode cX0_cellAt 28 = .ok (.iconst 0, 1) := by decide +kernel
theorem dX0_cellAt_29 : decode cX0_cellAt 29 = .ok (.istore_n 3, 1) := by decide +kernel
theorem dX0_cellAt_30 : decode cX0_cellAt 30 = .ok (.iload_n 3, 1) := by decide +kernel
theorem dX0_cellAt_31 : decode cX0_cellAt 31 = .ok (.ifCond .eq 14, 3) := by decide +kernel
theorem dX0_cellAt_34 : decode cX0_cellAt 34 = .ok (.iload_n 2, 1) := by decide +kernel
theorem dX0_cellAt_35 : decode cX0_cellAt 35 = .ok (.aload_n 0, 1) := by decide +kernel
theorem dX0_cellAt_36 : decode cX0_cellAt 36 = .ok (.getfield 27, 3) := by decide +kernel
theorem dX0_cellAt_39 : decode cX0_cellAt 39 = .ok (.imul, 1) := by decide +kernel
theorem dX0_cellAt_40 : decode cX0_cellAt 40 = .ok (.iload_n 1, 1) := by decide +kernel
theorem dX0_cellAt_41 : decode cX0_cellAt 41 = .ok (.iadd, 1) := by decide +kernel
theorem dX0_cellAt_42 : decode cX0_cellAt 42 = .ok (.goto 4, 3) := by decide +kernel
theorem dX0_cellAt_45 : decode cX0_cellAt 45 = .ok (.iconst (-1), 1) := by decide +kernel
theorem dX0_cellAt_46 : decode cX0_cellAt 46 = .ok (.ireturn, 1) := by decide +kernel
theorem dX0_bitOf_0 : decode cX0_bitOf 0 = .ok (.iload_n 0, 1) := by decide +kernel
theorem dX0_bitOf_1 : decode cX0_bitOf 1 = .ok (.iconst (-1), 1) := by decide +kernel
theorem dX0_bitOf_2 : decode cX0_bitOf 2 = .ok (.if_icmp .ne 7, 3) := by decide +kernel
theorem dX0_bitOf_5 : decode cX0_bitOf 5 = .ok (.iconst 0, 1) := by decide +kernel
theorem dX0_bitOf_6 : decode cX0_bitOf 6 = .ok (.goto 6, 3) := by decide +kernel
theorem dX0_bitOf_9 : decode cX0_bitOf 9 = .ok (.iconst 1, 1) := by decide +kernel
theorem dX0_bitOf_10 : decode cX0_bitOf 10 = .ok (.iload_n 0, 1) := by decide +kernel
theorem dX0_bitOf_11 : decode cX0_bitOf 11 = .ok (.ishl, 1) := by decide +kernel
theorem dX0_bitOf_12 : decode cX0_bitOf 12 = .ok (.ireturn, 1) := by decide +kernel
theorem dX0_lines_0 : decode cX0_lines 0 = .ok (.iconst 0, 1) := by decide +kernel
theorem dX0_lines_1 : decode cX0_lines 1 = .ok (.istore 4, 2) := by decide +kernel
theorem dX0_lines_3 : decode cX0_lines 3 = .ok (.iload_n 2, 1) := by decide +kernel
theorem dX0_lines_4 : decode cX0_lines 4 = .ok (.istore 5, 2) := by decide +kernel
theorem dX0_lines_6 : decode cX0_lines 6 = .ok (.iload 5, 2) := by decide +kernel
theorem dX0_lines_8 : decode cX0_lines 8 = .ok (.bipush 8, 2) := by decide +kernel
theorem dX0_lines_10 : decode cX0_lines 10 = .ok (.if_icmp .ge 85, 3) := by decide +kernel
theorem dX0_lines_13 : decode cX0_lines 13 = .ok (.aload_n 0, 1) := by decide +kernel
theorem dX0_lines_14 : decode cX0_lines 14 = .ok (.getfield 11, 3) := by decide +kernel
theorem dX0_lines_17 : decode cX0_lines 17 = .ok (.iload 5, 2) := by decide +kernel
theorem dX0_lines_19 : decode cX0_lines 19 = .ok (.bipush 16, 2) := by decide +kernel
theorem dX0_lines_21 : decode cX0_lines 21 = .ok (.imul, 1) := by decide +kernel
theorem dX0_lines_22 : decode cX0_lines 22 = .ok (.iload_n 1, 1) := by decide +kernel
theorem dX0_lines_23 : decode cX0_lines 23 = .ok (.iadd, 1) := by decide +kernel
theorem dX0_lines_24 : decode cX0_lines 24 = .ok (.invokestatic 51, 3) := by decide +kernel
theorem dX0_lines_27 : decode cX0_lines 27 = .ok (.istore 6, 2) := by decide +kernel
theorem dX0_lines_29 : decode cX0_lines 29 = .ok (.iconst 1, 1) := by decide +kernel
theorem dX0_lines_30 : decode cX0_lines 30 = .ok (.istore 7, 2) := by decide +kernel
theorem dX0_lines_32 : decode cX0_lines 32 = .ok (.iload 7, 2) := by decide +kernel
theorem dX0_lines_34 : decode cX0_lines 34 = .ok (.iconst 4, 1) := by decide +kernel
theorem dX0_lines_35 : decode cX0_lines 35 = .ok (.if_icmp .ge 54, 3) := by decide +kernel
theorem dX0_lines_38 : decode cX0_lines 38 = .ok (.iload 6, 2) := by decide +kernel
theorem dX0_lines_40 : decode cX0_lines 40 = .ok (.iconst (-1), 1) := by decide +kernel
theorem dX0_lines_41 : decode cX0_lines 41 = .ok (.if_icmp .eq 48, 3) := by decide +kernel
theorem dX0_lines_44 : decode cX0_lines 44 = .ok (.iload 4, 2) := by decide +kernel
theorem dX0_lines_46 : decode cX0_lines 46 = .ok (.iconst 1, 1) := by decide +kernel
theorem dX0_lines_47 : decode cX0_lines 47 = .ok (.iload 6, 2) := by decide +kernel
theorem dX0_lines_49 : decode cX0_lines 49 = .ok (.ishl, 1) := by decide +kernel
theorem dX0_lines_50 : decode cX0_lines 50 = .ok (.ior, 1) := by decide +kernel
theorem dX0_lines_51 : decode cX0_lines 51 = .ok (.istore 4, 2) := by decide +kernel
theorem dX0_lines_53 : decode cX0_lines 53 = .ok (.iload_n 3, 1) := by decide +kernel
theorem dX0_lines_54 : decode cX0_lines 54 = .ok (.iload 6, 2) := by decide +kernel
theorem dX0_lines_56 : decode cX0_lines 56 = .ok (.invokestatic 74, 3) := by decide +kernel
theorem dX0_lines_59 : decode cX0_lines 59 = .ok (.ifCond .eq 7, 3) := by decide +kernel
theorem dX0_lines_62 : decode cX0_lines 62 = .ok (.iconst (-1), 1) := by decide +kernel
theorem dX0_lines_63 : decode cX0_lines 63 = .ok (.goto 18, 3) := by decide +kernel
theorem dX0_lines_66 : decode cX0_lines 66 = .ok (.aload_n 0, 1) := by decide +kernel
theorem dX0_lines_67 : decode cX0_lines 67 = .ok (.getfield 11, 3) := by decide +kernel
theorem dX0_lines_70 : decode cX0_lines 70 = .ok (.iload 5, 2) := by decide +kernel
theorem dX0_lines_72 : decode cX0_lines 72 = .ok (.bipush 16, 2) := by decide +kernel
theorem dX0_lines_74 : decode cX0_lines 74 = .ok (.imul, 1) := by decide +kernel
theorem dX0_lines_75 : decode cX0_lines 75 = .ok (.iload 6, 2) := by decide +kernel
theorem dX0_lines_77 : decode cX0_lines 77 = .ok (.iadd, 1) := by decide +kernel
theorem dX0_lines_78 : decode cX0_lines 78 = .ok (.invokestatic 51, 3) := by decide +kernel
theorem dX0_lines_81 : decode cX0_lines 81 = .ok (.istore 6, 2) := by decide +kernel
theorem dX0_lines_83 : decode cX0_lines 83 = .ok (.iinc 7 1, 3) := by decide +kernel
theorem dX0_lines_86 : decode cX0_lines 86 = .ok (.goto (-54), 3) := by decide +kernel
theorem dX0_lines_89 : decode cX0_lines 89 = .ok (.iinc 5 2, 3) := by decide +kernel
theorem dX0_lines_92 : decode cX0_lines 92 = .ok (.goto (-86), 3) := by decide +kernel
theorem dX0_lines_95 : decode cX0_lines 95 = .ok (.iload 4, 2) := by decide +kernel
theorem dX0_lines_97 : decode cX0_lines 97 = .ok (.ireturn, 1) := by decide +kernel
theorem dX1_init_0 : decode cX1_init 0 = .ok (.aload_n 0, 1) := by decide +kernel
theorem dX1_init_1 : decode cX1_init 1 = .ok (.invokespecial 3, 3) := by decide +kernel
theorem dX1_init_4 : decode cX1_init 4 = .ok (.aload_n 0, 1) := by decide +kernel
theorem dX1_init_5 : decode cX1_init 5 = .ok (.new 9, 3) := by decide +kernel
theorem dX1_init_8 : decode cX1_init 8 = .ok (.dup, 1) := by decide +kernel
theorem dX1_init_9 : decode cX1_init 9 = .ok (.bipush 16, 2) := by decide +kernel
theorem dX1_init_11 : decode cX1_init 11 = .ok (.invokespecial 11, 3) := by decide +kernel
theorem dX1_init_14 : decode cX1_init 14 = .ok (.putfield 14, 3) := by decide +kernel
theorem dX1_init_17 : decode cX1_init 17 = .ok (.aload_n 0, 1) := by decide +kernel
theorem dX1_init_18 : decode cX1_init 18 = .ok (.iconst 0, 1) := by decide +kernel
theorem dX1_init_19 : decode cX1_init 19 = .ok (.putfield 20, 3) := by decide +kernel
theorem dX1_init_22 : decode cX1_init 22 = .ok (.aload_n 0, 1) := by decide +kernel
theorem dX1_init_23 : decode cX1_init 23 = .ok (.iconst 0, 1) := by decide +kernel
theorem dX1_init_24 : decode cX1_init 24 = .ok (.putfield 24, 3) := by decide +kernel
theorem dX1_init_27 : decode cX1_init 27 = .ok (.return_, 1) := by decide +kernel
theorem dX1_clear_0 : decode cX1_clear 0 = .ok (.aload_n 0, 1) := by decide +kernel
theorem dX1_clear_1 : decode cX1_clear 1 = .ok (.iconst 0, 1) := by decide +kernel
theorem dX1_clear_2 : decode cX1_clear 2 = .ok (.putfield 20, 3) := by decide +kernel
theorem dX1_clear_5 : decode cX1_clear 5 = .ok (.aload_n 0, 1) := by decide +kernel
theorem dX1_clear_6 : decode cX1_clear 6 = .ok (.iconst 0, 1) := by decide +kernel
theorem dX1_clear_7 : decode cX1_clear 7 = .ok (.putfield 24, 3) := by decide +kernel
theorem dX1_clear_10 : decode cX1_clear 10 = .ok (.return_, 1) := by decide +kernel
theorem dX1_add_0 : decode cX1_add 0 = .ok (.aload_n 0, 1) := by decide +kernel
theorem dX1_add_1 : decode cX1_add 1 = .ok (.getfield 14, 3) := by decide +kernel
theorem dX1_add_4 : decode cX1_add 4 = .ok (.aload_n 0, 1) := by decide +kernel
theorem dX1_add_5 : decode cX1_add 5 = .ok (.getfield 20, 3) := by decide +kernel
theorem dX1_add_8 : decode cX1_add 8 = .ok (.aload_n 0, 1) := by decide +kernel
theorem dX1_add_9 : decode cX1_add 9 = .ok (.getfield 24, 3) := by decide +kernel
theorem dX1_add_12 : decode cX1_add 12 = .ok (.iadd, 1) := by decide +kernel
theorem dX1_add_13 : decode cX1_add 13 = .ok (.bipush 16, 2) := by decide +kernel
theorem dX1_add_15 : decode cX1_add 15 = .ok (.irem, 1) := by decide +kernel
theorem dX1_add_16 : decode cX1_add 16 = .ok (.aload_n 1, 1) := by decide +kernel
theorem dX1_add_17 : decode cX1_add 17 = .ok (.invokevirtual 27, 3) := by decide +kernel
theorem dX1_add_20 : decode cX1_add 20 = .ok (.aload_n 0, 1) := by decide +kernel
theorem dX1_add_21 : decode cX1_add 21 = .ok (.getfield 24, 3) := by decide +kernel
theorem dX1_add_24 : decode cX1_add 24 = .ok (.bipush 16, 2) := by decide +kernel
theorem dX1_add_26 : decode cX1_add 26 = .ok (.if_icmp .ge 16, 3) := by decide +kernel
theorem dX1_add_29 : decode cX1_add 29 = .ok (.aload_n 0, 1) := by decide +kernel
theorem dX1_add_30 : decode cX1_add 30 = .ok (.dup, 1) := by decide +kernel
theorem dX1_add_31 : decode cX1_add 31 = .ok (.getfield 24, 3) := by decide +kernel
theorem dX1_add_34 : decode cX1_add 34 = .ok (.iconst 1, 1) := by decide +kernel
theorem dX1_add_35 : decode cX1_add 35 = .ok (.iadd, 1) := by decide +kernel
theorem dX1_add_36 : decode cX1_add 36 = .ok (.putfield 24, 3) := by decide +kernel
theorem dX1_add_39 : decode cX1_add 39 = .ok (.goto 16, 3) := by decide +kernel
theorem dX1_add_42 : decode cX1_add 42 = .ok (.aload_n 0, 1) := by decide +kernel
theorem dX1_add_43 : decode cX1_add 43 = .ok (.aload_n 0, 1) := by decide +kernel
theorem dX1_add_44 : decode cX1_add 44 = .ok (.getfield 20, 3) := by decide +kernel
theorem dX1_add_47 : decode cX1_add 47 = .ok (.iconst 1, 1) := by decide +kernel
theorem dX1_add_48 : decode cX1_add 48 = .ok (.iadd, 1) := by decide +kernel
theorem dX1_add_49 : decode cX1_add 49 = .ok (.bipush 16, 2) := by decide +kernel
theorem dX1_add_51 : decode cX1_add 51 = .ok (.irem, 1) := by decide +kernel
theorem dX1_add_52 : decode cX1_add 52 = .ok (.putfield 20, 3) := by decide +kernel
theorem dX1_add_55 : decode cX1_add 55 = .ok (.return_, 1) := by decide +kernel
theorem dX1_takeLast_0 : decode cX1_takeLast 0 = .ok (.aload_n 0, 1) := by decide +kernel
theorem dX1_takeLast_1 : decode cX1_takeLast 1 = .ok (.getfield 24, 3) := by decide +kernel
theorem dX1_takeLast_4 : decode cX1_takeLast 4 = .ok (.ifCond .le 33, 3) := by decide +kernel
theorem dX1_takeLast_7 : decode cX1_takeLast 7 = .ok (.aload_n 0, 1) := by decide +kernel
theorem dX1_takeLast_8 : decode cX1_takeLast 8 = .ok (.dup, 1) := by decide +kernel
theorem dX1_takeLast_9 : decode cX1_takeLast 9 = .ok (.getfield 24, 3) := by decide +kernel
theorem dX1_takeLast_12 : decode cX1_takeLast 12 = .ok (.iconst 1, 1) := by decide +kernel
theorem dX1_takeLast_13 : decode cX1_takeLast 13 = .ok (.isub, 1) := by decide +kernel
theorem dX1_takeLast_14 : decode cX1_takeLast 14 = .ok (.putfield 24, 3) := by decide +kernel
theorem dX1_takeLast_17 : decode cX1_takeLast 17 = .ok (.aload_n 0, 1) := by decide +kernel
theorem dX1_takeLast_18 : decode cX1_takeLast 18 = .ok (.getfield 14, 3) := by decide +kernel
theorem dX1_takeLast_21 : decode cX1_takeLast 21 = .ok (.aload_n 0, 1) := by decide +kernel
theorem dX1_takeLast_22 : decode cX1_takeLast 22 = .ok (.getfield 20, 3) := by decide +kernel
theorem dX1_takeLast_25 : decode cX1_takeLast 25 = .ok (.aload_n 0, 1) := by decide +kernel
theorem dX1_takeLast_26 : decode cX1_takeLast 26 = .ok (.getfield 24, 3) := by decide +kernel
theorem dX1_takeLast_29 : decode cX1_takeLast 29 = .ok (.iadd, 1) := by decide +kernel
theorem dX1_takeLast_30 : decode cX1_takeLast 30 = .ok (.bipush 16, 2) := by decide +kernel
theorem dX1_takeLast_32 : decode cX1_takeLast 32 = .ok (.irem, 1) := by decide +kernel
theorem dX1_takeLast_33 : decode cX1_takeLast 33 = .ok (.aload_n 1, 1) := by decide +kernel
theorem dX1_takeLast_34 : decode cX1_takeLast 34 = .ok (.invokevirtual 31, 3) := by decide +kernel
theorem dX1_takeLast_37 : decode cX1_takeLast 37 = .ok (.return_, 1) := by decide +kernel
theorem dX2_init_0 : decode cX2_init 0 = .ok (.aload_n 0, 1) := by decide +kernel
theorem dX2_init_1 : decode cX2_init 1 = .ok (.invokespecial 3, 3) := by decide +kernel
theorem dX2_init_4 : decode cX2_init 4 = .ok (.aload_n 0, 1) := by decide +kernel
theorem dX2_init_5 : decode cX2_init 5 = .ok (.bipush 64, 2) := by decide +kernel
theorem dX2_init_7 : decode cX2_init 7 = .ok (.newarray .int, 2) := by decide +kernel
theorem dX2_init_9 : decode cX2_init 9 = .ok (.putfield 9, 3) := by decide +kernel
theorem dX2_init_12 : decode cX2_init 12 = .ok (.aload_n 0, 1) := by decide +kernel
theorem dX2_init_13 : decode cX2_init 13 = .ok (.iconst 0, 1) := by decide +kernel
theorem dX2_init_14 : decode cX2_init 14 = .ok (.putfield 15, 3) := by decide +kernel
theorem dX2_init_17 : decode cX2_init 17 = .ok (.aload_n 0, 1) := by decide +kernel
theorem dX2_init_18 : decode cX2_init 18 = .ok (.lconst 0, 1) := by decide +kernel
theorem dX2_init_19 : decode cX2_init 19 = .ok (.putfield 19, 3) := by decide +kernel
theorem dX2_init_22 : decode cX2_init 22 = .ok (.aload_n 0, 1) := by decide +kernel
theorem dX2_init_23 : decode cX2_init 23 = .ok (.lconst 0, 1) := by decide +kernel
theorem dX2_init_24 : decode cX2_init 24 = .ok (.putfield 23, 3) := by decide +kernel
theorem dX2_init_27 : decode cX2_init 27 = .ok (.aload_n 0, 1) := by decide +kernel
theorem dX2_init_28 : decode cX2_init 28 = .ok (.iconst 0, 1) := by decide +kernel
theorem dX2_init_29 : decode cX2_init 29 = .ok (.putfield 26, 3) := by decide +kernel
theorem dX2_init_32 : decode cX2_init 32 = .ok (.aload_n 0, 1) := by decide +kernel
theorem dX2_init_33 : decode cX2_init 33 = .ok (.iconst 0, 1) := by decide +kernel
theorem dX2_init_34 : decode cX2_init 34 = .ok (.putfield 29, 3) := by decide +kernel
theorem dX2_init_37 : decode cX2_init 37 = .ok (.aload_n 0, 1) := by decide +kernel
theorem dX2_init_38 : decode cX2_init 38 = .ok (.iconst 0, 1) := by decide +kernel
theorem dX2_init_39 : decode cX2_init 39 = .ok (.putfield 32, 3) := by decide +kernel
theorem dX2_init_42 : decode cX2_init 42 = .ok (.aload_n 0, 1) := by decide +kernel
theorem dX2_init_43 : decode cX2_init 43 = .ok (.iconst 0, 1) := by decide +kernel
theorem dX2_init_44 : decode cX2_init 44 = .ok (.putfield 35, 3) := by decide +kernel
theorem dX2_init_47 : decode cX2_init 47 = .ok (.aload_n 0, 1) := by decide +kernel
theorem dX2_init_48 : decode cX2_init 48 = .ok (.iconst 0, 1) := by decide +kernel
theorem dX2_init_49 : decode cX2_init 49 = .ok (.putfield 38, 3) := by decide +kernel
theorem dX2_init_52 : decode cX2_init 52 = .ok (.aload_n 0, 1) := by decide +kernel
theorem dX2_init_53 : decode cX2_init 53 = .ok (.bipush (-9), 2) := by decide +kernel
theorem dX2_init_55 : decode cX2_init 55 = .ok (.putfield 41, 3) := by decide +kernel
theorem dX2_init_58 : decode cX2_init 58 = .ok (.aload_n 0, 1) := by decide +kernel
theorem dX2_init_59 : decode cX2_init 59 = .ok (.aload_n 1, 1) := by decide +kernel
theorem dX2_init_60 : decode cX2_init 60 = .ok (.putfield 44, 3) := by decide +kernel
theorem dX2_init_63 : decode cX2_init 63 = .ok (.return_, 1) := by decide +kernel
theorem dX2_clear_0 : decode cX2_clear 0 = .ok (.aload_n 0, 1) := by decide +kernel
theorem dX2_clear_1 : decode cX2_clear 1 = .ok (.lconst 0, 1) := by decide +kernel
theorem dX2_clear_2 : decode cX2_clear 2 = .ok (.lconst 0, 1) := by decide +kernel
theorem dX2_clear_3 : decode cX2_clear 3 = .ok (.iconst 0, 1) := by decide +kernel
theorem dX2_clear_4 : decode cX2_clear 4 = .ok (.bipush (-9), 2) := by decide +kernel
theorem dX2_clear_6 : decode cX2_clear 6 = .ok (.invokevirtual 48, 3) := by decide +kernel
theorem dX2_clear_9 : decode cX2_clear 9 = .ok (.return_, 1) := by decide +kernel
theorem dX2_set_0 : decode cX2_set 0 = .ok (.iconst 0, 1) := by decide +kernel
theorem dX2_set_1 : decode cX2_set 1 = .ok (.istore 7, 2) := by decide +kernel
theorem dX2_set_3 : decode cX2_set 3 = .ok (.iload 7, 2) := by decide +kernel
theorem dX2_set_5 : decode cX2_set 5 = .ok (.bipush 16, 2) := by decide +kernel
theorem dX2_set_7 : decode cX2_set 7 = .ok (.if_icmp .ge 21, 3) := by decide +kernel
theorem dX2_set_10 : decode cX2_set 10 = .ok (.aload_n 0, 1) := by decide +kernel
theorem dX2_set_11 : decode cX2_set 11 = .ok (.iload 7, 2) := by decide +kernel
theorem dX2_set_13 : decode cX2_set 13 = .ok (.lload_n 1, 1) := by decide +kernel
theorem dX2_set_14 : decode cX2_set 14 = .ok (.iload 7, 2) := by decide +kernel
theorem dX2_set_16 : decode cX2_set 16 = .ok (.invokestatic 52, 3) := by decide +kernel
theorem dX2_set_19 : decode cX2_set 19 = .ok (.invokevirtual 56, 3) := by decide +kernel
theorem dX2_set_22 : decode cX2_set 22 = .ok (.iinc 7 1, 3) := by decide +kernel
theorem dX2_set_25 : decode cX2_set 25 = .ok (.goto (-22), 3) := by decide +kernel
theorem dX2_set_28 : decode cX2_set 28 = .ok (.aload_n 0, 1) := by decide +kernel
theorem dX2_set_29 : decode cX2_set 29 = .ok (.lload_n 3, 1) := by decide +kernel
theorem dX2_set_30 : decode cX2_set 30 = .ok (.putfield 23, 3) := by decide +kernel
theorem dX2_set_33 : decode cX2_set 33 = .ok (.aload_n 0, 1) := by decide +kernel
theorem dX2_set_34 : decode cX2_set 34 = .ok (.iload 5, 2) := by decide +kernel
theorem dX2_set_36 : decode cX2_set 36 = .ok (.putfield 38, 3) := by decide +kernel
theorem dX2_set_39 : decode cX2_set 39 = .ok (.aload_n 0, 1) := by decide +kernel
theorem dX2_set_40 : decode cX2_set 40 = .ok (.iload 6, 2) := by decide +kernel
theorem dX2_set_42 : decode cX2_set 42 = .ok (.putfield 41, 3) := by decide +kernel
theorem dX2_set_45 : decode cX2_set 45 = .ok (.return_, 1) := by decide +kernel
theorem dX2_copy_0 : decode cX2_copy 0 = .ok (.aload_n 0, 1) := by decide +kernel
theorem dX2_copy_1 : decode cX2_copy 1 = .ok (.aload_n 1, 1) := by decide +kernel
theorem dX2_copy_2 : decode cX2_copy 2 = .ok (.getfield 19, 3) := by decide +kernel
theorem dX2_copy_5 : decode cX2_copy 5 = .ok (.putfield 19, 3) := by decide +kernel
theorem dX2_copy_8 : decode cX2_copy 8 = .ok (.aload_n 0, 1) := by decide +kernel
theorem dX2_copy_9 : decode cX2_copy 9 = .ok (.aload_n 1, 1) := by decide +kernel
theorem dX2_copy_10 : decode cX2_copy 10 = .ok (.getfield 23, 3) := by decide +kernel
theorem dX2_copy_13 : decode cX2_copy 13 = .ok (.putfield 23, 3) := by decide +kernel
theorem dX2_copy_16 : decode cX2_copy 16 = .ok (.aload_n 0, 1) := by decide +kernel
theorem dX2_copy_17 : decode cX2_copy 17 = .ok (.aload_n 1, 1) := by decide +kernel
theorem dX2_copy_18 : decode cX2_copy 18 = .ok (.getfield 26, 3) := by decide +kernel
theorem dX2_copy_21 : decode cX2_copy 21 = .ok (.putfield 26, 3) := by decide +kernel
theorem dX2_copy_24 : decode cX2_copy 24 = .ok (.aload_n 0, 1) := by decide +kernel
theorem dX2_copy_25 : decode cX2_copy 25 = .ok (.aload_n 1, 1) := by decide +kernel
theorem dX2_copy_26 : decode cX2_copy 26 = .ok (.getfield 29, 3) := by decide +kernel
theorem dX2_copy_29 : decode cX2_copy 29 = .ok (.putfield 29, 3) := by decide +kernel
theorem dX2_copy_32 : decode cX2_copy 32 = .ok (.aload_n 0, 1) := by decide +kernel
theorem dX2_copy_33 : decode cX2_copy 33 = .ok (.aload_n 1, 1) := by decide +kernel
theorem dX2_copy_34 : decode cX2_copy 34 = .ok (.getfield 32, 3) := by decide +kernel
theorem dX2_copy_37 : decode cX2_copy 37 = .ok (.putfield 32, 3) := by decide +kernel
theorem dX2_copy_40 : decode cX2_copy 40 = .ok (.aload_n 0, 1) := by decide +kernel
theorem dX2_copy_41 : decode cX2_copy 41 = .ok (.aload_n 1, 1) := by decide +kernel
theorem dX2_copy_42 : decode cX2_copy 42 = .ok (.getfield 35, 3) := by decide +kernel
theorem dX2_copy_45 : decode cX2_copy 45 = .ok (.putfield 35, 3) := by decide +kernel
theorem dX2_copy_48 : decode cX2_copy 48 = .ok (.aload_n 0, 1) := by decide +kernel
theorem dX2_copy_49 : decode cX2_copy 49 = .ok (.aload_n 1, 1) := by decide +kernel
theorem dX2_copy_50 : decode cX2_copy 50 = .ok (.getfield 38, 3) := by decide +kernel
theorem dX2_copy_53 : decode cX2_copy 53 = .ok (.putfield 38, 3) := by decide +kernel
theorem dX2_copy_56 : decode cX2_copy 56 = .ok (.aload_n 0, 1) := by decide +kernel
theorem dX2_copy_57 : decode cX2_copy 57 = .ok (.aload_n 1, 1) := by decide +kernel
theorem dX2_copy_58 : decode cX2_copy 58 = .ok (.getfield 41, 3) := by decide +kernel
theorem dX2_copy_61 : decode cX2_copy 61 = .ok (.putfield 41, 3) := by decide +kernel
theorem dX2_copy_64 : decode cX2_copy 64 = .ok (.return_, 1) := by decide +kernel
theorem dX2_put_0 : decode cX2_put 0 = .ok (.iconst 1, 1) := by decide +kernel
theorem dX2_put_1 : decode cX2_put 1 = .ok (.iload_n 1, 1) := by decide +kernel
theorem dX2_put_2 : decode cX2_put 2 = .ok (.ishl, 1) := by decide +kernel
theorem dX2_put_3 : decode cX2_put 3 = .ok (.istore_n 3, 1) := by decide +kernel
theorem dX2_put_4 : decode cX2_put 4 = .ok (.iload_n 2, 1) := by decide +kernel
theorem dX2_put_5 : decode cX2_put 5 = .ok (.invokestatic 60, 3) := by decide +kernel
theorem dX2_put_8 : decode cX2_put 8 = .ok (.istore 4, 2) := by decide +kernel
theorem dX2_put_10 : decode cX2_put 10 = .ok (.aload_n 0, 1) := by decide +kernel
theorem dX2_put_11 : decode cX2_put 11 = .ok (.aload_n 0, 1) := by decide +kernel
theorem dX2_put_12 : decode cX2_put 12 = .ok (.getfield 19, 3) := by decide +kernel
theorem dX2_put_15 : decode cX2_put 15 = .ok (.ldc2_w 64, 3) := by decide +kernel
theorem dX2_put_18 : decode cX2_put 18 = .ok (.iconst 4, 1) := by decide +kernel
theorem dX2_put_19 : decode cX2_put 19 = .ok (.iload_n 1, 1) := by decide +kernel
theorem dX2_put_20 : decode cX2_put 20 = .ok (.imul, 1) := by decide +kernel
theorem dX2_put_21 : decode cX2_put 21 = .ok (.lshl, 1) := by decide +kernel
theorem dX2_put_22 : decode cX2_put 22 = .ok (.ldc2_w 66, 3) := by decide +kernel
theorem dX2_put_25 : decode cX2_put 25 = .ok (.lxor, 1) := by decide +kernel
theorem dX2_put_26 : decode cX2_put 26 = .ok (.land, 1) := by decide +kernel
theorem dX2_put_27 : decode cX2_put 27 = .ok (.iload_n 2, 1) := by decide +kernel
theorem dX2_put_28 : decode cX2_put 28 = .ok (.i2l, 1) := by decide +kernel
theorem dX2_put_29 : decode cX2_put 29 = .ok (.iconst 4, 1) := by decide +kernel
theorem dX2_put_30 : decode cX2_put 30 = .ok (.iload_n 1, 1) := by decide +kernel
theorem dX2_put_31 : decode cX2_put 31 = .ok (.imul, 1) := by decide +kernel
theorem dX2_put_32 : decode cX2_put 32 = .ok (.lshl, 1) := by decide +kernel
theorem dX2_put_33 : decode cX2_put 33 = .ok (.lor, 1) := by decide +kernel
theorem dX2_put_34 : decode cX2_put 34 = .ok (.putfield 19, 3) := by decide +kernel
theorem dX2_put_37 : decode cX2_put 37 = .ok (.aload_n 0, 1) := by decide +kernel
theorem dX2_put_38 : decode cX2_put 38 = .ok (.aload_n 0, 1) := by decide +kernel
theorem dX2_put_39 : decode cX2_put 39 = .ok (.getfield 26, 3) := by decide +kernel
theorem dX2_put_42 : decode cX2_put 42 = .ok (.iload_n 3, 1) := by decide +kernel
theorem dX2_put_43 : decode cX2_put 43 = .ok (.iload 4, 2) := by decide +kernel
theorem dX2_put_45 : decode cX2_put 45 = .ok (.ifCond .ne 7, 3) := by decide +kernel
theorem dX2_put_48 : decode cX2_put 48 = .ok (.iconst 1, 1) := by decide +kernel
theorem dX2_put_49 : decode cX2_put 49 = .ok (.goto 4, 3) := by decide +kernel
theorem dX2_put_52 : decode cX2_put 52 = .ok (.iconst 0, 1) := by decide +kernel
theorem dX2_put_53 : decode cX2_put 53 = .ok (.invokestatic 68, 3) := by decide +kernel
theorem dX2_put_56 : decode cX2_put 56 = .ok (.putfield 26, 3) := by decide +kernel
theorem dX2_put_59 : decode cX2_put 59 = .ok (.aload_n 0, 1) := by decide +kernel
theorem dX2_put_60 : decode cX2_put 60 = .ok (.aload_n 0, 1) := by decide +kernel
theorem dX2_put_61 : decode cX2_put 61 = .ok (.getfield 29, 3) := by decide +kernel
theorem dX2_put_64 : decode cX2_put 64 = .ok (.iload_n 3, 1) := by decide +kernel
theorem dX2_put_65 : decode cX2_put 65 = .ok (.iload 4, 2) := by decide +kernel
theorem dX2_put_67 : decode cX2_put 67 = .ok (.iconst 1, 1) := by decide +kernel
theorem dX2_put_68 : decode cX2_put 68 = .ok (.if_icmp .ne 7, 3) := by decide +kernel
theorem dX2_put_71 : decode cX2_put 71 = .ok (.iconst 1, 1) := by decide +kernel
theorem dX2_put_72 : decode cX2_put 72 = .ok (.goto 4, 3) := by decide +kernel
theorem dX2_put_75 : decode cX2_put 75 = .ok (.iconst 0, 1) := by decide +kernel
theorem dX2_put_76 : decode cX2_put 76 = .ok (.invokestatic 68, 3) := by decide +kernel
theorem dX2_put_79 : decode cX2_put 79 = .ok (.putfield 29, 3) := by decide +kernel
theorem dX2_put_82 : decode cX2_put 82 = .ok (.aload_n 0, 1) := by decide +kernel
theorem dX2_put_83 : decode cX2_put 83 = .ok (.aload_n 0, 1) := by decide +kernel
theorem dX2_put_84 : decode cX2_put 84 = .ok (.getfield 32, 3) := by decide +kernel
theorem dX2_put_87 : decode cX2_put 87 = .ok (.iload_n 3, 1) := by decide +kernel
theorem dX2_put_88 : decode cX2_put 88 = .ok (.iload_n 2, 1) := by decide +kernel
theorem dX2_put_89 : decode cX2_put 89 = .ok (.iconst 1, 1) := by decide +kernel
theorem dX2_put_90 : decode cX2_put 90 = .ok (.if_icmp .ne 7, 3) := by decide +kernel
theorem dX2_put_93 : decode cX2_put 93 = .ok (.iconst 1, 1) := by decide +kernel
theorem dX2_put_94 : decode cX2_put 94 = .ok (.goto 4, 3) := by decide +kernel
theorem dX2_put_97 : decode cX2_put 97 = .ok (.iconst 0, 1) := by decide +kernel
theorem dX2_put_98 : decode cX2_put 98 = .ok (.invokestatic 68, 3) := by decide +kernel
theorem dX2_put_101 : decode cX2_put 101 = .ok (.putfield 32, 3) := by decide +kernel
theorem dX2_put_104 : decode cX2_put 104 = .ok (.aload_n 0, 1) := by decide +kernel
theorem dX2_put_105 : decode cX2_put 105 = .ok (.aload_n 0, 1) := by decide +kernel
theorem dX2_put_106 : decode cX2_put 106 = .ok (.getfield 35, 3) := by decide +kernel
theorem dX2_put_109 : decode cX2_put 109 = .ok (.iload_n 3, 1) := by decide +kernel
theorem dX2_put_110 : decode cX2_put 110 = .ok (.iload_n 2, 1) := by decide +kernel
theorem dX2_put_111 : decode cX2_put 111 = .ok (.invokestatic 72, 3) := by decide +kernel
theorem dX2_put_114 : decode cX2_put 114 = .ok (.ifCond .ne 7, 3) := by decide +kernel
theorem dX2_put_117 : decode cX2_put 117 = .ok (.iconst 1, 1) := by decide +kernel
theorem dX2_put_118 : decode cX2_put 118 = .ok (.goto 4, 3) := by decide +kernel
theorem dX2_put_121 : decode cX2_put 121 = .ok (.iconst 0, 1) := by decide +kernel
theorem dX2_put_122 : decode cX2_put 122 = .ok (.invokestatic 68, 3) := by decide +kernel
theorem dX2_put_125 : decode cX2_put 125 = .ok (.putfield 35, 3) := by decide +kernel
theorem dX2_put_128 : decode cX2_put 128 = .ok (.return_, 1) := by decide +kernel
theorem dX2_sign_0 : decode cX2_sign 0 = .ok (.aload_n 0, 1) := by decide +kernel
theorem dX2_sign_1 : decode cX2_sign 1 = .ok (.getfield 19, 3) := by decide +kernel
theorem dX2_sign_4 : decode cX2_sign 4 = .ok (.iload_n 1, 1) := by decide +kernel
theorem dX2_sign_5 : decode cX2_sign 5 = .ok (.invokestatic 52, 3) := by decide +kernel
theorem dX2_sign_8 : decode cX2_sign 8 = .ok (.ireturn, 1) := by decide +kernel
theorem dX2_lying_0 : decode cX2_lying 0 = .ok (.aload_n 0, 1) := by decide +kernel
theorem dX2_lying_1 : decode cX2_lying 1 = .ok (.getfield 23, 3) := by decide +kernel
theorem dX2_lying_4 : decode cX2_lying 4 = .ok (.iload_n 1, 1) := by decide +kernel
theorem dX2_lying_5 : decode cX2_lying 5 = .ok (.invokestatic 52, 3) := by decide +kernel
theorem dX2_lying_8 : decode cX2_lying 8 = .ok (.ireturn, 1) := by decide +kernel
theorem dX2_men_0 : decode cX2_men 0 = .ok (.iload_n 1, 1) := by decide +kernel
theorem dX2_men_1 : decode cX2_men 1 = .ok (.ifCond .ne 10, 3) := by decide +kernel
theorem dX2_men_4 : decode cX2_men 4 = .ok (.aload_n 0, 1) := by decide +kernel
theorem dX2_men_5 : decode cX2_men 5 = .ok (.getfield 26, 3) := by decide +kernel
theorem dX2_men_8 : decode cX2_men 8 = .ok (.goto 7, 3) := by decide +kernel
theorem dX2_men_11 : decode cX2_men 11 = .ok (.aload_n 0, 1) := by decide +kernel
theorem dX2_men_12 : decode cX2_men 12 = .ok (.getfield 29, 3) := by decide +kernel
theorem dX2_men_15 : decode cX2_men 15 = .ok (.ireturn, 1) := by decide +kernel
theorem dX2_menCount_0 : decode cX2_menCount 0 = .ok (.aload_n 0, 1) := by decide +kernel
theorem dX2_menCount_1 : decode cX2_menCount 1 = .ok (.getfield 26, 3) := by decide +kernel
theorem dX2_menCount_4 : decode cX2_menCount 4 = .ok (.aload_n 0, 1) := by decide +kernel
theorem dX2_menCount_5 : decode cX2_menCount 5 = .ok (.getfield 29, 3) := by decide +kernel
theorem dX2_menCount_8 : decode cX2_menCount 8 = .ok (.ior, 1) := by decide +kernel
theorem dX2_menCount_9 : decode cX2_menCount 9 = .ok (.invokestatic 75, 3) := by decide +kernel
theorem dX2_menCount_12 : decode cX2_menCount 12 = .ok (.ireturn, 1) := by decide +kernel
theorem dX2_full_0 : decode cX2_full 0 = .ok (.aload_n 0, 1) := by decide +kernel
theorem dX2_full_1 : decode cX2_full 1 = .ok (.getfield 26, 3) := by decide +kernel
theorem dX2_full_4 : decode cX2_full 4 = .ok (.aload_n 0, 1) := by decide +kernel
theorem dX2_full_5 : decode cX2_full 5 = .ok (.getfield 29, 3) := by decide +kernel
theorem dX2_full_8 : decode cX2_full 8 = .ok (.ior, 1) := by decide +kernel
theorem dX2_full_9 : decode cX2_full 9 = .ok (.aload_n 0, 1) := by decide +kernel
theorem dX2_full_10 : decode cX2_full 10 = .ok (.getfield 32, 3) := by decide +kernel
theorem dX2_full_13 : decode cX2_full 13 = .ok (.ior, 1) := by decide +kernel
theorem dX2_full_14 : decode cX2_full 14 = .ok (.ireturn, 1) := by decide +kernel
theorem dX2_reach_0 : decode cX2_reach 0 = .ok (.aload_n 0, 1) := by decide +kernel
theorem dX2_reach_1 : decode cX2_reach 1 = .ok (.iload_n 2, 1) := by decide +kernel
theorem dX2_reach_2 : decode cX2_reach 2 = .ok (.invokevirtual 80, 3) := by decide +kernel
theorem dX2_reach_5 : decode cX2_reach 5 = .ok (.istore_n 3, 1) := by decide +kernel
theorem dX2_reach_6 : decode cX2_reach 6 = .ok (.iload_n 3, 1) := by decide +kernel
theorem dX2_reach_7 : decode cX2_reach 7 = .ok (.invokestatic 60, 3) := by decide +kernel
theorem dX2_reach_10 : decode cX2_reach 10 = .ok (.istore 4, 2) := by decide +kernel
theorem dX2_reach_12 : decode cX2_reach 12 = .ok (.iload 4, 2) := by decide +kernel
theorem dX2_reach_14 : decode cX2_reach 14 = .ok (.bipush (-9), 2) := by decide +kernel
theorem dX2_reach_16 : decode cX2_reach 16 = .ok (.if_icmp .ne 5, 3) := by decide +kernel
theorem dX2_reach_19 : decode cX2_reach 19 = .ok (.iconst 0, 1) := by decide +kernel
theorem dX2_reach_20 : decode cX2_reach 20 = .ok (.ireturn, 1) := by decide +kernel
theorem dX2_reach_21 : decode cX2_reach 21 = .ok (.aload_n 0, 1) := by decide +kernel
theorem dX2_reach_22 : decode cX2_reach 22 = .ok (.invokevirtual 83, 3) := by decide +kernel
theorem dX2_reach_25 : decode cX2_reach 25 = .ok (.istore 5, 2) := by decide +kernel
theorem dX2_reach_27 : decode cX2_reach 27 = .ok (.aload_n 1, 1) := by decide +kernel
theorem dX2_reach_28 : decode cX2_reach 28 = .ok (.iload_n 3, 1) := by decide +kernel
theorem dX2_reach_29 : decode cX2_reach 29 = .ok (.iload_n 2, 1) := by decide +kernel
theorem dX2_reach_30 : decode cX2_reach 30 = .ok (.iload 5, 2) := by decide +kernel
theorem dX2_reach_32 : decode cX2_reach 32 = .ok (.invokevirtual 87, 3) := by decide +kernel
theorem dX2_reach_35 : decode cX2_reach 35 = .ok (.istore 6, 2) := by decide +kernel
theorem dX2_reach_37 : decode cX2_reach 37 = .ok (.aload_n 1, 1) := by decide +kernel
theorem dX2_reach_38 : decode cX2_reach 38 = .ok (.iload_n 3, 1) := by decide +kernel
theorem dX2_reach_39 : decode cX2_reach 39 = .ok (.iload_n 2, 1) := by decide +kernel
theorem dX2_reach_40 : decode cX2_reach 40 = .ok (.iload 6, 2) := by decide +kernel
theorem dX2_reach_42 : decode cX2_reach 42 = .ok (.invokevirtual 93, 3) := by decide +kernel
theorem dX2_reach_45 : decode cX2_reach 45 = .ok (.iload 5, 2) := by decide +kernel
theorem dX2_reach_47 : decode cX2_reach 47 = .ok (.iconst (-1), 1) := by decide +kernel
theorem dX2_reach_48 : decode cX2_reach 48 = .ok (.ixor, 1) := by decide +kernel
theorem dX2_reach_49 : decode cX2_reach 49 = .ok (.iand, 1) := by decide +kernel
theorem dX2_reach_50 : decode cX2_reach 50 = .ok (.iload 6, 2) := by decide +kernel
theorem dX2_reach_52 : decode cX2_reach 52 = .ok (.aload_n 0, 1) := by decide +kernel
theorem dX2_reach_53 : decode cX2_reach 53 = .ok (.iconst 1, 1) := by decide +kernel
theorem dX2_reach_54 : decode cX2_reach 54 = .ok (.iload 4, 2) := by decide +kernel
theorem dX2_reach_56 : decode cX2_reach 56 = .ok (.isub, 1) := by decide +kernel
theorem dX2_reach_57 : decode cX2_reach 57 = .ok (.invokevirtual 96, 3) := by decide +kernel
theorem dX2_reach_60 : decode cX2_reach 60 = .ok (.iand, 1) := by decide +kernel
theorem dX2_reach_61 : decode cX2_reach 61 = .ok (.ior, 1) := by decide +kernel
theorem dX2_reach_62 : decode cX2_reach 62 = .ok (.ireturn, 1) := by decide +kernel
theorem dX2_list_0 : decode cX2_list 0 = .ok (.aload_n 0, 1) := by decide +kernel
theorem dX2_list_1 : decode cX2_list 1 = .ok (.iconst 0, 1) := by decide +kernel
theorem dX2_list_2 : decode cX2_list 2 = .ok (.putfield 15, 3) := by decide +kernel
theorem dX2_list_5 : decode cX2_list 5 = .ok (.aload_n 0, 1) := by decide +kernel
theorem dX2_list_6 : decode cX2_list 6 = .ok (.getfield 41, 3) := by decide +kernel
theorem dX2_list_9 : decode cX2_list 9 = .ok (.bipush (-9), 2) := by decide +kernel
theorem dX2_list_11 : decode cX2_list 11 = .ok (.if_icmp .eq 5, 3) := by decide +kernel
theorem dX2_list_14 : decode cX2_list 14 = .ok (.iconst 0, 1) := by decide +kernel
theorem dX2_list_15 : decode cX2_list 15 = .ok (.ireturn, 1) := by decide +kernel
theorem dX2_list_16 : decode cX2_list 16 = .ok (.aload_n 0, 1) := by decide +kernel
theorem dX2_list_17 : decode cX2_list 17 = .ok (.aload_n 0, 1) := by decide +kernel
theorem dX2_list_18 : decode cX2_list 18 = .ok (.getfield 38, 3) := by decide +kernel
theorem dX2_list_21 : decode cX2_list 21 = .ok (.invokevirtual 96, 3) := by decide +kernel
theorem dX2_list_24 : decode cX2_list 24 = .ok (.istore_n 2, 1) := by decide +kernel
theorem dX2_list_25 : decode cX2_list 25 = .ok (.iconst 0, 1) := by decide +kernel
theorem dX2_list_26 : decode cX2_list 26 = .ok (.istore_n 3, 1) := by decide +kernel
theorem dX2_list_27 : decode cX2_list 27 = .ok (.iload_n 3, 1) := by decide +kernel
theorem dX2_list_28 : decode cX2_list 28 = .ok (.aload_n 1, 1) := by decide +kernel
theorem dX2_list_29 : decode cX2_list 29 = .ok (.getfield 99, 3) := by decide +kernel
theorem dX2_list_32 : decode cX2_list 32 = .ok (.if_icmp .ge 32, 3) := by decide +kernel
theorem dX2_list_35 : decode cX2_list 35 = .ok (.iload_n 2, 1) := by decide +kernel
theorem dX2_list_36 : decode cX2_list 36 = .ok (.iload_n 3, 1) := by decide +kernel
theorem dX2_list_37 : decode cX2_list 37 = .ok (.invokestatic 102, 3) := by decide +kernel
theorem dX2_list_40 : decode cX2_list 40 = .ok (.ifCond .eq 18, 3) := by decide +kernel
theorem dX2_list_43 : decode cX2_list 43 = .ok (.aload_n 0, 1) := by decide +kernel
theorem dX2_list_44 : decode cX2_list 44 = .ok (.iload_n 3, 1) := by decide +kernel
theorem dX2_list_45 : decode cX2_list 45 = .ok (.aload_n 0, 1) := by decide +kernel
theorem dX2_list_46 : decode cX2_list 46 = .ok (.aload_n 1, 1) := by decide +kernel
theorem dX2_list_47 : decode cX2_list 47 = .ok (.iload_n 3, 1) := by decide +kernel
theorem dX2_list_48 : decode cX2_list 48 = .ok (.invokevirtual 106, 3) := by decide +kernel
theorem dX2_list_51 : decode cX2_list 51 = .ok (.aload_n 1, 1) := by decide +kernel
theorem dX2_list_52 : decode cX2_list 52 = .ok (.getfield 99, 3) := by decide +kernel
theorem dX2_list_55 : decode cX2_list 55 = .ok (.invokevirtual 110, 3) := by decide +kernel
theorem dX2_list_58 : decode cX2_list 58 = .ok (.iinc 3 1, 3) := by decide +kernel
theorem dX2_list_61 : decode cX2_list 61 = .ok (.goto (-34), 3) := by decide +kernel
theorem dX2_list_64 : decode cX2_list 64 = .ok (.aload_n 0, 1) := by decide +kernel
theorem dX2_list_65 : decode cX2_list 65 = .ok (.getfield 15, 3) := by decide +kernel
theorem dX2_list_68 : decode cX2_list 68 = .ok (.ifCond .ne 15, 3) := by decide +kernel
theorem dX2_list_71 : decode cX2_list 71 = .ok (.aload_n 0, 1) := by decide +kernel
theorem dX2_list_72 : decode cX2_list 72 = .ok (.iconst 0, 1) := by decide +kernel
theorem dX2_list_73 : decode cX2_list 73 = .ok (.bipush (-9), 2) := by decide +kernel
theorem dX2_list_75 : decode cX2_list 75 = .ok (.invokevirtual 114, 3) := by decide +kernel
theorem dX2_list_78 : decode cX2_list 78 = .ok (.aload_n 0, 1) := by decide +kernel
theorem dX2_list_79 : decode cX2_list 79 = .ok (.iconst 1, 1) := by decide +kernel
theorem dX2_list_80 : decode cX2_list 80 = .ok (.putfield 15, 3) := by decide +kernel
theorem dX2_list_83 : decode cX2_list 83 = .ok (.aload_n 0, 1) := by decide +kernel
theorem dX2_list_84 : decode cX2_list 84 = .ok (.getfield 15, 3) := by decide +kernel
theorem dX2_list_87 : decode cX2_list 87 = .ok (.ireturn, 1) := by decide +kernel
theorem dX2_ply_0 : decode cX2_ply 0 = .ok (.iload_n 1, 1) := by decide +kernel
theorem dX2_ply_1 : decode cX2_ply 1 = .ok (.ifCond .lt 22, 3) := by decide +kernel
theorem dX2_ply_4 : decode cX2_ply 4 = .ok (.iload_n 1, 1) := by decide +kernel
theorem dX2_ply_5 : decode cX2_ply 5 = .ok (.aload_n 0, 1) := by decide +kernel
theorem dX2_ply_6 : decode cX2_ply 6 = .ok (.getfield 15, 3) := by decide +kernel
theorem dX2_ply_9 : decode cX2_ply 9 = .ok (.if_icmp .ge 14, 3) := by decide +kernel
theorem dX2_ply_12 : decode cX2_ply 12 = .ok (.aload_n 0, 1) := by decide +kernel
theorem dX2_ply_13 : decode cX2_ply 13 = .ok (.getfield 9, 3) := by decide +kernel
theorem dX2_ply_16 : decode cX2_ply 16 = .ok (.iload_n 1, 1) := by decide +kernel
theorem dX2_ply_17 : decode cX2_ply 17 = .ok (.invokestatic 117, 3) := by decide +kernel
theorem dX2_ply_20 : decode cX2_ply 20 = .ok (.goto 5, 3) := by decide +kernel
theorem dX2_ply_23 : decode cX2_ply 23 = .ok (.bipush (-9), 2) := by decide +kernel
theorem dX2_ply_25 : decode cX2_ply 25 = .ok (.ireturn, 1) := by decide +kernel
theorem dX2_setPly_0 : decode cX2_setPly 0 = .ok (.aload_n 0, 1) := by decide +kernel
theorem dX2_setPly_1 : decode cX2_setPly 1 = .ok (.getfield 9, 3) := by decide +kernel
theorem dX2_setPly_4 : decode cX2_setPly 4 = .ok (.iload_n 1, 1) := by decide +kernel
theorem dX2_setPly_5 : decode cX2_setPly 5 = .ok (.iload_n 2, 1) := by decide +kernel
theorem dX2_setPly_6 : decode cX2_setPly 6 = .ok (.invokestatic 121, 3) := by decide +kernel
theorem dX2_setPly_9 : decode cX2_setPly 9 = .ok (.return_, 1) := by decide +kernel
theorem dX2_follow_0 : decode cX2_follow 0 = .ok (.aload_n 0, 1) := by decide +kernel
theorem dX2_follow_1 : decode cX2_follow 1 = .ok (.aload_n 1, 1) := by decide +kernel
theorem dX2_follow_2 : decode cX2_follow 2 = .ok (.invokevirtual 125, 3) := by decide +kernel
theorem dX2_follow_5 : decode cX2_follow 5 = .ok (.aload_n 0, 1) := by decide +kernel
theorem dX2_follow_6 : decode cX2_follow 6 = .ok (.iload_n 2, 1) := by decide +kernel
theorem dX2_follow_7 : decode cX2_follow 7 = .ok (.iload_n 3, 1) := by decide +kernel
theorem dX2_follow_8 : decode cX2_follow 8 = .ok (.invokevirtual 129, 3) := by decide +kernel
theorem dX2_follow_11 : decode cX2_follow 11 = .ok (.return_, 1) := by decide +kernel
theorem dX2_make_0 : decode cX2_make 0 = .ok (.aload_n 0, 1) := by decide +kernel
theorem dX2_make_1 : decode cX2_make 1 = .ok (.invokevirtual 132, 3) := by decide +kernel
theorem dX2_make_4 : decode cX2_make 4 = .ok (.aload_n 0, 1) := by decide +kernel
theorem dX2_make_5 : decode cX2_make 5 = .ok (.iconst 1, 1) := by decide +kernel
theorem dX2_make_6 : decode cX2_make 6 = .ok (.aload_n 0, 1) := by decide +kernel
theorem dX2_make_7 : decode cX2_make 7 = .ok (.getfield 38, 3) := by decide +kernel
theorem dX2_make_10 : decode cX2_make 10 = .ok (.isub, 1) := by decide +kernel
theorem dX2_make_11 : decode cX2_make 11 = .ok (.putfield 38, 3) := by decide +kernel
theorem dX2_make_14 : decode cX2_make 14 = .ok (.iload_n 1, 1) := by decide +kernel
theorem dX2_make_15 : decode cX2_make 15 = .ok (.bipush (-9), 2) := by decide +kernel
theorem dX2_make_17 : decode cX2_make 17 = .ok (.if_icmp .ne 4, 3) := by decide +kernel
theorem dX2_make_20 : decode cX2_make 20 = .ok (.return_, 1) := by decide +kernel
theorem dX2_make_21 : decode cX2_make 21 = .ok (.iload_n 1, 1) := by decide +kernel
theorem dX2_make_22 : decode cX2_make 22 = .ok (.bipush 100, 2) := by decide +kernel
theorem dX2_make_24 : decode cX2_make 24 = .ok (.idiv, 1) := by decide +kernel
theorem dX2_make_25 : decode cX2_make 25 = .ok (.istore_n 3, 1) := by decide +kernel
theorem dX2_make_26 : decode cX2_make 26 = .ok (.iload_n 1, 1) := by decide +kernel
theorem dX2_make_27 : decode cX2_make 27 = .ok (.bipush 100, 2) := by decide +kernel
theorem dX2_make_29 : decode cX2_make 29 = .ok (.irem, 1) := by decide +kernel
theorem dX2_make_30 : decode cX2_make 30 = .ok (.istore 4, 2) := by decide +kernel
theorem dX2_make_32 : decode cX2_make 32 = .ok (.aload_n 0, 1) := by decide +kernel
theorem dX2_make_33 : decode cX2_make 33 = .ok (.iload 4, 2) := by decide +kernel
theorem dX2_make_35 : decode cX2_make 35 = .ok (.invokevirtual 80, 3) := by decide +kernel
theorem dX2_make_38 : decode cX2_make 38 = .ok (.ifCond .eq 11, 3) := by decide +kernel
theorem dX2_make_41 : decode cX2_make 41 = .ok (.aload_n 0, 1) := by decide +kernel
theorem dX2_make_42 : decode cX2_make 42 = .ok (.iload 4, 2) := by decide +kernel
theorem dX2_make_44 : decode cX2_make 44 = .ok (.iload_n 2, 1) := by decide +kernel
theorem dX2_make_45 : decode cX2_make 45 = .ok (.invokevirtual 135, 3) := by decide +kernel
theorem dX2_make_48 : decode cX2_make 48 = .ok (.return_, 1) := by decide +kernel
theorem dX2_make_49 : decode cX2_make 49 = .ok (.aload_n 0, 1) := by decide +kernel
theorem dX2_make_50 : decode cX2_make 50 = .ok (.iload 4, 2) := by decide +kernel
theorem dX2_make_52 : decode cX2_make 52 = .ok (.aload_n 0, 1) := by decide +kernel
theorem dX2_make_53 : decode cX2_make 53 = .ok (.iload_n 3, 1) := by decide +kernel
theorem dX2_make_54 : decode cX2_make 54 = .ok (.invokevirtual 80, 3) := by decide +kernel
theorem dX2_make_57 : decode cX2_make 57 = .ok (.invokevirtual 56, 3) := by decide +kernel
theorem dX2_make_60 : decode cX2_make 60 = .ok (.aload_n 0, 1) := by decide +kernel
theorem dX2_make_61 : decode cX2_make 61 = .ok (.iload_n 3, 1) := by decide +kernel
theorem dX2_make_62 : decode cX2_make 62 = .ok (.iconst 0, 1) := by decide +kernel
theorem dX2_make_63 : decode cX2_make 63 = .ok (.invokevirtual 56, 3) := by decide +kernel
theorem dX2_make_66 : decode cX2_make 66 = .ok (.return_, 1) := by decide +kernel
theorem dX2_canFellLast_0 : decode cX2_canFellLast 0 = .ok (.aload_n 0, 1) := by decide +kernel
theorem dX2_canFellLast_1 : decode cX2_canFellLast 1 = .ok (.getfield 35, 3) := by decide +kernel
theorem dX2_canFellLast_4 : decode cX2_canFellLast 4 = .ok (.aload_n 0, 1) := by decide +kernel
theorem dX2_canFellLast_5 : decode cX2_canFellLast 5 = .ok (.iconst 1, 1) := by decide +kernel
theorem dX2_canFellLast_6 : decode cX2_canFellLast 6 = .ok (.aload_n 0, 1) := by decide +kernel
theorem dX2_canFellLast_7 : decode cX2_canFellLast 7 = .ok (.getfield 38, 3) := by decide +kernel
theorem dX2_canFellLast_10 : decode cX2_canFellLast 10 = .ok (.isub, 1) := by decide +kernel
theorem dX2_canFellLast_11 : decode cX2_canFellLast 11 = .ok (.invokevirtual 96, 3) := by decide +kernel
theorem dX2_canFellLast_14 : decode cX2_canFellLast 14 = .ok (.iand, 1) := by decide +kernel
theorem dX2_canFellLast_15 : decode cX2_canFellLast 15 = .ok (.istore_n 2, 1) := by decide +kernel
theorem dX2_canFellLast_16 : decode cX2_canFellLast 16 = .ok (.iload_n 2, 1) := by decide +kernel
theorem dX2_canFellLast_17 : decode cX2_canFellLast 17 = .ok (.invokestatic 75, 3) := by decide +kernel
theorem dX2_canFellLast_20 : decode cX2_canFellLast 20 = .ok (.iconst 1, 1) := by decide +kernel
theorem dX2_canFellLast_21 : decode cX2_canFellLast 21 = .ok (.if_icmp .eq 5, 3) := by decide +kernel
theorem dX2_canFellLast_24 : decode cX2_canFellLast 24 = .ok (.iconst 0, 1) := by decide +kernel
theorem dX2_canFellLast_25 : decode cX2_canFellLast 25 = .ok (.ireturn, 1) := by decide +kernel
theorem dX2_canFellLast_26 : decode cX2_canFellLast 26 = .ok (.aload_n 0, 1) := by decide +kernel
theorem dX2_canFellLast_27 : decode cX2_canFellLast 27 = .ok (.aload_n 0, 1) := by decide +kernel
theorem dX2_canFellLast_28 : decode cX2_canFellLast 28 = .ok (.getfield 38, 3) := by decide +kernel
theorem dX2_canFellLast_31 : decode cX2_canFellLast 31 = .ok (.invokevirtual 96, 3) := by decide +kernel
theorem dX2_canFellLast_34 : decode cX2_canFellLast 34 = .ok (.istore_n 3, 1) := by decide +kernel
theorem dX2_canFellLast_35 : decode cX2_canFellLast 35 = .ok (.iconst 0, 1) := by decide +kernel
theorem dX2_canFellLast_36 : decode cX2_canFellLast 36 = .ok (.istore 4, 2) := by decide +kernel
theorem dX2_canFellLast_38 : decode cX2_canFellLast 38 = .ok (.iload 4, 2) := by decide +kernel
theorem dX2_canFellLast_40 : decode cX2_canFellLast 40 = .ok (.aload_n 1, 1) := by decide +kernel
theorem dX2_canFellLast_41 : decode cX2_canFellLast 41 = .ok (.getfield 99, 3) := by decide +kernel
theorem dX2_canFellLast_44 : decode cX2_canFellLast 44 = .ok (.if_icmp .ge 41, 3) := by decide +kernel
theorem dX2_canFellLast_47 : decode cX2_canFellLast 47 = .ok (.iload_n 3, 1) := by decide +kernel
theorem dX2_canFellLast_48 : decode cX2_canFellLast 48 = .ok (.iload 4, 2) := by decide +kernel
theorem dX2_canFellLast_50 : decode cX2_canFellLast 50 = .ok (.invokestatic 102, 3) := by decide +kernel
theorem dX2_canFellLast_53 : decode cX2_canFellLast 53 = .ok (.ifCond .eq 26, 3) := by decide +kernel
theorem dX2_canFellLast_56 : decode cX2_canFellLast 56 = .ok (.aload_n 1, 1) := by decide +kernel
theorem dX2_canFellLast_57 : decode cX2_canFellLast 57 = .ok (.aload_n 0, 1) := by decide +kernel
theorem dX2_canFellLast_58 : decode cX2_canFellLast 58 = .ok (.iload 4, 2) := by decide +kernel
theorem dX2_canFellLast_60 : decode cX2_canFellLast 60 = .ok (.invokevirtual 80, 3) := by decide +kernel
theorem dX2_canFellLast_63 : decode cX2_canFellLast 63 = .ok (.iload 4, 2) := by decide +kernel
theorem dX2_canFellLast_65 : decode cX2_canFellLast 65 = .ok (.aload_n 0, 1) := by decide +kernel
theorem dX2_canFellLast_66 : decode cX2_canFellLast 66 = .ok (.invokevirtual 83, 3) := by decide +kernel
theorem dX2_canFellLast_69 : decode cX2_canFellLast 69 = .ok (.invokevirtual 87, 3) := by decide +kernel
theorem dX2_canFellLast_72 : decode cX2_canFellLast 72 = .ok (.iload_n 2, 1) := by decide +kernel
theorem dX2_canFellLast_73 : decode cX2_canFellLast 73 = .ok (.iand, 1) := by decide +kernel
theorem dX2_canFellLast_74 : decode cX2_canFellLast 74 = .ok (.ifCond .eq 5, 3) := by decide +kernel
theorem dX2_canFellLast_77 : decode cX2_canFellLast 77 = .ok (.iconst 1, 1) := by decide +kernel
theorem dX2_canFellLast_78 : decode cX2_canFellLast 78 = .ok (.ireturn, 1) := by decide +kernel
theorem dX2_canFellLast_79 : decode cX2_canFellLast 79 = .ok (.iinc 4 1, 3) := by decide +kernel
theorem dX2_canFellLast_82 : decode cX2_canFellLast 82 = .ok (.goto (-44), 3) := by decide +kernel
theorem dX2_canFellLast_85 : decode cX2_canFellLast 85 = .ok (.iconst 0, 1) := by decide +kernel
theorem dX2_canFellLast_86 : decode cX2_canFellLast 86 = .ok (.ireturn, 1) := by decide +kernel
theorem dX2_differing_0 : decode cX2_differing 0 = .ok (.aload_n 0, 1) := by decide +kernel
theorem dX2_differing_1 : decode cX2_differing 1 = .ok (.getfield 19, 3) := by decide +kernel
theorem dX2_differing_4 : decode cX2_differing 4 = .ok (.aload_n 1, 1) := by decide +kernel
theorem dX2_differing_5 : decode cX2_differing 5 = .ok (.getfield 19, 3) := by decide +kernel
theorem dX2_differing_8 : decode cX2_differing 8 = .ok (.lxor, 1) := by decide +kernel
theorem dX2_differing_9 : decode cX2_differing 9 = .ok (.lstore_n 2, 1) := by decide +kernel
theorem dX2_differing_10 : decode cX2_differing 10 = .ok (.lload_n 2, 1) := by decide +kernel
theorem dX2_differing_11 : decode cX2_differing 11 = .ok (.lload_n 2, 1) := by decide +kernel
theorem dX2_differing_12 : decode cX2_differing 12 = .ok (.iconst 1, 1) := by decide +kernel
theorem dX2_differing_13 : decode cX2_differing 13 = .ok (.lushr, 1) := by decide +kernel
theorem dX2_differing_14 : decode cX2_differing 14 = .ok (.lor, 1) := by decide +kernel
theorem dX2_differing_15 : decode cX2_differing 15 = .ok (.lstore_n 2, 1) := by decide +kernel
theorem dX2_differing_16 : decode cX2_differing 16 = .ok (.lload_n 2, 1) := by decide +kernel
theorem dX2_differing_17 : decode cX2_differing 17 = .ok (.lload_n 2, 1) := by decide +kernel
theorem dX2_differing_18 : decode cX2_differing 18 = .ok (.iconst 2, 1) := by decide +kernel
theorem dX2_differing_19 : decode cX2_differing 19 = .ok (.lushr, 1) := by decide +kernel
theorem dX2_differing_20 : decode cX2_differing 20 = .ok (.lor, 1) := by decide +kernel
theorem dX2_differing_21 : decode cX2_differing 21 = .ok (.lstore_n 2, 1) := by decide +kernel
theorem dX2_differing_22 : decode cX2_differing 22 = .ok (.lload_n 2, 1) := by decide +kernel
theorem dX2_differing_23 : decode cX2_differing 23 = .ok (.ldc2_w 138, 3) := by decide +kernel
theorem dX2_differing_26 : decode cX2_differing 26 = .ok (.land, 1) := by decide +kernel
theorem dX2_differing_27 : decode cX2_differing 27 = .ok (.invokestatic 140, 3) := by decide +kernel
theorem dX2_differing_30 : decode cX2_differing 30 = .ok (.ireturn, 1) := by decide +kernel
theorem dX2_isAs_0 : decode cX2_isAs 0 = .ok (.aload_n 0, 1) := by decide +kernel
theorem dX2_isAs_1 : decode cX2_isAs 1 = .ok (.getfield 19, 3) := by decide +kernel
theorem dX2_isAs_4 : decode cX2_isAs 4 = .ok (.aload_n 1, 1) := by decide +kernel
theorem dX2_isAs_5 : decode cX2_isAs 5 = .ok (.getfield 19, 3) := by decide +kernel
theorem dX2_isAs_8 : decode cX2_isAs 8 = .ok (.lcmp, 1) := by decide +kernel
theorem dX2_isAs_9 : decode cX2_isAs 9 = .ok (.ifCond .ne 30, 3) := by decide +kernel
theorem dX2_isAs_12 : decode cX2_isAs 12 = .ok (.aload_n 0, 1) := by decide +kernel
theorem dX2_isAs_13 : decode cX2_isAs 13 = .ok (.getfield 23, 3) := by decide +kernel
theorem dX2_isAs_16 : decode cX2_isAs 16 = .ok (.aload_n 1, 1) := by decide +kernel
theorem dX2_isAs_17 : decode cX2_isAs 17 = .ok (.getfield 23, 3) := by decide +kernel
theorem dX2_isAs_20 : decode cX2_isAs 20 = .ok (.lcmp, 1) := by decide +kernel
theorem dX2_isAs_21 : decode cX2_isAs 21 = .ok (.ifCond .ne 18, 3) := by decide +kernel
theorem dX2_isAs_24 : decode cX2_isAs 24 = .ok (.aload_n 0, 1) := by decide +kernel
theorem dX2_isAs_25 : decode cX2_isAs 25 = .ok (.getfield 38, 3) := by decide +kernel
theorem dX2_isAs_28 : decode cX2_isAs 28 = .ok (.aload_n 1, 1) := by decide +kernel
theorem dX2_isAs_29 : decode cX2_isAs 29 = .ok (.getfield 38, 3) := by decide +kernel
theorem dX2_isAs_32 : decode cX2_isAs 32 = .ok (.if_icmp .ne 7, 3) := by decide +kernel
theorem dX2_isAs_35 : decode cX2_isAs 35 = .ok (.iconst 1, 1) := by decide +kernel
theorem dX2_isAs_36 : decode cX2_isAs 36 = .ok (.goto 4, 3) := by decide +kernel
theorem dX2_isAs_39 : decode cX2_isAs 39 = .ok (.iconst 0, 1) := by decide +kernel
theorem dX2_isAs_40 : decode cX2_isAs 40 = .ok (.ireturn, 1) := by decide +kernel
theorem dX2_listFrom_0 : decode cX2_listFrom 0 = .ok (.iconst 0, 1) := by decide +kernel
theorem dX2_listFrom_1 : decode cX2_listFrom 1 = .ok (.istore 4, 2) := by decide +kernel
theorem dX2_listFrom_3 : decode cX2_listFrom 3 = .ok (.iload 4, 2) := by decide +kernel
theorem dX2_listFrom_5 : decode cX2_listFrom 5 = .ok (.iload_n 3, 1) := by decide +kernel
theorem dX2_listFrom_6 : decode cX2_listFrom 6 = .ok (.if_icmp .ge 43, 3) := by decide +kernel
theorem dX2_listFrom_9 : decode cX2_listFrom 9 = .ok (.iload_n 2, 1) := by decide +kernel
theorem dX2_listFrom_10 : decode cX2_listFrom 10 = .ok (.iload 4, 2) := by decide +kernel
theorem dX2_listFrom_12 : decode cX2_listFrom 12 = .ok (.invokestatic 102, 3) := by decide +kernel
theorem dX2_listFrom_15 : decode cX2_listFrom 15 = .ok (.ifCond .eq 28, 3) := by decide +kernel
theorem dX2_listFrom_18 : decode cX2_listFrom 18 = .ok (.aload_n 0, 1) := by decide +kernel
theorem dX2_listFrom_19 : decode cX2_listFrom 19 = .ok (.aload_n 0, 1) := by decide +kernel
theorem dX2_listFrom_20 : decode cX2_listFrom 20 = .ok (.getfield 15, 3) := by decide +kernel
theorem dX2_listFrom_23 : decode cX2_listFrom 23 = .ok (.iload_n 1, 1) := by decide +kernel
theorem dX2_listFrom_24 : decode cX2_listFrom 24 = .ok (.bipush 100, 2) := by decide +kernel
theorem dX2_listFrom_26 : decode cX2_listFrom 26 = .ok (.imul, 1) := by decide +kernel
theorem dX2_listFrom_27 : decode cX2_listFrom 27 = .ok (.iload 4, 2) := by decide +kernel
theorem dX2_listFrom_29 : decode cX2_listFrom 29 = .ok (.iadd, 1) := by decide +kernel
theorem dX2_listFrom_30 : decode cX2_listFrom 30 = .ok (.invokevirtual 114, 3) := by decide +kernel
theorem dX2_listFrom_33 : decode cX2_listFrom 33 = .ok (.aload_n 0, 1) := by decide +kernel
theorem dX2_listFrom_34 : decode cX2_listFrom 34 = .ok (.dup, 1) := by decide +kernel
theorem dX2_listFrom_35 : decode cX2_listFrom 35 = .ok (.getfield 15, 3) := by decide +kernel
theorem dX2_listFrom_38 : decode cX2_listFrom 38 = .ok (.iconst 1, 1) := by decide +kernel
theorem dX2_listFrom_39 : decode cX2_listFrom 39 = .ok (.iadd, 1) := by decide +kernel
theorem dX2_listFrom_40 : decode cX2_listFrom 40 = .ok (.putfield 15, 3) := by decide +kernel
theorem dX2_listFrom_43 : decode cX2_listFrom 43 = .ok (.iinc 4 1, 3) := by decide +kernel
theorem dX2_listFrom_46 : decode cX2_listFrom 46 = .ok (.goto (-43), 3) := by decide +kernel
theorem dX2_listFrom_49 : decode cX2_listFrom 49 = .ok (.return_, 1) := by decide +kernel
theorem dX2_fall_0 : decode cX2_fall 0 = .ok (.aload_n 0, 1) := by decide +kernel
theorem dX2_fall_1 : decode cX2_fall 1 = .ok (.getfield 35, 3) := by decide +kernel
theorem dX2_fall_4 : decode cX2_fall 4 = .ok (.iload_n 1, 1) := by decide +kernel
theorem dX2_fall_5 : decode cX2_fall 5 = .ok (.invokestatic 102, 3) := by decide +kernel
theorem dX2_fall_8 : decode cX2_fall 8 = .ok (.istore_n 3, 1) := by decide +kernel
theorem dX2_fall_9 : decode cX2_fall 9 = .ok (.aload_n 0, 1) := by decide +kernel
theorem dX2_fall_10 : decode cX2_fall 10 = .ok (.iload_n 1, 1) := by decide +kernel
theorem dX2_fall_11 : decode cX2_fall 11 = .ok (.invokevirtual 80, 3) := by decide +kernel
theorem dX2_fall_14 : decode cX2_fall 14 = .ok (.invokestatic 60, 3) := by decide +kernel
theorem dX2_fall_17 : decode cX2_fall 17 = .ok (.istore 4, 2) := by decide +kernel
theorem dX2_fall_19 : decode cX2_fall 19 = .ok (.aload_n 0, 1) := by decide +kernel
theorem dX2_fall_20 : decode cX2_fall 20 = .ok (.iload_n 1, 1) := by decide +kernel
theorem dX2_fall_21 : decode cX2_fall 21 = .ok (.iconst 1, 1) := by decide +kernel
theorem dX2_fall_22 : decode cX2_fall 22 = .ok (.invokevirtual 56, 3) := by decide +kernel
theorem dX2_fall_25 : decode cX2_fall 25 = .ok (.aload_n 0, 1) := by decide +kernel
theorem dX2_fall_26 : decode cX2_fall 26 = .ok (.dup, 1) := by decide +kernel
theorem dX2_fall_27 : decode cX2_fall 27 = .ok (.getfield 23, 3) := by decide +kernel
theorem dX2_fall_30 : decode cX2_fall 30 = .ok (.iload_n 2, 1) := by decide +kernel
theorem dX2_fall_31 : decode cX2_fall 31 = .ok (.i2l, 1) := by decide +kernel
theorem dX2_fall_32 : decode cX2_fall 32 = .ok (.iconst 4, 1) := by decide +kernel
theorem dX2_fall_33 : decode cX2_fall 33 = .ok (.iload_n 1, 1) := by decide +kernel
theorem dX2_fall_34 : decode cX2_fall 34 = .ok (.imul, 1) := by decide +kernel
theorem dX2_fall_35 : decode cX2_fall 35 = .ok (.lshl, 1) := by decide +kernel
theorem dX2_fall_36 : decode cX2_fall 36 = .ok (.lor, 1) := by decide +kernel
theorem dX2_fall_37 : decode cX2_fall 37 = .ok (.putfield 23, 3) := by decide +kernel
theorem dX2_fall_40 : decode cX2_fall 40 = .ok (.iload_n 3, 1) := by decide +kernel
theorem dX2_fall_41 : decode cX2_fall 41 = .ok (.ifCond .eq 23, 3) := by decide +kernel
theorem dX2_fall_44 : decode cX2_fall 44 = .ok (.aload_n 0, 1) := by decide +kernel
theorem dX2_fall_45 : decode cX2_fall 45 = .ok (.getfield 35, 3) := by decide +kernel
theorem dX2_fall_48 : decode cX2_fall 48 = .ok (.aload_n 0, 1) := by decide +kernel
theorem dX2_fall_49 : decode cX2_fall 49 = .ok (.iload 4, 2) := by decide +kernel
theorem dX2_fall_51 : decode cX2_fall 51 = .ok (.invokevirtual 96, 3) := by decide +kernel
theorem dX2_fall_54 : decode cX2_fall 54 = .ok (.iand, 1) := by decide +kernel
theorem dX2_fall_55 : decode cX2_fall 55 = .ok (.ifCond .ne 9, 3) := by decide +kernel
theorem dX2_fall_58 : decode cX2_fall 58 = .ok (.aload_n 0, 1) := by decide +kernel
theorem dX2_fall_59 : decode cX2_fall 59 = .ok (.iload 4, 2) := by decide +kernel
theorem dX2_fall_61 : decode cX2_fall 61 = .ok (.putfield 41, 3) := by decide +kernel
theorem dX2_fall_64 : decode cX2_fall 64 = .ok (.return_, 1) := by decide +kernel
theorem dX2_age_0 : decode cX2_age 0 = .ok (.aload_n 0, 1) := by decide +kernel
theorem dX2_age_1 : decode cX2_age 1 = .ok (.getfield 23, 3) := by decide +kernel
theorem dX2_age_4 : decode cX2_age 4 = .ok (.lconst 0, 1) := by decide +kernel
theorem dX2_age_5 : decode cX2_age 5 = .ok (.lcmp, 1) := by decide +kernel
theorem dX2_age_6 : decode cX2_age 6 = .ok (.ifCond .ne 4, 3) := by decide +kernel
theorem dX2_age_9 : decode cX2_age 9 = .ok (.return_, 1) := by decide +kernel
theorem dX2_age_10 : decode cX2_age 10 = .ok (.iconst 0, 1) := by decide +kernel
theorem dX2_age_11 : decode cX2_age 11 = .ok (.istore_n 1, 1) := by decide +kernel
theorem dX2_age_12 : decode cX2_age 12 = .ok (.iload_n 1, 1) := by decide +kernel
theorem dX2_age_13 : decode cX2_age 13 = .ok (.bipush 16, 2) := by decide +kernel
theorem dX2_age_15 : decode cX2_age 15 = .ok (.if_icmp .ge 44, 3) := by decide +kernel
theorem dX2_age_18 : decode cX2_age 18 = .ok (.aload_n 0, 1) := by decide +kernel
theorem dX2_age_19 : decode cX2_age 19 = .ok (.iload_n 1, 1) := by decide +kernel
theorem dX2_age_20 : decode cX2_age 20 = .ok (.invokevirtual 145, 3) := by decide +kernel
theorem dX2_age_23 : decode cX2_age 23 = .ok (.istore_n 2, 1) := by decide +kernel
theorem dX2_age_24 : decode cX2_age 24 = .ok (.iload_n 2, 1) := by decide +kernel
theorem dX2_age_25 : decode cX2_age 25 = .ok (.ifCond .le 17, 3) := by decide +kernel
theorem dX2_age_28 : decode cX2_age 28 = .ok (.aload_n 0, 1) := by decide +kernel
theorem dX2_age_29 : decode cX2_age 29 = .ok (.dup, 1) := by decide +kernel
theorem dX2_age_30 : decode cX2_age 30 = .ok (.getfield 23, 3) := by decide +kernel
theorem dX2_age_33 : decode cX2_age 33 = .ok (.lconst 1, 1) := by decide +kernel
theorem dX2_age_34 : decode cX2_age 34 = .ok (.iconst 4, 1) := by decide +kernel
theorem dX2_age_35 : decode cX2_age 35 = .ok (.iload_n 1, 1) := by decide +kernel
theorem dX2_age_36 : decode cX2_age 36 = .ok (.imul, 1) := by decide +kernel
theorem dX2_age_37 : decode cX2_age 37 = .ok (.lshl, 1) := by decide +kernel
theorem dX2_age_38 : decode cX2_age 38 = .ok (.lsub, 1) := by decide +kernel
theorem dX2_age_39 : decode cX2_age 39 = .ok (.putfield 23, 3) := by decide +kernel
theorem dX2_age_42 : decode cX2_age 42 = .ok (.iload_n 2, 1) := by decide +kernel
theorem dX2_age_43 : decode cX2_age 43 = .ok (.iconst 1, 1) := by decide +kernel
theorem dX2_age_44 : decode cX2_age 44 = .ok (.if_icmp .ne 9, 3) := by decide +kernel
theorem dX2_age_47 : decode cX2_age 47 = .ok (.aload_n 0, 1) := by decide +kernel
theorem dX2_age_48 : decode cX2_age 48 = .ok (.iload_n 1, 1) := by decide +kernel
theorem dX2_age_49 : decode cX2_age 49 = .ok (.iconst 0, 1) := by decide +kernel
theorem dX2_age_50 : decode cX2_age 50 = .ok (.invokevirtual 56, 3) := by decide +kernel
theorem dX2_age_53 : decode cX2_age 53 = .ok (.iinc 1 1, 3) := by decide +kernel
theorem dX2_age_56 : decode cX2_age 56 = .ok (.goto (-44), 3) := by decide +kernel
theorem dX2_age_59 : decode cX2_age 59 = .ok (.return_, 1) := by decide +kernel
theorem dX2_nibble_0 : decode cX2_nibble 0 = .ok (.lload_n 0, 1) := by decide +kernel
theorem dX2_nibble_1 : decode cX2_nibble 1 = .ok (.iconst 4, 1) := by decide +kernel
theorem dX2_nibble_2 : decode cX2_nibble 2 = .ok (.iload_n 2, 1) := by decide +kernel
theorem dX2_nibble_3 : decode cX2_nibble 3 = .ok (.imul, 1) := by decide +kernel
theorem dX2_nibble_4 : decode cX2_nibble 4 = .ok (.lushr, 1) := by decide +kernel
theorem dX2_nibble_5 : decode cX2_nibble 5 = .ok (.l2i, 1) := by decide +kernel
theorem dX2_nibble_6 : decode cX2_nibble 6 = .ok (.bipush 15, 2) := by decide +kernel
theorem dX2_nibble_8 : decode cX2_nibble 8 = .ok (.iand, 1) := by decide +kernel
theorem dX2_nibble_9 : decode cX2_nibble 9 = .ok (.ireturn, 1) := by decide +kernel
theorem dX2_with_0 : decode cX2_with 0 = .ok (.iload_n 2, 1) := by decide +kernel
theorem dX2_with_1 : decode cX2_with 1 = .ok (.ifCond .eq 9, 3) := by decide +kernel
theorem dX2_with_4 : decode cX2_with 4 = .ok (.iload_n 0, 1) := by decide +kernel
theorem dX2_with_5 : decode cX2_with 5 = .ok (.iload_n 1, 1) := by decide +kernel
theorem dX2_with_6 : decode cX2_with 6 = .ok (.ior, 1) := by decide +kernel
theorem dX2_with_7 : decode cX2_with 7 = .ok (.goto 8, 3) := by decide +kernel
theorem dX2_with_10 : decode cX2_with 10 = .ok (.iload_n 0, 1) := by decide +kernel
theorem dX2_with_11 : decode cX2_with 11 = .ok (.iload_n 1, 1) := by decide +kernel
theorem dX2_with_12 : decode cX2_with 12 = .ok (.iconst (-1), 1) := by decide +kernel
theorem dX2_with_13 : decode cX2_with 13 = .ok (.ixor, 1) := by decide +kernel
theorem dX2_with_14 : decode cX2_with 14 = .ok (.iand, 1) := by decide +kernel
theorem dX2_with_15 : decode cX2_with 15 = .ok (.ireturn, 1) := by decide +kernel
theorem dX3_init_0 : decode cX3_init 0 = .ok (.aload_n 0, 1) := by decide +kernel
theorem dX3_init_1 : decode cX3_init 1 = .ok (.invokespecial 3, 3) := by decide +kernel
theorem dX3_init_4 : decode cX3_init 4 = .ok (.iload_n 1, 1) := by decide +kernel
theorem dX3_init_5 : decode cX3_init 5 = .ok (.ifCond .le 7, 3) := by decide +kernel
theorem dX3_init_8 : decode cX3_init 8 = .ok (.iload_n 1, 1) := by decide +kernel
theorem dX3_init_9 : decode cX3_init 9 = .ok (.goto 4, 3) := by decide +kernel
theorem dX3_init_12 : decode cX3_init 12 = .ok (.iconst 0, 1) := by decide +kernel
theorem dX3_init_13 : decode cX3_init 13 = .ok (.istore_n 2, 1) := by decide +kernel
theorem dX3_init_14 : decode cX3_init 14 = .ok (.aload_n 0, 1) := by decide +kernel
theorem dX3_init_15 : decode cX3_init 15 = .ok (.iload_n 2, 1) := by decide +kernel
theorem dX3_init_16 : decode cX3_init 16 = .ok (.newarray .long, 2) := by decide +kernel
theorem dX3_init_18 : decode cX3_init 18 = .ok (.putfield 9, 3) := by decide +kernel
theorem dX3_init_21 : decode cX3_init 21 = .ok (.aload_n 0, 1) := by decide +kernel
theorem dX3_init_22 : decode cX3_init 22 = .ok (.iload_n 2, 1) := by decide +kernel
theorem dX3_init_23 : decode cX3_init 23 = .ok (.newarray .long, 2) := by decide +kernel
theorem dX3_init_25 : decode cX3_init 25 = .ok (.putfield 15, 3) := by decide +kernel
theorem dX3_init_28 : decode cX3_init 28 = .ok (.aload_n 0, 1) := by decide +kernel
theorem dX3_init_29 : decode cX3_init 29 = .ok (.iload_n 2, 1) := by decide +kernel
theorem dX3_init_30 : decode cX3_init 30 = .ok (.newarray .int, 2) := by decide +kernel
theorem dX3_init_32 : decode cX3_init 32 = .ok (.putfield 18, 3) := by decide +kernel
theorem dX3_init_35 : decode cX3_init 35 = .ok (.aload_n 0, 1) := by decide +kernel
theorem dX3_init_36 : decode cX3_init 36 = .ok (.iload_n 2, 1) := by decide +kernel
theorem dX3_init_37 : decode cX3_init 37 = .ok (.newarray .int, 2) := by decide +kernel
theorem dX3_init_39 : decode cX3_init 39 = .ok (.putfield 22, 3) := by decide +kernel
theorem dX3_init_42 : decode cX3_init 42 = .ok (.iconst 0, 1) := by decide +kernel
theorem dX3_init_43 : decode cX3_init 43 = .ok (.istore_n 3, 1) := by decide +kernel
theorem dX3_init_44 : decode cX3_init 44 = .ok (.iload_n 3, 1) := by decide +kernel
theorem dX3_init_45 : decode cX3_init 45 = .ok (.iload_n 2, 1) := by decide +kernel
theorem dX3_init_46 : decode cX3_init 46 = .ok (.if_icmp .ge 17, 3) := by decide +kernel
theorem dX3_init_49 : decode cX3_init 49 = .ok (.aload_n 0, 1) := by decide +kernel
theorem dX3_init_50 : decode cX3_init 50 = .ok (.getfield 18, 3) := by decide +kernel
theorem dX3_init_53 : decode cX3_init 53 = .ok (.iload_n 3, 1) := by decide +kernel
theorem dX3_init_54 : decode cX3_init 54 = .ok (.bipush (-9), 2) := by decide +kernel
theorem dX3_init_56 : decode cX3_init 56 = .ok (.iastore, 1) := by decide +kernel
theorem dX3_init_57 : decode cX3_init 57 = .ok (.iinc 3 1, 3) := by decide +kernel
theorem dX3_init_60 : decode cX3_init 60 = .ok (.goto (-16), 3) := by decide +kernel
theorem dX3_init_63 : decode cX3_init 63 = .ok (.return_, 1) := by decide +kernel
theorem dX3_clear_0 : decode cX3_clear 0 = .ok (.iconst 0, 1) := by decide +kernel
theorem dX3_clear_1 : decode cX3_clear 1 = .ok (.istore_n 1, 1) := by decide +kernel
theorem dX3_clear_2 : decode cX3_clear 2 = .ok (.iload_n 1, 1) := by decide +kernel
theorem dX3_clear_3 : decode cX3_clear 3 = .ok (.aload_n 0, 1) := by decide +kernel
theorem dX3_clear_4 : decode cX3_clear 4 = .ok (.getfield 18, 3) := by decide +kernel
theorem dX3_clear_7 : decode cX3_clear 7 = .ok (.arraylength, 1) := by decide +kernel
theorem dX3_clear_8 : decode cX3_clear 8 = .ok (.if_icmp .ge 17, 3) := by decide +kernel
theorem dX3_clear_11 : decode cX3_clear 11 = .ok (.aload_n 0, 1) := by decide +kernel
theorem dX3_clear_12 : decode cX3_clear 12 = .ok (.getfield 18, 3) := by decide +kernel
theorem dX3_clear_15 : decode cX3_clear 15 = .ok (.iload_n 1, 1) := by decide +kernel
theorem dX3_clear_16 : decode cX3_clear 16 = .ok (.bipush (-9), 2) := by decide +kernel
theorem dX3_clear_18 : decode cX3_clear 18 = .ok (.iastore, 1) := by decide +kernel
theorem dX3_clear_19 : decode cX3_clear 19 = .ok (.iinc 1 1, 3) := by decide +kernel
theorem dX3_clear_22 : decode cX3_clear 22 = .ok (.goto (-20), 3) := by decide +kernel
theorem dX3_clear_25 : decode cX3_clear 25 = .ok (.return_, 1) := by decide +kernel
theorem dX3_holds_0 : decode cX3_holds 0 = .ok (.aload_n 0, 1) := by decide +kernel
theorem dX3_holds_1 : decode cX3_holds 1 = .ok (.iload_n 1, 1) := by decide +kernel
theorem dX3_holds_2 : decode cX3_holds 2 = .ok (.invokevirtual 25, 3) := by decide +kernel
theorem dX3_holds_5 : decode cX3_holds 5 = .ok (.ifCond .eq 18, 3) := by decide +kernel
theorem dX3_holds_8 : decode cX3_holds 8 = .ok (.aload_n 0, 1) := by decide +kernel
theorem dX3_holds_9 : decode cX3_holds 9 = .ok (.getfield 18, 3) := by decide +kernel
theorem dX3_holds_12 : decode cX3_holds 12 = .ok (.iload_n 1, 1) := by decide +kernel
theorem dX3_holds_13 : decode cX3_holds 13 = .ok (.iaload, 1) := by decide +kernel
theorem dX3_holds_14 : decode cX3_holds 14 = .ok (.bipush (-9), 2) := by decide +kernel
theorem dX3_holds_16 : decode cX3_holds 16 = .ok (.if_icmp .eq 7, 3) := by decide +kernel
theorem dX3_holds_19 : decode cX3_holds 19 = .ok (.iconst 1, 1) := by decide +kernel
theorem dX3_holds_20 : decode cX3_holds 20 = .ok (.goto 4, 3) := by decide +kernel
theorem dX3_holds_23 : decode cX3_holds 23 = .ok (.iconst 0, 1) := by decide +kernel
theorem dX3_holds_24 : decode cX3_holds 24 = .ok (.ireturn, 1) := by decide +kernel
theorem dX3_set_0 : decode cX3_set 0 = .ok (.aload_n 0, 1) := by decide +kernel
theorem dX3_set_1 : decode cX3_set 1 = .ok (.iload_n 1, 1) := by decide +kernel
theorem dX3_set_2 : decode cX3_set 2 = .ok (.invokevirtual 25, 3) := by decide +kernel
theorem dX3_set_5 : decode cX3_set 5 = .ok (.ifCond .eq 43, 3) := by decide +kernel
theorem dX3_set_8 : decode cX3_set 8 = .ok (.aload_n 0, 1) := by decide +kernel
theorem dX3_set_9 : decode cX3_set 9 = .ok (.getfield 9, 3) := by decide +kernel
theorem dX3_set_12 : decode cX3_set 12 = .ok (.iload_n 1, 1) := by decide +kernel
theorem dX3_set_13 : decode cX3_set 13 = .ok (.aload_n 2, 1) := by decide +kernel
theorem dX3_set_14 : decode cX3_set 14 = .ok (.getfield 29, 3) := by decide +kernel
theorem dX3_set_17 : decode cX3_set 17 = .ok (.lastore, 1) := by decide +kernel
theorem dX3_set_18 : decode cX3_set 18 = .ok (.aload_n 0, 1) := by decide +kernel
theorem dX3_set_19 : decode cX3_set 19 = .ok (.getfield 15, 3) := by decide +kernel
theorem dX3_set_22 : decode cX3_set 22 = .ok (.iload_n 1, 1) := by decide +kernel
theorem dX3_set_23 : decode cX3_set 23 = .ok (.aload_n 2, 1) := by decide +kernel
theorem dX3_set_24 : decode cX3_set 24 = .ok (.getfield 34, 3) := by decide +kernel
theorem dX3_set_27 : decode cX3_set 27 = .ok (.lastore, 1) := by decide +kernel
theorem dX3_set_28 : decode cX3_set 28 = .ok (.aload_n 0, 1) := by decide +kernel
theorem dX3_set_29 : decode cX3_set 29 = .ok (.getfield 18, 3) := by decide +kernel
theorem dX3_set_32 : decode cX3_set 32 = .ok (.iload_n 1, 1) := by decide +kernel
theorem dX3_set_33 : decode cX3_set 33 = .ok (.aload_n 2, 1) := by decide +kernel
theorem dX3_set_34 : decode cX3_set 34 = .ok (.getfield 36, 3) := by decide +kernel
theorem dX3_set_37 : decode cX3_set 37 = .ok (.iastore, 1) := by decide +kernel
theorem dX3_set_38 : decode cX3_set 38 = .ok (.aload_n 0, 1) := by decide +kernel
theorem dX3_set_39 : decode cX3_set 39 = .ok (.getfield 22, 3) := by decide +kernel
theorem dX3_set_42 : decode cX3_set 42 = .ok (.iload_n 1, 1) := by decide +kernel
theorem dX3_set_43 : decode cX3_set 43 = .ok (.aload_n 2, 1) := by decide +kernel
theorem dX3_set_44 : decode cX3_set 44 = .ok (.getfield 40, 3) := by decide +kernel
theorem dX3_set_47 : decode cX3_set 47 = .ok (.iastore, 1) := by decide +kernel
theorem dX3_set_48 : decode cX3_set 48 = .ok (.return_, 1) := by decide +kernel
theorem dX3_get_0 : decode cX3_get 0 = .ok (.aload_n 0, 1) := by decide +kernel
theorem dX3_get_1 : decode cX3_get 1 = .ok (.iload_n 1, 1) := by decide +kernel
theorem dX3_get_2 : decode cX3_get 2 = .ok (.invokevirtual 43, 3) := by decide +kernel
theorem dX3_get_5 : decode cX3_get 5 = .ok (.ifCond .eq 31, 3) := by decide +kernel
theorem dX3_get_8 : decode cX3_get 8 = .ok (.aload_n 2, 1) := by decide +kernel
theorem dX3_get_9 : decode cX3_get 9 = .ok (.aload_n 0, 1) := by decide +kernel
theorem dX3_get_10 : decode cX3_get 10 = .ok (.getfield 9, 3) := by decide +kernel
theorem dX3_get_13 : decode cX3_get 13 = .ok (.iload_n 1, 1) := by decide +kernel
theorem dX3_get_14 : decode cX3_get 14 = .ok (.laload, 1) := by decide +kernel
theorem dX3_get_15 : decode cX3_get 15 = .ok (.aload_n 0, 1) := by decide +kernel
theorem dX3_get_16 : decode cX3_get 16 = .ok (.getfield 15, 3) := by decide +kernel
theorem dX3_get_19 : decode cX3_get 19 = .ok (.iload_n 1, 1) := by decide +kernel
theorem dX3_get_20 : decode cX3_get 20 = .ok (.laload, 1) := by decide +kernel
theorem dX3_get_21 : decode cX3_get 21 = .ok (.aload_n 0, 1) := by decide +kernel
theorem dX3_get_22 : decode cX3_get 22 = .ok (.getfield 18, 3) := by decide +kernel
theorem dX3_get_25 : decode cX3_get 25 = .ok (.iload_n 1, 1) := by decide +kernel
theorem dX3_get_26 : decode cX3_get 26 = .ok (.iaload, 1) := by decide +kernel
theorem dX3_get_27 : decode cX3_get 27 = .ok (.aload_n 0, 1) := by decide +kernel
theorem dX3_get_28 : decode cX3_get 28 = .ok (.getfield 22, 3) := by decide +kernel
theorem dX3_get_31 : decode cX3_get 31 = .ok (.iload_n 1, 1) := by decide +kernel
theorem dX3_get_32 : decode cX3_get 32 = .ok (.iaload, 1) := by decide +kernel
theorem dX3_get_33 : decode cX3_get 33 = .ok (.invokevirtual 46, 3) := by decide +kernel
theorem dX3_get_36 : decode cX3_get 36 = .ok (.return_, 1) := by decide +kernel
theorem dX3_isInside_0 : decode cX3_isInside 0 = .ok (.iload_n 1, 1) := by decide +kernel
theorem dX3_isInside_1 : decode cX3_isInside 1 = .ok (.ifCond .lt 43, 3) := by decide +kernel
theorem dX3_isInside_4 : decode cX3_isInside 4 = .ok (.iload_n 1, 1) := by decide +kernel
theorem dX3_isInside_5 : decode cX3_isInside 5 = .ok (.aload_n 0, 1) := by decide +kernel
theorem dX3_isInside_6 : decode cX3_isInside 6 = .ok (.getfield 9, 3) := by decide +kernel
theorem dX3_isInside_9 : decode cX3_isInside 9 = .ok (.arraylength, 1) := by decide +kernel
theorem dX3_isInside_10 : decode cX3_isInside 10 = .ok (.if_icmp .ge 34, 3) := by decide +kernel
theorem dX3_isInside_13 : decode cX3_isInside 13 = .ok (.iload_n 1, 1) := by decide +kernel
theorem dX3_isInside_14 : decode cX3_isInside 14 = .ok (.aload_n 0, 1) := by decide +kernel
theorem dX3_isInside_15 : decode cX3_isInside 15 = .ok (.getfield 15, 3) := by decide +kernel
theorem dX3_isInside_18 : decode cX3_isInside 18 = .ok (.arraylength, 1) := by decide +kernel
theorem dX3_isInside_19 : decode cX3_isInside 19 = .ok (.if_icmp .ge 25, 3) := by decide +kernel
theorem dX3_isInside_22 : decode cX3_isInside 22 = .ok (.iload_n 1, 1) := by decide +kernel
theorem dX3_isInside_23 : decode cX3_isInside 23 = .ok (.aload_n 0, 1) := by decide +kernel
theorem dX3_isInside_24 : decode cX3_isInside 24 = .ok (.getfield 18, 3) := by decide +kernel
theorem dX3_isInside_27 : decode cX3_isInside 27 = .ok (.arraylength, 1) := by decide +kernel
theorem dX3_isInside_28 : decode cX3_isInside 28 = .ok (.if_icmp .ge 16, 3) := by decide +kernel
theorem dX3_isInside_31 : decode cX3_isInside 31 = .ok (.iload_n 1, 1) := by decide +kernel
theorem dX3_isInside_32 : decode cX3_isInside 32 = .ok (.aload_n 0, 1) := by decide +kernel
theorem dX3_isInside_33 : decode cX3_isInside 33 = .ok (.getfield 22, 3) := by decide +kernel
theorem dX3_isInside_36 : decode cX3_isInside 36 = .ok (.arraylength, 1) := by decide +kernel
theorem dX3_isInside_37 : decode cX3_isInside 37 = .ok (.if_icmp .ge 7, 3) := by decide +kernel
theorem dX3_isInside_40 : decode cX3_isInside 40 = .ok (.iconst 1, 1) := by decide +kernel
theorem dX3_isInside_41 : decode cX3_isInside 41 = .ok (.goto 4, 3) := by decide +kernel
theorem dX3_isInside_44 : decode cX3_isInside 44 = .ok (.iconst 0, 1) := by decide +kernel
theorem dX3_isInside_45 : decode cX3_isInside 45 = .ok (.ireturn, 1) := by decide +kernel
theorem dX4_init_0 : decode cX4_init 0 = .ok (.aload_n 0, 1) := by decide +kernel
theorem dX4_init_1 : decode cX4_init 1 = .ok (.invokespecial 3, 3) := by decide +kernel
theorem dX4_init_4 : decode cX4_init 4 = .ok (.aload_n 0, 1) := by decide +kernel
theorem dX4_init_5 : decode cX4_init 5 = .ok (.bipush 24, 2) := by decide +kernel
theorem dX4_init_7 : decode cX4_init 7 = .ok (.newarray .byte, 2) := by decide +kernel
theorem dX4_init_9 : decode cX4_init 9 = .ok (.putfield 9, 3) := by decide +kernel
theorem dX4_init_12 : decode cX4_init 12 = .ok (.aload_n 0, 1) := by decide +kernel
theorem dX4_init_13 : decode cX4_init 13 = .ok (.iconst 0, 1) := by decide +kernel
theorem dX4_init_14 : decode cX4_init 14 = .ok (.putfield 15, 3) := by decide +kernel
theorem dX4_init_17 : decode cX4_init 17 = .ok (.return_, 1) := by decide +kernel
theorem dX4_add_0 : decode cX4_add 0 = .ok (.iload_n 1, 1) := by decide +kernel
theorem dX4_add_1 : decode cX4_add 1 = .ok (.iconst 1, 1) := by decide +kernel
theorem dX4_add_2 : decode cX4_add 2 = .ok (.isub, 1) := by decide +kernel
theorem dX4_add_3 : decode cX4_add 3 = .ok (.istore 4, 2) := by decide +kernel
theorem dX4_add_5 : decode cX4_add 5 = .ok (.iload 4, 2) := by decide +kernel
theorem dX4_add_7 : decode cX4_add 7 = .ok (.ifCond .lt 56, 3) := by decide +kernel
theorem dX4_add_10 : decode cX4_add 10 = .ok (.aload_n 0, 1) := by decide +kernel
theorem dX4_add_11 : decode cX4_add 11 = .ok (.getfield 15, 3) := by decide +kernel
theorem dX4_add_14 : decode cX4_add 14 = .ok (.ifCond .lt 43, 3) := by decide +kernel
theorem dX4_add_17 : decode cX4_add 17 = .ok (.aload_n 0, 1) := by decide +kernel
theorem dX4_add_18 : decode cX4_add 18 = .ok (.getfield 15, 3) := by decide +kernel
theorem dX4_add_21 : decode cX4_add 21 = .ok (.aload_n 0, 1) := by decide +kernel
theorem dX4_add_22 : decode cX4_add 22 = .ok (.getfield 9, 3) := by decide +kernel
theorem dX4_add_25 : decode cX4_add 25 = .ok (.arraylength, 1) := by decide +kernel
theorem dX4_add_26 : decode cX4_add 26 = .ok (.if_icmp .ge 31, 3) := by decide +kernel
theorem dX4_add_29 : decode cX4_add 29 = .ok (.aload_n 0, 1) := by decide +kernel
theorem dX4_add_30 : decode cX4_add 30 = .ok (.getfield 9, 3) := by decide +kernel
theorem dX4_add_33 : decode cX4_add 33 = .ok (.aload_n 0, 1) := by decide +kernel
theorem dX4_add_34 : decode cX4_add 34 = .ok (.getfield 15, 3) := by decide +kernel
theorem dX4_add_37 : decode cX4_add 37 = .ok (.lload_n 2, 1) := by decide +kernel
theorem dX4_add_38 : decode cX4_add 38 = .ok (.bipush 8, 2) := by decide +kernel
theorem dX4_add_40 : decode cX4_add 40 = .ok (.iload 4, 2) := by decide +kernel
theorem dX4_add_42 : decode cX4_add 42 = .ok (.imul, 1) := by decide +kernel
theorem dX4_add_43 : decode cX4_add 43 = .ok (.lushr, 1) := by decide +kernel
theorem dX4_add_44 : decode cX4_add 44 = .ok (.l2i, 1) := by decide +kernel
theorem dX4_add_45 : decode cX4_add 45 = .ok (.i2b, 1) := by decide +kernel
theorem dX4_add_46 : decode cX4_add 46 = .ok (.bastore, 1) := by decide +kernel
theorem dX4_add_47 : decode cX4_add 47 = .ok (.aload_n 0, 1) := by decide +kernel
theorem dX4_add_48 : decode cX4_add 48 = .ok (.dup, 1) := by decide +kernel
theorem dX4_add_49 : decode cX4_add 49 = .ok (.getfield 15, 3) := by decide +kernel
theorem dX4_add_52 : decode cX4_add 52 = .ok (.iconst 1, 1) := by decide +kernel
theorem dX4_add_53 : decode cX4_add 53 = .ok (.iadd, 1) := by decide +kernel
theorem dX4_add_54 : decode cX4_add 54 = .ok (.putfield 15, 3) := by decide +kernel
theorem dX4_add_57 : decode cX4_add 57 = .ok (.iinc 4 (-1), 3) := by decide +kernel
theorem dX4_add_60 : decode cX4_add 60 = .ok (.goto (-55), 3) := by decide +kernel
theorem dX4_add_63 : decode cX4_add 63 = .ok (.return_, 1) := by decide +kernel
theorem dX4_firstFault_0 : decode cX4_firstFault 0 = .ok (.iconst 0, 1) := by decide +kernel
theorem dX4_firstFault_1 : decode cX4_firstFault 1 = .ok (.istore_n 1, 1) := by decide +kernel
theorem dX4_firstFault_2 : decode cX4_firstFault 2 = .ok (.iload_n 1, 1) := by decide +kernel
theorem dX4_firstFault_3 : decode cX4_firstFault 3 = .ok (.aload_n 0, 1) := by decide +kernel
theorem dX4_firstFault_4 : decode cX4_firstFault 4 = .ok (.getfield 15, 3) := by decide +kernel
theorem dX4_firstFault_7 : decode cX4_firstFault 7 = .ok (.if_icmp .ge 19, 3) := by decide +kernel
theorem dX4_firstFault_10 : decode cX4_firstFault 10 = .ok (.aload_n 0, 1) := by decide +kernel
theorem dX4_firstFault_11 : decode cX4_firstFault 11 = .ok (.iload_n 1, 1) := by decide +kernel
theorem dX4_firstFault_12 : decode cX4_firstFault 12 = .ok (.invokevirtual 19, 3) := by decide +kernel
theorem dX4_firstFault_15 : decode cX4_firstFault 15 = .ok (.ifCond .ne 5, 3) := by decide +kernel
theorem dX4_firstFault_18 : decode cX4_firstFault 18 = .ok (.iload_n 1, 1) := by decide +kernel
theorem dX4_firstFault_19 : decode cX4_firstFault 19 = .ok (.ireturn, 1) := by decide +kernel
theorem dX4_firstFault_20 : decode cX4_firstFault 20 = .ok (.iinc 1 1, 3) := by decide +kernel
theorem dX4_firstFault_23 : decode cX4_firstFault 23 = .ok (.goto (-21), 3) := by decide +kernel
theorem dX4_firstFault_26 : decode cX4_firstFault 26 = .ok (.aload_n 0, 1) := by decide +kernel
theorem dX4_firstFault_27 : decode cX4_firstFault 27 = .ok (.getfield 15, 3) := by decide +kernel
theorem dX4_firstFault_30 : decode cX4_firstFault 30 = .ok (.iconst 5, 1) := by decide +kernel
theorem dX4_firstFault_31 : decode cX4_firstFault 31 = .ok (.if_icmp .lt 14, 3) := by decide +kernel
theorem dX4_firstFault_34 : decode cX4_firstFault 34 = .ok (.aload_n 0, 1) := by decide +kernel
theorem dX4_firstFault_35 : decode cX4_firstFault 35 = .ok (.getfield 15, 3) := by decide +kernel
theorem dX4_firstFault_38 : decode cX4_firstFault 38 = .ok (.aload_n 0, 1) := by decide +kernel
theorem dX4_firstFault_39 : decode cX4_firstFault 39 = .ok (.invokevirtual 23, 3) := by decide +kernel
theorem dX4_firstFault_42 : decode cX4_firstFault 42 = .ok (.if_icmp .ge 10, 3) := by decide +kernel
theorem dX4_firstFault_45 : decode cX4_firstFault 45 = .ok (.aload_n 0, 1) := by decide +kernel
theorem dX4_firstFault_46 : decode cX4_firstFault 46 = .ok (.getfield 15, 3) := by decide +kernel
theorem dX4_firstFault_49 : decode cX4_firstFault 49 = .ok (.goto 5, 3) := by decide +kernel
theorem dX4_firstFault_52 : decode cX4_firstFault 52 = .ok (.bipush (-9), 2) := by decide +kernel
theorem dX4_firstFault_54 : decode cX4_firstFault 54 = .ok (.ireturn, 1) := by decide +kernel
theorem dX4_width_0 : decode cX4_width 0 = .ok (.aload_n 0, 1) := by decide +kernel
theorem dX4_width_1 : decode cX4_width 1 = .ok (.iconst 1, 1) := by decide +kernel
theorem dX4_width_2 : decode cX4_width 2 = .ok (.invokevirtual 27, 3) := by decide +kernel
theorem dX4_width_5 : decode cX4_width 5 = .ok (.ireturn, 1) := by decide +kernel
theorem dX4_height_0 : decode cX4_height 0 = .ok (.aload_n 0, 1) := by decide +kernel
theorem dX4_height_1 : decode cX4_height 1 = .ok (.iconst 2, 1) := by decide +kernel
theorem dX4_height_2 : decode cX4_height 2 = .ok (.invokevirtual 27, 3) := by decide +kernel
theorem dX4_height_5 : decode cX4_height 5 = .ok (.ireturn, 1) := by decide +kernel
theorem dX4_last_0 : decode cX4_last 0 = .ok (.aload_n 0, 1) := by decide +kernel
theorem dX4_last_1 : decode cX4_last 1 = .ok (.iconst 3, 1) := by decide +kernel
theorem dX4_last_2 : decode cX4_last 2 = .ok (.invokevirtual 27, 3) := by decide +kernel
theorem dX4_last_5 : decode cX4_last 5 = .ok (.ireturn, 1) := by decide +kernel
theorem dX4_side_0 : decode cX4_side 0 = .ok (.aload_n 0, 1) := by decide +kernel
theorem dX4_side_1 : decode cX4_side 1 = .ok (.iconst 4, 1) := by decide +kernel
theorem dX4_side_2 : decode cX4_side 2 = .ok (.invokevirtual 31, 3) := by decide +kernel
theorem dX4_side_5 : decode cX4_side 5 = .ok (.bipush 98, 2) := by decide +kernel
theorem dX4_side_7 : decode cX4_side 7 = .ok (.if_icmp .ne 7, 3) := by decide +kernel
theorem dX4_side_10 : decode cX4_side 10 = .ok (.iconst 1, 1) := by decide +kernel
theorem dX4_side_11 : decode cX4_side 11 = .ok (.goto 4, 3) := by decide +kernel
theorem dX4_side_14 : decode cX4_side 14 = .ok (.iconst 0, 1) := by decide +kernel
theorem dX4_side_15 : decode cX4_side 15 = .ok (.ireturn, 1) := by decide +kernel
theorem dX4_signOf_0 : decode cX4_signOf 0 = .ok (.ldc 34, 2) := by decide +kernel
theorem dX4_signOf_2 : decode cX4_signOf 2 = .ok (.aload_n 0, 1) := by decide +kernel
theorem dX4_signOf_3 : decode cX4_signOf 3 = .ok (.iconst 5, 1) := by decide +kernel
theorem dX4_signOf_4 : decode cX4_signOf 4 = .ok (.iload_n 1, 1) := by decide +kernel
theorem dX4_signOf_5 : decode cX4_signOf 5 = .ok (.iadd, 1) := by decide +kernel
theorem dX4_signOf_6 : decode cX4_signOf 6 = .ok (.invokevirtual 31, 3) := by decide +kernel
theorem dX4_signOf_9 : decode cX4_signOf 9 = .ok (.i2c, 1) := by decide +kernel
theorem dX4_signOf_10 : decode cX4_signOf 10 = .ok (.invokevirtual 36, 3) := by decide +kernel
theorem dX4_signOf_13 : decode cX4_signOf 13 = .ok (.ireturn, 1) := by decide +kernel
theorem dX4_byteAt_0 : decode cX4_byteAt 0 = .ok (.iload_n 1, 1) := by decide +kernel
theorem dX4_byteAt_1 : decode cX4_byteAt 1 = .ok (.ifCond .lt 25, 3) := by decide +kernel
theorem dX4_byteAt_4 : decode cX4_byteAt 4 = .ok (.iload_n 1, 1) := by decide +kernel
theorem dX4_byteAt_5 : decode cX4_byteAt 5 = .ok (.aload_n 0, 1) := by decide +kernel
theorem dX4_byteAt_6 : decode cX4_byteAt 6 = .ok (.getfield 9, 3) := by decide +kernel
theorem dX4_byteAt_9 : decode cX4_byteAt 9 = .ok (.arraylength, 1) := by decide +kernel
theorem dX4_byteAt_10 : decode cX4_byteAt 10 = .ok (.if_icmp .ge 16, 3) := by decide +kernel
theorem dX4_byteAt_13 : decode cX4_byteAt 13 = .ok (.aload_n 0, 1) := by decide +kernel
theorem dX4_byteAt_14 : decode cX4_byteAt 14 = .ok (.getfield 9, 3) := by decide +kernel
theorem dX4_byteAt_17 : decode cX4_byteAt 17 = .ok (.iload_n 1, 1) := by decide +kernel
theorem dX4_byteAt_18 : decode cX4_byteAt 18 = .ok (.baload, 1) := by decide +kernel
theorem dX4_byteAt_19 : decode cX4_byteAt 19 = .ok (.sipush 255, 3) := by decide +kernel
theorem dX4_byteAt_22 : decode cX4_byteAt 22 = .ok (.iand, 1) := by decide +kernel
theorem dX4_byteAt_23 : decode cX4_byteAt 23 = .ok (.goto 4, 3) := by decide +kernel
theorem dX4_byteAt_26 : decode cX4_byteAt 26 = .ok (.iconst 0, 1) := by decide +kernel
theorem dX4_byteAt_27 : decode cX4_byteAt 27 = .ok (.ireturn, 1) := by decide +kernel
theorem dX4_figure_0 : decode cX4_figure 0 = .ok (.aload_n 0, 1) := by decide +kernel
theorem dX4_figure_1 : decode cX4_figure 1 = .ok (.iload_n 1, 1) := by decide +kernel
theorem dX4_figure_2 : decode cX4_figure 2 = .ok (.invokevirtual 31, 3) := by decide +kernel
theorem dX4_figure_5 : decode cX4_figure 5 = .ok (.bipush 48, 2) := by decide +kernel
theorem dX4_figure_7 : decode cX4_figure 7 = .ok (.isub, 1) := by decide +kernel
theorem dX4_figure_8 : decode cX4_figure 8 = .ok (.ireturn, 1) := by decide +kernel
theorem dX4_end_0 : decode cX4_end 0 = .ok (.iconst 5, 1) := by decide +kernel
theorem dX4_end_1 : decode cX4_end 1 = .ok (.aload_n 0, 1) := by decide +kernel
theorem dX4_end_2 : decode cX4_end 2 = .ok (.invokevirtual 41, 3) := by decide +kernel
theorem dX4_end_5 : decode cX4_end 5 = .ok (.aload_n 0, 1) := by decide +kernel
theorem dX4_end_6 : decode cX4_end 6 = .ok (.invokevirtual 44, 3) := by decide +kernel
theorem dX4_end_9 : decode cX4_end 9 = .ok (.imul, 1) := by decide +kernel
theorem dX4_end_10 : decode cX4_end 10 = .ok (.iadd, 1) := by decide +kernel
theorem dX4_end_11 : decode cX4_end 11 = .ok (.ireturn, 1) := by decide +kernel
theorem dX4_fits_0 : decode cX4_fits 0 = .ok (.aload_n 0, 1) := by decide +kernel
theorem dX4_fits_1 : decode cX4_fits 1 = .ok (.iload_n 1, 1) := by decide +kernel
theorem dX4_fits_2 : decode cX4_fits 2 = .ok (.invokevirtual 31, 3) := by decide +kernel
theorem dX4_fits_5 : decode cX4_fits 5 = .ok (.istore_n 2, 1) := by decide +kernel
theorem dX4_fits_6 : decode cX4_fits 6 = .ok (.iload_n 1, 1) := by decide +kernel
theorem dX4_fits_7 : decode cX4_fits 7 = .ok (.tableswitch 99 0 4 #[33, 45, 45, 63, 81], 33) := by decide +kernel
theorem dX4_fits_40 : decode cX4_fits 40 = .ok (.iload_n 2, 1) := by decide +kernel
theorem dX4_fits_41 : decode cX4_fits 41 = .ok (.bipush 71, 2) := by decide +kernel
theorem dX4_fits_43 : decode cX4_fits 43 = .ok (.if_icmp .ne 7, 3) := by decide +kernel
theorem dX4_fits_46 : decode cX4_fits 46 = .ok (.iconst 1, 1) := by decide +kernel
theorem dX4_fits_47 : decode cX4_fits 47 = .ok (.goto 4, 3) := by decide +kernel
theorem dX4_fits_50 : decode cX4_fits 50 = .ok (.iconst 0, 1) := by decide +kernel
theorem dX4_fits_51 : decode cX4_fits 51 = .ok (.ireturn, 1) := by decide +kernel
theorem dX4_fits_52 : decode cX4_fits 52 = .ok (.iload_n 2, 1) := by decide +kernel
theorem dX4_fits_53 : decode cX4_fits 53 = .ok (.bipush 49, 2) := by decide +kernel
theorem dX4_fits_55 : decode cX4_fits 55 = .ok (.if_icmp .lt 13, 3) := by decide +kernel
theorem dX4_fits_58 : decode cX4_fits 58 = .ok (.iload_n 2, 1) := by decide +kernel
theorem dX4_fits_59 : decode cX4_fits 59 = .ok (.bipush 52, 2) := by decide +kernel
theorem dX4_fits_61 : decode cX4_fits 61 = .ok (.if_icmp .gt 7, 3) := by decide +kernel
theorem dX4_fits_64 : decode cX4_fits 64 = .ok (.iconst 1, 1) := by decide +kernel
theorem dX4_fits_65 : decode cX4_fits 65 = .ok (.goto 4, 3) := by decide +kernel
theorem dX4_fits_68 : decode cX4_fits 68 = .ok (.iconst 0, 1) := by decide +kernel
theorem dX4_fits_69 : decode cX4_fits 69 = .ok (.ireturn, 1) := by decide +kernel
theorem dX4_fits_70 : decode cX4_fits 70 = .ok (.iload_n 2, 1) := by decide +kernel
theorem dX4_fits_71 : decode cX4_fits 71 = .ok (.bipush 48, 2) := by decide +kernel
theorem dX4_fits_73 : decode cX4_fits 73 = .ok (.if_icmp .lt 13, 3) := by decide +kernel
theorem dX4_fits_76 : decode cX4_fits 76 = .ok (.iload_n 2, 1) := by decide +kernel
theorem dX4_fits_77 : decode cX4_fits 77 = .ok (.bipush 57, 2) := by decide +kernel
theorem dX4_fits_79 : decode cX4_fits 79 = .ok (.if_icmp .gt 7, 3) := by decide +kernel
theorem dX4_fits_82 : decode cX4_fits 82 = .ok (.iconst 1, 1) := by decide +kernel
theorem dX4_fits_83 : decode cX4_fits 83 = .ok (.goto 4, 3) := by decide +kernel
theorem dX4_fits_86 : decode cX4_fits 86 = .ok (.iconst 0, 1) := by decide +kernel
theorem dX4_fits_87 : decode cX4_fits 87 = .ok (.ireturn, 1) := by decide +kernel
theorem dX4_fits_88 : decode cX4_fits 88 = .ok (.iload_n 2, 1) := by decide +kernel
theorem dX4_fits_89 : decode cX4_fits 89 = .ok (.bipush 119, 2) := by decide +kernel
theorem dX4_fits_91 : decode cX4_fits 91 = .ok (.if_icmp .eq 9, 3) := by decide +kernel
theorem dX4_fits_94 : decode cX4_fits 94 = .ok (.iload_n 2, 1) := by decide +kernel
theorem dX4_fits_95 : decode cX4_fits 95 = .ok (.bipush 98, 2) := by decide +kernel
theorem dX4_fits_97 : decode cX4_fits 97 = .ok (.if_icmp .ne 7, 3) := by decide +kernel
theorem dX4_fits_100 : decode cX4_fits 100 = .ok (.iconst 1, 1) := by decide +kernel
theorem dX4_fits_101 : decode cX4_fits 101 = .ok (.goto 4, 3) := by decide +kernel
theorem dX4_fits_104 : decode cX4_fits 104 = .ok (.iconst 0, 1) := by decide +kernel
theorem dX4_fits_105 : decode cX4_fits 105 = .ok (.ireturn, 1) := by decide +kernel
theorem dX4_fits_106 : decode cX4_fits 106 = .ok (.iload_n 1, 1) := by decide +kernel
theorem dX4_fits_107 : decode cX4_fits 107 = .ok (.aload_n 0, 1) := by decide +kernel
theorem dX4_fits_108 : decode cX4_fits 108 = .ok (.invokevirtual 23, 3) := by decide +kernel
theorem dX4_fits_111 : decode cX4_fits 111 = .ok (.if_icmp .ge 17, 3) := by decide +kernel
theorem dX4_fits_114 : decode cX4_fits 114 = .ok (.aload_n 0, 1) := by decide +kernel
theorem dX4_fits_115 : decode cX4_fits 115 = .ok (.iload_n 1, 1) := by decide +kernel
theorem dX4_fits_116 : decode cX4_fits 116 = .ok (.iconst 5, 1) := by decide +kernel
theorem dX4_fits_117 : decode cX4_fits 117 = .ok (.isub, 1) := by decide +kernel
theorem dX4_fits_118 : decode cX4_fits 118 = .ok (.invokevirtual 47, 3) := by decide +kernel
theorem dX4_fits_121 : decode cX4_fits 121 = .ok (.ifCond .lt 7, 3) := by decide +kernel
theorem dX4_fits_124 : decode cX4_fits 124 = .ok (.iconst 1, 1) := by decide +kernel
theorem dX4_fits_125 : decode cX4_fits 125 = .ok (.goto 4, 3) := by decide +kernel
theorem dX4_fits_128 : decode cX4_fits 128 = .ok (.iconst 0, 1) := by decide +kernel
theorem dX4_fits_129 : decode cX4_fits 129 = .ok (.ireturn, 1) := by decide +kernel
theorem dJ6_bitCount_0f7a4_0 : decode cJ6_bitCount_0f7a4 0 = .ok (.iload_n 0, 1) := by decide +kernel
theorem dJ6_bitCount_0f7a4_1 : decode cJ6_bitCount_0f7a4 1 = .ok (.iload_n 0, 1) := by decide +kernel
theorem dJ6_bitCount_0f7a4_2 : decode cJ6_bitCount_0f7a4 2 = .ok (.iconst 1, 1) := by decide +kernel
theorem dJ6_bitCount_0f7a4_3 : decode cJ6_bitCount_0f7a4 3 = .ok (.iushr, 1) := by decide +kernel
theorem dJ6_bitCount_0f7a4_4 : decode cJ6_bitCount_0f7a4 4 = .ok (.ldc_w 265, 3) := by decide +kernel
theorem dJ6_bitCount_0f7a4_7 : decode cJ6_bitCount_0f7a4 7 = .ok (.iand, 1) := by decide +kernel
theorem dJ6_bitCount_0f7a4_8 : decode cJ6_bitCount_0f7a4 8 = .ok (.isub, 1) := by decide +kernel
theorem dJ6_bitCount_0f7a4_9 : decode cJ6_bitCount_0f7a4 9 = .ok (.istore_n 0, 1) := by decide +kernel
theorem dJ6_bitCount_0f7a4_10 : decode cJ6_bitCount_0f7a4 10 = .ok (.iload_n 0, 1) := by decide +kernel
theorem dJ6_bitCount_0f7a4_11 : decode cJ6_bitCount_0f7a4 11 = .ok (.ldc_w 266, 3) := by decide +kernel
theorem dJ6_bitCount_0f7a4_14 : decode cJ6_bitCount_0f7a4 14 = .ok (.iand, 1) := by decide +kernel
theorem dJ6_bitCount_0f7a4_15 : decode cJ6_bitCount_0f7a4 15 = .ok (.iload_n 0, 1) := by decide +kernel
theorem dJ6_bitCount_0f7a4_16 : decode cJ6_bitCount_0f7a4 16 = .ok (.iconst 2, 1) := by decide +kernel
theorem dJ6_bitCount_0f7a4_17 : decode cJ6_bitCount_0f7a4 17 = .ok (.iushr, 1) := by decide +kernel
theorem dJ6_bitCount_0f7a4_18 : decode cJ6_bitCount_0f7a4 18 = .ok (.ldc_w 266, 3) := by decide +kernel
theorem dJ6_bitCount_0f7a4_21 : decode cJ6_bitCount_0f7a4 21 = .ok (.iand, 1) := by decide +kernel
theorem dJ6_bitCount_0f7a4_22 : decode cJ6_bitCount_0f7a4 22 = .ok (.iadd, 1) := by decide +kernel
theorem dJ6_bitCount_0f7a4_23 : decode cJ6_bitCount_0f7a4 23 = .ok (.istore_n 0, 1) := by decide +kernel
theorem dJ6_bitCount_0f7a4_24 : decode cJ6_bitCount_0f7a4 24 = .ok (.iload_n 0, 1) := by decide +kernel
theorem dJ6_bitCount_0f7a4_25 : decode cJ6_bitCount_0f7a4 25 = .ok (.iload_n 0, 1) := by decide +kernel
theorem dJ6_bitCount_0f7a4_26 : decode cJ6_bitCount_0f7a4 26 = .ok (.iconst 4, 1) := by decide +kernel
theorem dJ6_bitCount_0f7a4_27 : decode cJ6_bitCount_0f7a4 27 = .ok (.iushr, 1) := by decide +kernel
theorem dJ6_bitCount_0f7a4_28 : decode cJ6_bitCount_0f7a4 28 = .ok (.iadd, 1) := by decide +kernel
theorem dJ6_bitCount_0f7a4_29 : decode cJ6_bitCount_0f7a4 29 = .ok (.ldc_w 267, 3) := by decide +kernel
theorem dJ6_bitCount_0f7a4_32 : decode cJ6_bitCount_0f7a4 32 = .ok (.iand, 1) := by decide +kernel
theorem dJ6_bitCount_0f7a4_33 : decode cJ6_bitCount_0f7a4 33 = .ok (.istore_n 0, 1) := by decide +kernel
theorem dJ6_bitCount_0f7a4_34 : decode cJ6_bitCount_0f7a4 34 = .ok (.iload_n 0, 1) := by decide +kernel
theorem dJ6_bitCount_0f7a4_35 : decode cJ6_bitCount_0f7a4 35 = .ok (.iload_n 0, 1) := by decide +kernel
theorem dJ6_bitCount_0f7a4_36 : decode cJ6_bitCount_0f7a4 36 = .ok (.bipush 8, 2) := by decide +kernel
theorem dJ6_bitCount_0f7a4_38 : decode cJ6_bitCount_0f7a4 38 = .ok (.iushr, 1) := by decide +kernel
theorem dJ6_bitCount_0f7a4_39 : decode cJ6_bitCount_0f7a4 39 = .ok (.iadd, 1) := by decide +kernel
theorem dJ6_bitCount_0f7a4_40 : decode cJ6_bitCount_0f7a4 40 = .ok (.istore_n 0, 1) := by decide +kernel
theorem dJ6_bitCount_0f7a4_41 : decode cJ6_bitCount_0f7a4 41 = .ok (.iload_n 0, 1) := by decide +kernel
theorem dJ6_bitCount_0f7a4_42 : decode cJ6_bitCount_0f7a4 42 = .ok (.iload_n 0, 1) := by decide +kernel
theorem dJ6_bitCount_0f7a4_43 : decode cJ6_bitCount_0f7a4 43 = .ok (.bipush 16, 2) := by decide +kernel
theorem dJ6_bitCount_0f7a4_45 : decode cJ6_bitCount_0f7a4 45 = .ok (.iushr, 1) := by decide +kernel
theorem dJ6_bitCount_0f7a4_46 : decode cJ6_bitCount_0f7a4 46 = .ok (.iadd, 1) := by decide +kernel
theorem dJ6_bitCount_0f7a4_47 : decode cJ6_bitCount_0f7a4 47 = .ok (.istore_n 0, 1) := by decide +kernel
theorem dJ6_bitCount_0f7a4_48 : decode cJ6_bitCount_0f7a4 48 = .ok (.iload_n 0, 1) := by decide +kernel
theorem dJ6_bitCount_0f7a4_49 : decode cJ6_bitCount_0f7a4 49 = .ok (.bipush 63, 2) := by decide +kernel
theorem dJ6_bitCount_0f7a4_51 : decode cJ6_bitCount_0f7a4 51 = .ok (.iand, 1) := by decide +kernel
theorem dJ6_bitCount_0f7a4_52 : decode cJ6_bitCount_0f7a4 52 = .ok (.ireturn, 1) := by decide +kernel
theorem dJ13_bitCount_95d88_0 : decode cJ13_bitCount_95d88 0 = .ok (.lload_n 0, 1) := by decide +kernel
theorem dJ13_bitCount_95d88_1 : decode cJ13_bitCount_95d88 1 = .ok (.lload_n 0, 1) := by decide +kernel
theorem dJ13_bitCount_95d88_2 : decode cJ13_bitCount_95d88 2 = .ok (.iconst 1, 1) := by decide +kernel
theorem dJ13_bitCount_95d88_3 : decode cJ13_bitCount_95d88 3 = .ok (.lushr, 1) := by decide +kernel
theorem dJ13_bitCount_95d88_4 : decode cJ13_bitCount_95d88 4 = .ok (.ldc2_w 314, 3) := by decide +kernel
theorem dJ13_bitCount_95d88_7 : decode cJ13_bitCount_95d88 7 = .ok (.land, 1) := by decide +kernel
theorem dJ13_bitCount_95d88_8 : decode cJ13_bitCount_95d88 8 = .ok (.lsub, 1) := by decide +kernel
theorem dJ13_bitCount_95d88_9 : decode cJ13_bitCount_95d88 9 = .ok (.lstore_n 0, 1) := by decide +kernel
theorem dJ13_bitCount_95d88_10 : decode cJ13_bitCount_95d88 10 = .ok (.lload_n 0, 1) := by decide +kernel
theorem dJ13_bitCount_95d88_11 : decode cJ13_bitCount_95d88 11 = .ok (.ldc2_w 316, 3) := by decide +kernel
theorem dJ13_bitCount_95d88_14 : decode cJ13_bitCount_95d88 14 = .ok (.land, 1) := by decide +kernel
theorem dJ13_bitCount_95d88_15 : decode cJ13_bitCount_95d88 15 = .ok (.lload_n 0, 1) := by decide +kernel
theorem dJ13_bitCount_95d88_16 : decode cJ13_bitCount_95d88 16 = .ok (.iconst 2, 1) := by decide +kernel
theorem dJ13_bitCount_95d88_17 : decode cJ13_bitCount_95d88 17 = .ok (.lushr, 1) := by decide +kernel
theorem dJ13_bitCount_95d88_18 : decode cJ13_bitCount_95d88 18 = .ok (.ldc2_w 316, 3) := by decide +kernel
theorem dJ13_bitCount_95d88_21 : decode cJ13_bitCount_95d88 21 = .ok (.land, 1) := by decide +kernel
theorem dJ13_bitCount_95d88_22 : decode cJ13_bitCount_95d88 22 = .ok (.ladd, 1) := by decide +kernel
theorem dJ13_bitCount_95d88_23 : decode cJ13_bitCount_95d88 23 = .ok (.lstore_n 0, 1) := by decide +kernel
theorem dJ13_bitCount_95d88_24 : decode cJ13_bitCount_95d88 24 = .ok (.lload_n 0, 1) := by decide +kernel
theorem dJ13_bitCount_95d88_25 : decode cJ13_bitCount_95d88 25 = .ok (.lload_n 0, 1) := by decide +kernel
theorem dJ13_bitCount_95d88_26 : decode cJ13_bitCount_95d88 26 = .ok (.iconst 4, 1) := by decide +kernel
theorem dJ13_bitCount_95d88_27 : decode cJ13_bitCount_95d88 27 = .ok (.lushr, 1) := by decide +kernel
theorem dJ13_bitCount_95d88_28 : decode cJ13_bitCount_95d88 28 = .ok (.ladd, 1) := by decide +kernel
theorem dJ13_bitCount_95d88_29 : decode cJ13_bitCount_95d88 29 = .ok (.ldc2_w 318, 3) := by decide +kernel
theorem dJ13_bitCount_95d88_32 : decode cJ13_bitCount_95d88 32 = .ok (.land, 1) := by decide +kernel
theorem dJ13_bitCount_95d88_33 : decode cJ13_bitCount_95d88 33 = .ok (.lstore_n 0, 1) := by decide +kernel
theorem dJ13_bitCount_95d88_34 : decode cJ13_bitCount_95d88 34 = .ok (.lload_n 0, 1) := by decide +kernel
theorem dJ13_bitCount_95d88_35 : decode cJ13_bitCount_95d88 35 = .ok (.lload_n 0, 1) := by decide +kernel
theorem dJ13_bitCount_95d88_36 : decode cJ13_bitCount_95d88 36 = .ok (.bipush 8, 2) := by decide +kernel
theorem dJ13_bitCount_95d88_38 : decode cJ13_bitCount_95d88 38 = .ok (.lushr, 1) := by decide +kernel
theorem dJ13_bitCount_95d88_39 : decode cJ13_bitCount_95d88 39 = .ok (.ladd, 1) := by decide +kernel
theorem dJ13_bitCount_95d88_40 : decode cJ13_bitCount_95d88 40 = .ok (.lstore_n 0, 1) := by decide +kernel
theorem dJ13_bitCount_95d88_41 : decode cJ13_bitCount_95d88 41 = .ok (.lload_n 0, 1) := by decide +kernel
theorem dJ13_bitCount_95d88_42 : decode cJ13_bitCount_95d88 42 = .ok (.lload_n 0, 1) := by decide +kernel
theorem dJ13_bitCount_95d88_43 : decode cJ13_bitCount_95d88 43 = .ok (.bipush 16, 2) := by decide +kernel
theorem dJ13_bitCount_95d88_45 : decode cJ13_bitCount_95d88 45 = .ok (.lushr, 1) := by decide +kernel
theorem dJ13_bitCount_95d88_46 : decode cJ13_bitCount_95d88 46 = .ok (.ladd, 1) := by decide +kernel
theorem dJ13_bitCount_95d88_47 : decode cJ13_bitCount_95d88 47 = .ok (.lstore_n 0, 1) := by decide +kernel
theorem dJ13_bitCount_95d88_48 : decode cJ13_bitCount_95d88 48 = .ok (.lload_n 0, 1) := by decide +kernel
theorem dJ13_bitCount_95d88_49 : decode cJ13_bitCount_95d88 49 = .ok (.lload_n 0, 1) := by decide +kernel
theorem dJ13_bitCount_95d88_50 : decode cJ13_bitCount_95d88 50 = .ok (.bipush 32, 2) := by decide +kernel
theorem dJ13_bitCount_95d88_52 : decode cJ13_bitCount_95d88 52 = .ok (.lushr, 1) := by decide +kernel
theorem dJ13_bitCount_95d88_53 : decode cJ13_bitCount_95d88 53 = .ok (.ladd, 1) := by decide +kernel
theorem dJ13_bitCount_95d88_54 : decode cJ13_bitCount_95d88 54 = .ok (.lstore_n 0, 1) := by decide +kernel
theorem dJ13_bitCount_95d88_55 : decode cJ13_bitCount_95d88 55 = .ok (.lload_n 0, 1) := by decide +kernel
theorem dJ13_bitCount_95d88_56 : decode cJ13_bitCount_95d88 56 = .ok (.l2i, 1) := by decide +kernel
theorem dJ13_bitCount_95d88_57 : decode cJ13_bitCount_95d88 57 = .ok (.bipush 127, 2) := by decide +kernel
theorem dJ13_bitCount_95d88_59 : decode cJ13_bitCount_95d88 59 = .ok (.iand, 1) := by decide +kernel
theorem dJ13_bitCount_95d88_60 : decode cJ13_bitCount_95d88 60 = .ok (.ireturn, 1) := by decide +kernel
theorem dJ0_length_8abf5_0 : decode cJ0_length_8abf5 0 = .ok (.aload_n 0, 1) := by decide +kernel
theorem dJ0_length_8abf5_1 : decode cJ0_length_8abf5 1 = .ok (.getfield 9, 3) := by decide +kernel
theorem dJ0_length_8abf5_4 : decode cJ0_length_8abf5 4 = .ok (.arraylength, 1) := by decide +kernel
theorem dJ0_length_8abf5_5 : decode cJ0_length_8abf5 5 = .ok (.aload_n 0, 1) := by decide +kernel
theorem dJ0_length_8abf5_6 : decode cJ0_length_8abf5 6 = .ok (.invokevirtual 335, 3) := by decide +kernel
theorem dJ0_length_8abf5_9 : decode cJ0_length_8abf5 9 = .ok (.ishr, 1) := by decide +kernel
theorem dJ0_length_8abf5_10 : decode cJ0_length_8abf5 10 = .ok (.ireturn, 1) := by decide +kernel
theorem dJ0_charAt_5068e_0 : decode cJ0_charAt_5068e 0 = .ok (.aload_n 0, 1) := by decide +kernel
theorem dJ0_charAt_5068e_1 : decode cJ0_charAt_5068e 1 = .ok (.invokevirtual 492, 3) := by decide +kernel
theorem dJ0_charAt_5068e_4 : decode cJ0_charAt_5068e 4 = .ok (.ifCond .eq 12, 3) := by decide +kernel
theorem dJ0_charAt_5068e_7 : decode cJ0_charAt_5068e 7 = .ok (.aload_n 0, 1) := by decide +kernel
theorem dJ0_charAt_5068e_8 : decode cJ0_charAt_5068e 8 = .ok (.getfield 9, 3) := by decide +kernel
theorem dJ0_charAt_5068e_11 : decode cJ0_charAt_5068e 11 = .ok (.iload_n 1, 1) := by decide +kernel
theorem dJ0_charAt_5068e_12 : decode cJ0_charAt_5068e 12 = .ok (.invokestatic 495, 3) := by decide +kernel
theorem dJ0_charAt_5068e_15 : decode cJ0_charAt_5068e 15 = .ok (.ireturn, 1) := by decide +kernel
theorem dJ0_charAt_5068e_16 : decode cJ0_charAt_5068e 16 = .ok (.aload_n 0, 1) := by decide +kernel
theorem dJ0_charAt_5068e_17 : decode cJ0_charAt_5068e 17 = .ok (.getfield 9, 3) := by decide +kernel
theorem dJ0_charAt_5068e_20 : decode cJ0_charAt_5068e 20 = .ok (.iload_n 1, 1) := by decide +kernel
theorem dJ0_charAt_5068e_21 : decode cJ0_charAt_5068e 21 = .ok (.invokestatic 498, 3) := by decide +kernel
theorem dJ0_charAt_5068e_24 : decode cJ0_charAt_5068e 24 = .ok (.ireturn, 1) := by decide +kernel
theorem dJ0_indexOf_0f7a4_0 : decode cJ0_indexOf_0f7a4 0 = .ok (.aload_n 0, 1) := by decide +kernel
theorem dJ0_indexOf_0f7a4_1 : decode cJ0_indexOf_0f7a4 1 = .ok (.iload_n 1, 1) := by decide +kernel
theorem dJ0_indexOf_0f7a4_2 : decode cJ0_indexOf_0f7a4 2 = .ok (.iconst 0, 1) := by decide +kernel
theorem dJ0_indexOf_0f7a4_3 : decode cJ0_indexOf_0f7a4 3 = .ok (.invokevirtual 633, 3) := by decide +kernel
theorem dJ0_indexOf_0f7a4_6 : decode cJ0_indexOf_0f7a4 6 = .ok (.ireturn, 1) := by decide +kernel
theorem dJ0_indexOf_7cf53_0 : decode cJ0_indexOf_7cf53 0 = .ok (.aload_n 0, 1) := by decide +kernel
theorem dJ0_indexOf_7cf53_1 : decode cJ0_indexOf_7cf53 1 = .ok (.invokevirtual 492, 3) := by decide +kernel
theorem dJ0_indexOf_7cf53_4 : decode cJ0_indexOf_7cf53 4 = .ok (.ifCond .eq 19, 3) := by decide +kernel
theorem dJ0_indexOf_7cf53_7 : decode cJ0_indexOf_7cf53 7 = .ok (.aload_n 0, 1) := by decide +kernel
theorem dJ0_indexOf_7cf53_8 : decode cJ0_indexOf_7cf53 8 = .ok (.getfield 9, 3) := by decide +kernel
theorem dJ0_indexOf_7cf53_11 : decode cJ0_indexOf_7cf53 11 = .ok (.iload_n 1, 1) := by decide +kernel
theorem dJ0_indexOf_7cf53_12 : decode cJ0_indexOf_7cf53 12 = .ok (.iload_n 2, 1) := by decide +kernel
theorem dJ0_indexOf_7cf53_13 : decode cJ0_indexOf_7cf53 13 = .ok (.aload_n 0, 1) := by decide +kernel
theorem dJ0_indexOf_7cf53_14 : decode cJ0_indexOf_7cf53 14 = .ok (.invokevirtual 505, 3) := by decide +kernel
theorem dJ0_indexOf_7cf53_17 : decode cJ0_indexOf_7cf53 17 = .ok (.invokestatic 637, 3) := by decide +kernel
theorem dJ0_indexOf_7cf53_20 : decode cJ0_indexOf_7cf53 20 = .ok (.goto 16, 3) := by decide +kernel
theorem dJ0_indexOf_7cf53_23 : decode cJ0_indexOf_7cf53 23 = .ok (.aload_n 0, 1) := by decide +kernel
theorem dJ0_indexOf_7cf53_24 : decode cJ0_indexOf_7cf53 24 = .ok (.getfield 9, 3) := by decide +kernel
theorem dJ0_indexOf_7cf53_27 : decode cJ0_indexOf_7cf53 27 = .ok (.iload_n 1, 1) := by decide +kernel
theorem dJ0_indexOf_7cf53_28 : decode cJ0_indexOf_7cf53 28 = .ok (.iload_n 2, 1) := by decide +kernel
theorem dJ0_indexOf_7cf53_29 : decode cJ0_indexOf_7cf53 29 = .ok (.aload_n 0, 1) := by decide +kernel
theorem dJ0_indexOf_7cf53_30 : decode cJ0_indexOf_7cf53 30 = .ok (.invokevirtual 505, 3) := by decide +kernel
theorem dJ0_indexOf_7cf53_33 : decode cJ0_indexOf_7cf53 33 = .ok (.invokestatic 640, 3) := by decide +kernel
theorem dJ0_indexOf_7cf53_36 : decode cJ0_indexOf_7cf53 36 = .ok (.ireturn, 1) := by decide +kernel
theorem dJ0_coder_7d493_0 : decode cJ0_coder_7d493 0 = .ok (.getstatic 38, 3) := by decide +kernel
theorem dJ0_coder_7d493_3 : decode cJ0_coder_7d493 3 = .ok (.ifCond .eq 10, 3) := by decide +kernel
theorem dJ0_coder_7d493_6 : decode cJ0_coder_7d493 6 = .ok (.aload_n 0, 1) := by decide +kernel
theorem dJ0_coder_7d493_7 : decode cJ0_coder_7d493 7 = .ok (.getfield 15, 3) := by decide +kernel
theorem dJ0_coder_7d493_10 : decode cJ0_coder_7d493 10 = .ok (.goto 4, 3) := by decide +kernel
theorem dJ0_coder_7d493_13 : decode cJ0_coder_7d493 13 = .ok (.iconst 1, 1) := by decide +kernel
theorem dJ0_coder_7d493_14 : decode cJ0_coder_7d493 14 = .ok (.ireturn, 1) := by decide +kernel
theorem dJ0_isLatin1_aae02_0 : decode cJ0_isLatin1_aae02 0 = .ok (.getstatic 38, 3) := by decide +kernel
theorem dJ0_isLatin1_aae02_3 : decode cJ0_isLatin1_aae02 3 = .ok (.ifCond .eq 14, 3) := by decide +kernel
theorem dJ0_isLatin1_aae02_6 : decode cJ0_isLatin1_aae02 6 = .ok (.aload_n 0, 1) := by decide +kernel
theorem dJ0_isLatin1_aae02_7 : decode cJ0_isLatin1_aae02 7 = .ok (.getfield 15, 3) := by decide +kernel
theorem dJ0_isLatin1_aae02_10 : decode cJ0_isLatin1_aae02 10 = .ok (.ifCond .ne 7, 3) := by decide +kernel
theorem dJ0_isLatin1_aae02_13 : decode cJ0_isLatin1_aae02 13 = .ok (.iconst 1, 1) := by decide +kernel
theorem dJ0_isLatin1_aae02_14 : decode cJ0_isLatin1_aae02 14 = .ok (.goto 4, 3) := by decide +kernel
theorem dJ0_isLatin1_aae02_17 : decode cJ0_isLatin1_aae02 17 = .ok (.iconst 0, 1) := by decide +kernel
theorem dJ0_isLatin1_aae02_18 : decode cJ0_isLatin1_aae02 18 = .ok (.ireturn, 1) := by decide +kernel
theorem dJ0_checkIndex_df160_0 : decode cJ0_checkIndex_df160 0 = .ok (.iload_n 0, 1) := by decide +kernel
theorem dJ0_checkIndex_df160_1 : decode cJ0_checkIndex_df160 1 = .ok (.iload_n 1, 1) := by decide +kernel
theorem dJ0_checkIndex_df160_2 : decode cJ0_checkIndex_df160 2 = .ok (.getstatic 1053, 3) := by decide +kernel
theorem dJ0_checkIndex_df160_5 : decode cJ0_checkIndex_df160 5 = .ok (.invokestatic 1059, 3) := by decide +kernel
theorem dJ0_checkIndex_df160_8 : decode cJ0_checkIndex_df160 8 = .ok (.pop, 1) := by decide +kernel
theorem dJ0_checkIndex_df160_9 : decode cJ0_checkIndex_df160 9 = .ok (.return_, 1) := by decide +kernel
theorem dJ0_checkBoundsBeginEnd_23922_0 : decode cJ0_checkBoundsBeginEnd_23922 0 = .ok (.iload_n 0, 1) := by decide +kernel
theorem dJ0_checkBoundsBeginEnd_23922_1 : decode cJ0_checkBoundsBeginEnd_23922 1 = .ok (.iload_n 1, 1) := by decide +kernel
theorem dJ0_checkBoundsBeginEnd_23922_2 : decode cJ0_checkBoundsBeginEnd_23922 2 = .ok (.iload_n 2, 1) := by decide +kernel
theorem dJ0_checkBoundsBeginEnd_23922_3 : decode cJ0_checkBoundsBeginEnd_23922 3 = .ok (.getstatic 1053, 3) := by decide +kernel
theorem dJ0_checkBoundsBeginEnd_23922_6 : decode cJ0_checkBoundsBeginEnd_23922 6 = .ok (.invokestatic 1062, 3) := by decide +kernel
theorem dJ0_checkBoundsBeginEnd_23922_9 : decode cJ0_checkBoundsBeginEnd_23922 9 = .ok (.pop, 1) := by decide +kernel
theorem dJ0_checkBoundsBeginEnd_23922_10 : decode cJ0_checkBoundsBeginEnd_23922 10 = .ok (.return_, 1) := by decide +kernel
theorem dJ1_charAt_3b067_0 : decode cJ1_charAt_3b067 0 = .ok (.iload_n 1, 1) := by decide +kernel
theorem dJ1_charAt_3b067_1 : decode cJ1_charAt_3b067 1 = .ok (.aload_n 0, 1) := by decide +kernel
theorem dJ1_charAt_3b067_2 : decode cJ1_charAt_3b067 2 = .ok (.arraylength, 1) := by decide +kernel
theorem dJ1_charAt_3b067_3 : decode cJ1_charAt_3b067 3 = .ok (.invokestatic 9, 3) := by decide +kernel
theorem dJ1_charAt_3b067_6 : decode cJ1_charAt_3b067 6 = .ok (.aload_n 0, 1) := by decide +kernel
theorem dJ1_charAt_3b067_7 : decode cJ1_charAt_3b067 7 = .ok (.iload_n 1, 1) := by decide +kernel
theorem dJ1_charAt_3b067_8 : decode cJ1_charAt_3b067 8 = .ok (.baload, 1) := by decide +kernel
theorem dJ1_charAt_3b067_9 : decode cJ1_charAt_3b067 9 = .ok (.sipush 255, 3) := by decide +kernel
theorem dJ1_charAt_3b067_12 : decode cJ1_charAt_3b067 12 = .ok (.iand, 1) := by decide +kernel
theorem dJ1_charAt_3b067_13 : decode cJ1_charAt_3b067 13 = .ok (.i2c, 1) := by decide +kernel
theorem dJ1_charAt_3b067_14 : decode cJ1_charAt_3b067 14 = .ok (.ireturn, 1) := by decide +kernel
theorem dJ1_canEncode_9a6ad_0 : decode cJ1_canEncode_9a6ad 0 = .ok (.iload_n 0, 1) := by decide +kernel
theorem dJ1_canEncode_9a6ad_1 : decode cJ1_canEncode_9a6ad 1 = .ok (.ifCond .lt 14, 3) := by decide +kernel
theorem dJ1_canEncode_9a6ad_4 : decode cJ1_canEncode_9a6ad 4 = .ok (.iload_n 0, 1) := by decide +kernel
theorem dJ1_canEncode_9a6ad_5 : decode cJ1_canEncode_9a6ad 5 = .ok (.sipush 255, 3) := by decide +kernel
theorem dJ1_canEncode_9a6ad_8 : decode cJ1_canEncode_9a6ad 8 = .ok (.if_icmp .gt 7, 3) := by decide +kernel
theorem dJ1_canEncode_9a6ad_11 : decode cJ1_canEncode_9a6ad 11 = .ok (.iconst 1, 1) := by decide +kernel
theorem dJ1_canEncode_9a6ad_12 : decode cJ1_canEncode_9a6ad 12 = .ok (.goto 4, 3) := by decide +kernel
theorem dJ1_canEncode_9a6ad_15 : decode cJ1_canEncode_9a6ad 15 = .ok (.iconst 0, 1) := by decide +kernel
theorem dJ1_canEncode_9a6ad_16 : decode cJ1_canEncode_9a6ad 16 = .ok (.ireturn, 1) := by decide +kernel
theorem dJ1_indexOf_4cfef_0 : decode cJ1_indexOf_4cfef 0 = .ok (.iload_n 1, 1) := by decide +kernel
theorem dJ1_indexOf_4cfef_1 : decode cJ1_indexOf_4cfef 1 = .ok (.invokestatic 88, 3) := by decide +kernel
theorem dJ1_indexOf_4cfef_4 : decode cJ1_indexOf_4cfef 4 = .ok (.ifCond .ne 5, 3) := by decide +kernel
theorem dJ1_indexOf_4cfef_7 : decode cJ1_indexOf_4cfef 7 = .ok (.iconst (-1), 1) := by decide +kernel
theorem dJ1_indexOf_4cfef_8 : decode cJ1_indexOf_4cfef 8 = .ok (.ireturn, 1) := by decide +kernel
theorem dJ1_indexOf_4cfef_9 : decode cJ1_indexOf_4cfef 9 = .ok (.iload_n 2, 1) := by decide +kernel
theorem dJ1_indexOf_4cfef_10 : decode cJ1_indexOf_4cfef 10 = .ok (.iconst 0, 1) := by decide +kernel
theorem dJ1_indexOf_4cfef_11 : decode cJ1_indexOf_4cfef 11 = .ok (.invokestatic 92, 3) := by decide +kernel
theorem dJ1_indexOf_4cfef_14 : decode cJ1_indexOf_4cfef 14 = .ok (.istore_n 2, 1) := by decide +kernel
theorem dJ1_indexOf_4cfef_15 : decode cJ1_indexOf_4cfef 15 = .ok (.iload_n 3, 1) := by decide +kernel
theorem dJ1_indexOf_4cfef_16 : decode cJ1_indexOf_4cfef 16 = .ok (.aload_n 0, 1) := by decide +kernel
theorem dJ1_indexOf_4cfef_17 : decode cJ1_indexOf_4cfef 17 = .ok (.arraylength, 1) := by decide +kernel
theorem dJ1_indexOf_4cfef_18 : decode cJ1_indexOf_4cfef 18 = .ok (.invokestatic 38, 3) := by decide +kernel
theorem dJ1_indexOf_4cfef_21 : decode cJ1_indexOf_4cfef 21 = .ok (.istore_n 3, 1) := by decide +kernel
theorem dJ1_indexOf_4cfef_22 : decode cJ1_indexOf_4cfef 22 = .ok (.iload_n 2, 1) := by decide +kernel
theorem dJ1_indexOf_4cfef_23 : decode cJ1_indexOf_4cfef 23 = .ok (.iload_n 3, 1) := by decide +kernel
theorem dJ1_indexOf_4cfef_24 : decode cJ1_indexOf_4cfef 24 = .ok (.if_icmp .lt 5, 3) := by decide +kernel
theorem dJ1_indexOf_4cfef_27 : decode cJ1_indexOf_4cfef 27 = .ok (.iconst (-1), 1) := by decide +kernel
theorem dJ1_indexOf_4cfef_28 : decode cJ1_indexOf_4cfef 28 = .ok (.ireturn, 1) := by decide +kernel
theorem dJ1_indexOf_4cfef_29 : decode cJ1_indexOf_4cfef 29 = .ok (.aload_n 0, 1) := by decide +kernel
theorem dJ1_indexOf_4cfef_30 : decode cJ1_indexOf_4cfef 30 = .ok (.iload_n 1, 1) := by decide +kernel
theorem dJ1_indexOf_4cfef_31 : decode cJ1_indexOf_4cfef 31 = .ok (.iload_n 2, 1) := by decide +kernel
theorem dJ1_indexOf_4cfef_32 : decode cJ1_indexOf_4cfef 32 = .ok (.iload_n 3, 1) := by decide +kernel
theorem dJ1_indexOf_4cfef_33 : decode cJ1_indexOf_4cfef 33 = .ok (.invokestatic 95, 3) := by decide +kernel
theorem dJ1_indexOf_4cfef_36 : decode cJ1_indexOf_4cfef 36 = .ok (.ireturn, 1) := by decide +kernel
theorem dJ1_indexOfChar_4cfef_0 : decode cJ1_indexOfChar_4cfef 0 = .ok (.iload_n 1, 1) := by decide +kernel
theorem dJ1_indexOfChar_4cfef_1 : decode cJ1_indexOfChar_4cfef 1 = .ok (.i2b, 1) := by decide +kernel
theorem dJ1_indexOfChar_4cfef_2 : decode cJ1_indexOfChar_4cfef 2 = .ok (.istore 4, 2) := by decide +kernel
theorem dJ1_indexOfChar_4cfef_4 : decode cJ1_indexOfChar_4cfef 4 = .ok (.iload_n 2, 1) := by decide +kernel
theorem dJ1_indexOfChar_4cfef_5 : decode cJ1_indexOfChar_4cfef 5 = .ok (.istore 5, 2) := by decide +kernel
theorem dJ1_indexOfChar_4cfef_7 : decode cJ1_indexOfChar_4cfef 7 = .ok (.iload 5, 2) := by decide +kernel
theorem dJ1_indexOfChar_4cfef_9 : decode cJ1_indexOfChar_4cfef 9 = .ok (.iload_n 3, 1) := by decide +kernel
theorem dJ1_indexOfChar_4cfef_10 : decode cJ1_indexOfChar_4cfef 10 = .ok (.if_icmp .ge 21, 3) := by decide +kernel
theorem dJ1_indexOfChar_4cfef_13 : decode cJ1_indexOfChar_4cfef 13 = .ok (.aload_n 0, 1) := by decide +kernel
theorem dJ1_indexOfChar_4cfef_14 : decode cJ1_indexOfChar_4cfef 14 = .ok (.iload 5, 2) := by decide +kernel
theorem dJ1_indexOfChar_4cfef_16 : decode cJ1_indexOfChar_4cfef 16 = .ok (.baload, 1) := by decide +kernel
theorem dJ1_indexOfChar_4cfef_17 : decode cJ1_indexOfChar_4cfef 17 = .ok (.iload 4, 2) := by decide +kernel
theorem dJ1_indexOfChar_4cfef_19 : decode cJ1_indexOfChar_4cfef 19 = .ok (.if_icmp .ne 6, 3) := by decide +kernel
theorem dJ1_indexOfChar_4cfef_22 : decode cJ1_indexOfChar_4cfef 22 = .ok (.iload 5, 2) := by decide +kernel
theorem dJ1_indexOfChar_4cfef_24 : decode cJ1_indexOfChar_4cfef 24 = .ok (.ireturn, 1) := by decide +kernel
theorem dJ1_indexOfChar_4cfef_25 : decode cJ1_indexOfChar_4cfef 25 = .ok (.iinc 5 1, 3) := by decide +kernel
theorem dJ1_indexOfChar_4cfef_28 : decode cJ1_indexOfChar_4cfef 28 = .ok (.goto (-21), 3) := by decide +kernel
theorem dJ1_indexOfChar_4cfef_31 : decode cJ1_indexOfChar_4cfef 31 = .ok (.iconst (-1), 1) := by decide +kernel
theorem dJ1_indexOfChar_4cfef_32 : decode cJ1_indexOfChar_4cfef 32 = .ok (.ireturn, 1) := by decide +kernel
theorem dJ3_checkIndex_8e157_0 : decode cJ3_checkIndex_8e157 0 = .ok (.iload_n 0, 1) := by decide +kernel
theorem dJ3_checkIndex_8e157_1 : decode cJ3_checkIndex_8e157 1 = .ok (.ifCond .lt 8, 3) := by decide +kernel
theorem dJ3_checkIndex_8e157_4 : decode cJ3_checkIndex_8e157 4 = .ok (.iload_n 0, 1) := by decide +kernel
theorem dJ3_checkIndex_8e157_5 : decode cJ3_checkIndex_8e157 5 = .ok (.iload_n 1, 1) := by decide +kernel
theorem dJ3_checkIndex_8e157_6 : decode cJ3_checkIndex_8e157 6 = .ok (.if_icmp .lt 10, 3) := by decide +kernel
theorem dJ3_checkIndex_8e157_9 : decode cJ3_checkIndex_8e157 9 = .ok (.aload_n 2, 1) := by decide +kernel
theorem dJ3_checkIndex_8e157_10 : decode cJ3_checkIndex_8e157 10 = .ok (.iload_n 0, 1) := by decide +kernel
theorem dJ3_checkIndex_8e157_11 : decode cJ3_checkIndex_8e157 11 = .ok (.iload_n 1, 1) := by decide +kernel
theorem dJ3_checkIndex_8e157_12 : decode cJ3_checkIndex_8e157 12 = .ok (.invokestatic 95, 3) := by decide +kernel
theorem dJ3_checkIndex_8e157_15 : decode cJ3_checkIndex_8e157 15 = .ok (.athrow, 1) := by decide +kernel
theorem dJ3_checkIndex_8e157_16 : decode cJ3_checkIndex_8e157 16 = .ok (.iload_n 0, 1) := by decide +kernel
theorem dJ3_checkIndex_8e157_17 : decode cJ3_checkIndex_8e157 17 = .ok (.ireturn, 1) := by decide +kernel
theorem dJ3_checkFromToIndex_8c36e_0 : decode cJ3_checkFromToIndex_8c36e 0 = .ok (.iload_n 0, 1) := by decide +kernel
theorem dJ3_checkFromToIndex_8c36e_1 : decode cJ3_checkFromToIndex_8c36e 1 = .ok (.ifCond .lt 13, 3) := by decide +kernel
theorem dJ3_checkFromToIndex_8c36e_4 : decode cJ3_checkFromToIndex_8c36e 4 = .ok (.iload_n 0, 1) := by decide +kernel
theorem dJ3_checkFromToIndex_8c36e_5 : decode cJ3_checkFromToIndex_8c36e 5 = .ok (.iload_n 1, 1) := by decide +kernel
theorem dJ3_checkFromToIndex_8c36e_6 : decode cJ3_checkFromToIndex_8c36e 6 = .ok (.if_icmp .gt 8, 3) := by decide +kernel
theorem dJ3_checkFromToIndex_8c36e_9 : decode cJ3_checkFromToIndex_8c36e 9 = .ok (.iload_n 1, 1) := by decide +kernel
theorem dJ3_checkFromToIndex_8c36e_10 : decode cJ3_checkFromToIndex_8c36e 10 = .ok (.iload_n 2, 1) := by decide +kernel
theorem dJ3_checkFromToIndex_8c36e_11 : decode cJ3_checkFromToIndex_8c36e 11 = .ok (.if_icmp .le 11, 3) := by decide +kernel
theorem dJ3_checkFromToIndex_8c36e_14 : decode cJ3_checkFromToIndex_8c36e 14 = .ok (.aload_n 3, 1) := by decide +kernel
theorem dJ3_checkFromToIndex_8c36e_15 : decode cJ3_checkFromToIndex_8c36e 15 = .ok (.iload_n 0, 1) := by decide +kernel
theorem dJ3_checkFromToIndex_8c36e_16 : decode cJ3_checkFromToIndex_8c36e 16 = .ok (.iload_n 1, 1) := by decide +kernel
theorem dJ3_checkFromToIndex_8c36e_17 : decode cJ3_checkFromToIndex_8c36e 17 = .ok (.iload_n 2, 1) := by decide +kernel
theorem dJ3_checkFromToIndex_8c36e_18 : decode cJ3_checkFromToIndex_8c36e 18 = .ok (.invokestatic 99, 3) := by decide +kernel
theorem dJ3_checkFromToIndex_8c36e_21 : decode cJ3_checkFromToIndex_8c36e 21 = .ok (.athrow, 1) := by decide +kernel
theorem dJ3_checkFromToIndex_8c36e_22 : decode cJ3_checkFromToIndex_8c36e 22 = .ok (.iload_n 0, 1) := by decide +kernel
theorem dJ3_checkFromToIndex_8c36e_23 : decode cJ3_checkFromToIndex_8c36e 23 = .ok (.ireturn, 1) := by decide +kernel
