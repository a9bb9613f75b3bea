theorem dX5_init_0 : decode cX5_init 0 = .ok (.aload_n 0, 1) := by decide +kernel
theorem dX5_init_1 : decode cX5_init 1 = .ok (.invokespecial 3, 3) := by decide +kernel
theorem dX5_init_4 : decode cX5_init 4 = .ok (.aload_n 0, 1) := by decide +kernel
theorem dX5_init_5 : decode cX5_init 5 = .ok (.new 9, 3) := by decide +kernel
theorem dX5_init_8 : decode cX5_init 8 = .ok (.dup, 1) := by decide +kernel
theorem dX5_init_9 : decode cX5_init 9 = .ok (.invokespecial 11, 3) := by decide +kernel
theorem dX5_init_12 : decode cX5_init 12 = .ok (.putfield 12, 3) := by decide +kernel
theorem dX5_init_15 : decode cX5_init 15 = .ok (.aload_n 0, 1) := by decide +kernel
theorem dX5_init_16 : decode cX5_init 16 = .ok (.new 16, 3) := by decide +kernel
theorem dX5_init_19 : decode cX5_init 19 = .ok (.dup, 1) := by decide +kernel
theorem dX5_init_20 : decode cX5_init 20 = .ok (.invokespecial 18, 3) := by decide +kernel
theorem dX5_init_23 : decode cX5_init 23 = .ok (.putfield 19, 3) := by decide +kernel
theorem dX5_init_26 : decode cX5_init 26 = .ok (.aload_n 0, 1) := by decide +kernel
theorem dX5_init_27 : decode cX5_init 27 = .ok (.new 23, 3) := by decide +kernel
theorem dX5_init_30 : decode cX5_init 30 = .ok (.dup, 1) := by decide +kernel
theorem dX5_init_31 : decode cX5_init 31 = .ok (.new 23, 3) := by decide +kernel
theorem dX5_init_34 : decode cX5_init 34 = .ok (.dup, 1) := by decide +kernel
theorem dX5_init_35 : decode cX5_init 35 = .ok (.new 23, 3) := by decide +kernel
theorem dX5_init_38 : decode cX5_init 38 = .ok (.dup, 1) := by decide +kernel
theorem dX5_init_39 : decode cX5_init 39 = .ok (.aconst_null, 1) := by decide +kernel
theorem dX5_init_40 : decode cX5_init 40 = .ok (.invokespecial 25, 3) := by decide +kernel
theorem dX5_init_43 : decode cX5_init 43 = .ok (.invokespecial 25, 3) := by decide +kernel
theorem dX5_init_46 : decode cX5_init 46 = .ok (.invokespecial 25, 3) := by decide +kernel
theorem dX5_init_49 : decode cX5_init 49 = .ok (.putfield 28, 3) := by decide +kernel
theorem dX5_init_52 : decode cX5_init 52 = .ok (.aload_n 0, 1) := by decide +kernel
theorem dX5_init_53 : decode cX5_init 53 = .ok (.new 23, 3) := by decide +kernel
theorem dX5_init_56 : decode cX5_init 56 = .ok (.dup, 1) := by decide +kernel
theorem dX5_init_57 : decode cX5_init 57 = .ok (.aload_n 0, 1) := by decide +kernel
theorem dX5_init_58 : decode cX5_init 58 = .ok (.getfield 28, 3) := by decide +kernel
theorem dX5_init_61 : decode cX5_init 61 = .ok (.invokespecial 25, 3) := by decide +kernel
theorem dX5_init_64 : decode cX5_init 64 = .ok (.putfield 32, 3) := by decide +kernel
theorem dX5_init_67 : decode cX5_init 67 = .ok (.aload_n 0, 1) := by decide +kernel
theorem dX5_init_68 : decode cX5_init 68 = .ok (.new 23, 3) := by decide +kernel
theorem dX5_init_71 : decode cX5_init 71 = .ok (.dup, 1) := by decide +kernel
theorem dX5_init_72 : decode cX5_init 72 = .ok (.aconst_null, 1) := by decide +kernel
theorem dX5_init_73 : decode cX5_init 73 = .ok (.invokespecial 25, 3) := by decide +kernel
theorem dX5_init_76 : decode cX5_init 76 = .ok (.putfield 35, 3) := by decide +kernel
theorem dX5_init_79 : decode cX5_init 79 = .ok (.aload_n 0, 1) := by decide +kernel
theorem dX5_init_80 : decode cX5_init 80 = .ok (.new 38, 3) := by decide +kernel
theorem dX5_init_83 : decode cX5_init 83 = .ok (.dup, 1) := by decide +kernel
theorem dX5_init_84 : decode cX5_init 84 = .ok (.invokespecial 40, 3) := by decide +kernel
theorem dX5_init_87 : decode cX5_init 87 = .ok (.putfield 41, 3) := by decide +kernel
theorem dX5_init_90 : decode cX5_init 90 = .ok (.aload_n 0, 1) := by decide +kernel
theorem dX5_init_91 : decode cX5_init 91 = .ok (.new 45, 3) := by decide +kernel
theorem dX5_init_94 : decode cX5_init 94 = .ok (.dup, 1) := by decide +kernel
theorem dX5_init_95 : decode cX5_init 95 = .ok (.iconst 2, 1) := by decide +kernel
theorem dX5_init_96 : decode cX5_init 96 = .ok (.invokespecial 47, 3) := by decide +kernel
theorem dX5_init_99 : decode cX5_init 99 = .ok (.putfield 50, 3) := by decide +kernel
theorem dX5_init_102 : decode cX5_init 102 = .ok (.aload_n 0, 1) := by decide +kernel
theorem dX5_init_103 : decode cX5_init 103 = .ok (.lconst 0, 1) := by decide +kernel
theorem dX5_init_104 : decode cX5_init 104 = .ok (.putfield 54, 3) := by decide +kernel
theorem dX5_init_107 : decode cX5_init 107 = .ok (.aload_n 0, 1) := by decide +kernel
theorem dX5_init_108 : decode cX5_init 108 = .ok (.getfield 19, 3) := by decide +kernel
theorem dX5_init_111 : decode cX5_init 111 = .ok (.iconst 1, 1) := by decide +kernel
theorem dX5_init_112 : decode cX5_init 112 = .ok (.iconst 1, 1) := by decide +kernel
theorem dX5_init_113 : decode cX5_init 113 = .ok (.iconst 0, 1) := by decide +kernel
theorem dX5_init_114 : decode cX5_init 114 = .ok (.invokevirtual 58, 3) := by decide +kernel
theorem dX5_init_117 : decode cX5_init 117 = .ok (.return_, 1) := by decide +kernel
theorem dX5_write_0 : decode cX5_write 0 = .ok (.iload_n 1, 1) := by decide +kernel
theorem dX5_write_1 : decode cX5_write 1 = .ok (.iconst 1, 1) := by decide +kernel
theorem dX5_write_2 : decode cX5_write 2 = .ok (.if_icmp .lt 9, 3) := by decide +kernel
theorem dX5_write_5 : decode cX5_write 5 = .ok (.iload_n 1, 1) := by decide +kernel
theorem dX5_write_6 : decode cX5_write 6 = .ok (.bipush 8, 2) := by decide +kernel
theorem dX5_write_8 : decode cX5_write 8 = .ok (.if_icmp .le 6, 3) := by decide +kernel
theorem dX5_write_11 : decode cX5_write 11 = .ok (.bipush (-2), 2) := by decide +kernel
theorem dX5_write_13 : decode cX5_write 13 = .ok (.ireturn, 1) := by decide +kernel
theorem dX5_write_14 : decode cX5_write 14 = .ok (.aload_n 0, 1) := by decide +kernel
theorem dX5_write_15 : decode cX5_write 15 = .ok (.getfield 12, 3) := by decide +kernel
theorem dX5_write_18 : decode cX5_write 18 = .ok (.getfield 62, 3) := by decide +kernel
theorem dX5_write_21 : decode cX5_write 21 = .ok (.iload_n 1, 1) := by decide +kernel
theorem dX5_write_22 : decode cX5_write 22 = .ok (.iadd, 1) := by decide +kernel
theorem dX5_write_23 : decode cX5_write 23 = .ok (.bipush 24, 2) := by decide +kernel
theorem dX5_write_25 : decode cX5_write 25 = .ok (.if_icmp .le 6, 3) := by decide +kernel
theorem dX5_write_28 : decode cX5_write 28 = .ok (.bipush (-4), 2) := by decide +kernel
theorem dX5_write_30 : decode cX5_write 30 = .ok (.ireturn, 1) := by decide +kernel
theorem dX5_write_31 : decode cX5_write 31 = .ok (.aload_n 0, 1) := by decide +kernel
theorem dX5_write_32 : decode cX5_write 32 = .ok (.getfield 12, 3) := by decide +kernel
theorem dX5_write_35 : decode cX5_write 35 = .ok (.iload_n 1, 1) := by decide +kernel
theorem dX5_write_36 : decode cX5_write 36 = .ok (.lload_n 2, 1) := by decide +kernel
theorem dX5_write_37 : decode cX5_write 37 = .ok (.invokevirtual 66, 3) := by decide +kernel
theorem dX5_write_40 : decode cX5_write 40 = .ok (.aload_n 0, 1) := by decide +kernel
theorem dX5_write_41 : decode cX5_write 41 = .ok (.getfield 12, 3) := by decide +kernel
theorem dX5_write_44 : decode cX5_write 44 = .ok (.getfield 62, 3) := by decide +kernel
theorem dX5_write_47 : decode cX5_write 47 = .ok (.ireturn, 1) := by decide +kernel
theorem dX5_wipe_0 : decode cX5_wipe 0 = .ok (.aload_n 0, 1) := by decide +kernel
theorem dX5_wipe_1 : decode cX5_wipe 1 = .ok (.getfield 12, 3) := by decide +kernel
theorem dX5_wipe_4 : decode cX5_wipe 4 = .ok (.getfield 62, 3) := by decide +kernel
theorem dX5_wipe_7 : decode cX5_wipe 7 = .ok (.istore_n 1, 1) := by decide +kernel
theorem dX5_wipe_8 : decode cX5_wipe 8 = .ok (.aload_n 0, 1) := by decide +kernel
theorem dX5_wipe_9 : decode cX5_wipe 9 = .ok (.getfield 12, 3) := by decide +kernel
theorem dX5_wipe_12 : decode cX5_wipe 12 = .ok (.iconst 0, 1) := by decide +kernel
theorem dX5_wipe_13 : decode cX5_wipe 13 = .ok (.putfield 62, 3) := by decide +kernel
theorem dX5_wipe_16 : decode cX5_wipe 16 = .ok (.iload_n 1, 1) := by decide +kernel
theorem dX5_wipe_17 : decode cX5_wipe 17 = .ok (.ireturn, 1) := by decide +kernel
theorem dX5_fault_0 : decode cX5_fault 0 = .ok (.aload_n 0, 1) := by decide +kernel
theorem dX5_fault_1 : decode cX5_fault 1 = .ok (.getfield 12, 3) := by decide +kernel
theorem dX5_fault_4 : decode cX5_fault 4 = .ok (.invokevirtual 70, 3) := by decide +kernel
theorem dX5_fault_7 : decode cX5_fault 7 = .ok (.ireturn, 1) := by decide +kernel
theorem dX5_board_0 : decode cX5_board 0 = .ok (.aload_n 0, 1) := by decide +kernel
theorem dX5_board_1 : decode cX5_board 1 = .ok (.getfield 12, 3) := by decide +kernel
theorem dX5_board_4 : decode cX5_board 4 = .ok (.invokevirtual 70, 3) := by decide +kernel
theorem dX5_board_7 : decode cX5_board 7 = .ok (.bipush (-9), 2) := by decide +kernel
theorem dX5_board_9 : decode cX5_board 9 = .ok (.if_icmp .eq 6, 3) := by decide +kernel
theorem dX5_board_12 : decode cX5_board 12 = .ok (.bipush (-3), 2) := by decide +kernel
theorem dX5_board_14 : decode cX5_board 14 = .ok (.ireturn, 1) := by decide +kernel
theorem dX5_board_15 : decode cX5_board 15 = .ok (.aload_n 0, 1) := by decide +kernel
theorem dX5_board_16 : decode cX5_board 16 = .ok (.getfield 19, 3) := by decide +kernel
theorem dX5_board_19 : decode cX5_board 19 = .ok (.aload_n 0, 1) := by decide +kernel
theorem dX5_board_20 : decode cX5_board 20 = .ok (.getfield 12, 3) := by decide +kernel
theorem dX5_board_23 : decode cX5_board 23 = .ok (.invokevirtual 74, 3) := by decide +kernel
theorem dX5_board_26 : decode cX5_board 26 = .ok (.aload_n 0, 1) := by decide +kernel
theorem dX5_board_27 : decode cX5_board 27 = .ok (.getfield 12, 3) := by decide +kernel
theorem dX5_board_30 : decode cX5_board 30 = .ok (.invokevirtual 77, 3) := by decide +kernel
theorem dX5_board_33 : decode cX5_board 33 = .ok (.aload_n 0, 1) := by decide +kernel
theorem dX5_board_34 : decode cX5_board 34 = .ok (.getfield 12, 3) := by decide +kernel
theorem dX5_board_37 : decode cX5_board 37 = .ok (.invokevirtual 80, 3) := by decide +kernel
theorem dX5_board_40 : decode cX5_board 40 = .ok (.invokevirtual 58, 3) := by decide +kernel
theorem dX5_board_43 : decode cX5_board 43 = .ok (.aload_n 0, 1) := by decide +kernel
theorem dX5_board_44 : decode cX5_board 44 = .ok (.getfield 32, 3) := by decide +kernel
theorem dX5_board_47 : decode cX5_board 47 = .ok (.invokevirtual 83, 3) := by decide +kernel
theorem dX5_board_50 : decode cX5_board 50 = .ok (.iconst 0, 1) := by decide +kernel
theorem dX5_board_51 : decode cX5_board 51 = .ok (.istore_n 1, 1) := by decide +kernel
theorem dX5_board_52 : decode cX5_board 52 = .ok (.iload_n 1, 1) := by decide +kernel
theorem dX5_board_53 : decode cX5_board 53 = .ok (.aload_n 0, 1) := by decide +kernel
theorem dX5_board_54 : decode cX5_board 54 = .ok (.getfield 19, 3) := by decide +kernel
theorem dX5_board_57 : decode cX5_board 57 = .ok (.getfield 86, 3) := by decide +kernel
theorem dX5_board_60 : decode cX5_board 60 = .ok (.if_icmp .ge 25, 3) := by decide +kernel
theorem dX5_board_63 : decode cX5_board 63 = .ok (.aload_n 0, 1) := by decide +kernel
theorem dX5_board_64 : decode cX5_board 64 = .ok (.getfield 32, 3) := by decide +kernel
theorem dX5_board_67 : decode cX5_board 67 = .ok (.iload_n 1, 1) := by decide +kernel
theorem dX5_board_68 : decode cX5_board 68 = .ok (.aload_n 0, 1) := by decide +kernel
theorem dX5_board_69 : decode cX5_board 69 = .ok (.getfield 12, 3) := by decide +kernel
theorem dX5_board_72 : decode cX5_board 72 = .ok (.iload_n 1, 1) := by decide +kernel
theorem dX5_board_73 : decode cX5_board 73 = .ok (.invokevirtual 89, 3) := by decide +kernel
theorem dX5_board_76 : decode cX5_board 76 = .ok (.invokevirtual 93, 3) := by decide +kernel
theorem dX5_board_79 : decode cX5_board 79 = .ok (.iinc 1 1, 3) := by decide +kernel
theorem dX5_board_82 : decode cX5_board 82 = .ok (.goto (-30), 3) := by decide +kernel
theorem dX5_board_85 : decode cX5_board 85 = .ok (.aload_n 0, 1) := by decide +kernel
theorem dX5_board_86 : decode cX5_board 86 = .ok (.getfield 32, 3) := by decide +kernel
theorem dX5_board_89 : decode cX5_board 89 = .ok (.aload_n 0, 1) := by decide +kernel
theorem dX5_board_90 : decode cX5_board 90 = .ok (.getfield 12, 3) := by decide +kernel
theorem dX5_board_93 : decode cX5_board 93 = .ok (.invokevirtual 97, 3) := by decide +kernel
theorem dX5_board_96 : decode cX5_board 96 = .ok (.putfield 100, 3) := by decide +kernel
theorem dX5_board_99 : decode cX5_board 99 = .ok (.aload_n 0, 1) := by decide +kernel
theorem dX5_board_100 : decode cX5_board 100 = .ok (.getfield 41, 3) := by decide +kernel
theorem dX5_board_103 : decode cX5_board 103 = .ok (.invokevirtual 103, 3) := by decide +kernel
theorem dX5_board_106 : decode cX5_board 106 = .ok (.aload_n 0, 1) := by decide +kernel
theorem dX5_board_107 : decode cX5_board 107 = .ok (.getfield 50, 3) := by decide +kernel
theorem dX5_board_110 : decode cX5_board 110 = .ok (.invokevirtual 104, 3) := by decide +kernel
theorem dX5_board_113 : decode cX5_board 113 = .ok (.aload_n 0, 1) := by decide +kernel
theorem dX5_board_114 : decode cX5_board 114 = .ok (.getfield 19, 3) := by decide +kernel
theorem dX5_board_117 : decode cX5_board 117 = .ok (.getfield 86, 3) := by decide +kernel
theorem dX5_board_120 : decode cX5_board 120 = .ok (.ireturn, 1) := by decide +kernel
theorem dX5_cell_0 : decode cX5_cell 0 = .ok (.aload_n 0, 1) := by decide +kernel
theorem dX5_cell_1 : decode cX5_cell 1 = .ok (.iload_n 1, 1) := by decide +kernel
theorem dX5_cell_2 : decode cX5_cell 2 = .ok (.invokevirtual 105, 3) := by decide +kernel
theorem dX5_cell_5 : decode cX5_cell 5 = .ok (.ifCond .eq 17, 3) := by decide +kernel
theorem dX5_cell_8 : decode cX5_cell 8 = .ok (.aload_n 0, 1) := by decide +kernel
theorem dX5_cell_9 : decode cX5_cell 9 = .ok (.getfield 32, 3) := by decide +kernel
theorem dX5_cell_12 : decode cX5_cell 12 = .ok (.iload_n 1, 1) := by decide +kernel
theorem dX5_cell_13 : decode cX5_cell 13 = .ok (.invokevirtual 109, 3) := by decide +kernel
theorem dX5_cell_16 : decode cX5_cell 16 = .ok (.invokestatic 112, 3) := by decide +kernel
theorem dX5_cell_19 : decode cX5_cell 19 = .ok (.goto 4, 3) := by decide +kernel
theorem dX5_cell_22 : decode cX5_cell 22 = .ok (.iconst (-1), 1) := by decide +kernel
theorem dX5_cell_23 : decode cX5_cell 23 = .ok (.ireturn, 1) := by decide +kernel
theorem dX5_gone_0 : decode cX5_gone 0 = .ok (.aload_n 0, 1) := by decide +kernel
theorem dX5_gone_1 : decode cX5_gone 1 = .ok (.iload_n 1, 1) := by decide +kernel
theorem dX5_gone_2 : decode cX5_gone 2 = .ok (.invokevirtual 105, 3) := by decide +kernel
theorem dX5_gone_5 : decode cX5_gone 5 = .ok (.ifCond .ne 5, 3) := by decide +kernel
theorem dX5_gone_8 : decode cX5_gone 8 = .ok (.iconst (-1), 1) := by decide +kernel
theorem dX5_gone_9 : decode cX5_gone 9 = .ok (.ireturn, 1) := by decide +kernel
theorem dX5_gone_10 : decode cX5_gone 10 = .ok (.aload_n 0, 1) := by decide +kernel
theorem dX5_gone_11 : decode cX5_gone 11 = .ok (.getfield 32, 3) := by decide +kernel
theorem dX5_gone_14 : decode cX5_gone 14 = .ok (.getfield 115, 3) := by decide +kernel
theorem dX5_gone_17 : decode cX5_gone 17 = .ok (.iload_n 1, 1) := by decide +kernel
theorem dX5_gone_18 : decode cX5_gone 18 = .ok (.invokestatic 118, 3) := by decide +kernel
theorem dX5_gone_21 : decode cX5_gone 21 = .ok (.ifCond .eq 14, 3) := by decide +kernel
theorem dX5_gone_24 : decode cX5_gone 24 = .ok (.aload_n 0, 1) := by decide +kernel
theorem dX5_gone_25 : decode cX5_gone 25 = .ok (.getfield 32, 3) := by decide +kernel
theorem dX5_gone_28 : decode cX5_gone 28 = .ok (.iload_n 1, 1) := by decide +kernel
theorem dX5_gone_29 : decode cX5_gone 29 = .ok (.invokevirtual 122, 3) := by decide +kernel
theorem dX5_gone_32 : decode cX5_gone 32 = .ok (.goto 5, 3) := by decide +kernel
theorem dX5_gone_35 : decode cX5_gone 35 = .ok (.bipush (-3), 2) := by decide +kernel
theorem dX5_gone_37 : decode cX5_gone 37 = .ok (.ireturn, 1) := by decide +kernel
theorem dX5_aims_0 : decode cX5_aims 0 = .ok (.aload_n 0, 1) := by decide +kernel
theorem dX5_aims_1 : decode cX5_aims 1 = .ok (.iload_n 1, 1) := by decide +kernel
theorem dX5_aims_2 : decode cX5_aims 2 = .ok (.invokevirtual 105, 3) := by decide +kernel
theorem dX5_aims_5 : decode cX5_aims 5 = .ok (.ifCond .eq 29, 3) := by decide +kernel
theorem dX5_aims_8 : decode cX5_aims 8 = .ok (.aload_n 0, 1) := by decide +kernel
theorem dX5_aims_9 : decode cX5_aims 9 = .ok (.getfield 19, 3) := by decide +kernel
theorem dX5_aims_12 : decode cX5_aims 12 = .ok (.aload_n 0, 1) := by decide +kernel
theorem dX5_aims_13 : decode cX5_aims 13 = .ok (.getfield 32, 3) := by decide +kernel
theorem dX5_aims_16 : decode cX5_aims 16 = .ok (.iload_n 1, 1) := by decide +kernel
theorem dX5_aims_17 : decode cX5_aims 17 = .ok (.invokevirtual 109, 3) := by decide +kernel
theorem dX5_aims_20 : decode cX5_aims 20 = .ok (.iload_n 1, 1) := by decide +kernel
theorem dX5_aims_21 : decode cX5_aims 21 = .ok (.aload_n 0, 1) := by decide +kernel
theorem dX5_aims_22 : decode cX5_aims 22 = .ok (.getfield 32, 3) := by decide +kernel
theorem dX5_aims_25 : decode cX5_aims 25 = .ok (.invokevirtual 125, 3) := by decide +kernel
theorem dX5_aims_28 : decode cX5_aims 28 = .ok (.invokevirtual 128, 3) := by decide +kernel
theorem dX5_aims_31 : decode cX5_aims 31 = .ok (.goto 4, 3) := by decide +kernel
theorem dX5_aims_34 : decode cX5_aims 34 = .ok (.iconst (-1), 1) := by decide +kernel
theorem dX5_aims_35 : decode cX5_aims 35 = .ok (.ireturn, 1) := by decide +kernel
theorem dX5_can_0 : decode cX5_can 0 = .ok (.aload_n 0, 1) := by decide +kernel
theorem dX5_can_1 : decode cX5_can 1 = .ok (.iload_n 1, 1) := by decide +kernel
theorem dX5_can_2 : decode cX5_can 2 = .ok (.invokevirtual 105, 3) := by decide +kernel
theorem dX5_can_5 : decode cX5_can 5 = .ok (.ifCond .eq 18, 3) := by decide +kernel
theorem dX5_can_8 : decode cX5_can 8 = .ok (.aload_n 0, 1) := by decide +kernel
theorem dX5_can_9 : decode cX5_can 9 = .ok (.getfield 32, 3) := by decide +kernel
theorem dX5_can_12 : decode cX5_can 12 = .ok (.aload_n 0, 1) := by decide +kernel
theorem dX5_can_13 : decode cX5_can 13 = .ok (.getfield 19, 3) := by decide +kernel
theorem dX5_can_16 : decode cX5_can 16 = .ok (.iload_n 1, 1) := by decide +kernel
theorem dX5_can_17 : decode cX5_can 17 = .ok (.invokevirtual 132, 3) := by decide +kernel
theorem dX5_can_20 : decode cX5_can 20 = .ok (.goto 4, 3) := by decide +kernel
theorem dX5_can_23 : decode cX5_can 23 = .ok (.iconst (-1), 1) := by decide +kernel
theorem dX5_can_24 : decode cX5_can 24 = .ok (.ireturn, 1) := by decide +kernel
theorem dX5_plies_0 : decode cX5_plies 0 = .ok (.aload_n 0, 1) := by decide +kernel
theorem dX5_plies_1 : decode cX5_plies 1 = .ok (.getfield 32, 3) := by decide +kernel
theorem dX5_plies_4 : decode cX5_plies 4 = .ok (.aload_n 0, 1) := by decide +kernel
theorem dX5_plies_5 : decode cX5_plies 5 = .ok (.getfield 19, 3) := by decide +kernel
theorem dX5_plies_8 : decode cX5_plies 8 = .ok (.invokevirtual 136, 3) := by decide +kernel
theorem dX5_plies_11 : decode cX5_plies 11 = .ok (.ireturn, 1) := by decide +kernel
theorem dX5_move_0 : decode cX5_move 0 = .ok (.aload_n 0, 1) := by decide +kernel
theorem dX5_move_1 : decode cX5_move 1 = .ok (.iload_n 1, 1) := by decide +kernel
theorem dX5_move_2 : decode cX5_move 2 = .ok (.invokevirtual 105, 3) := by decide +kernel
theorem dX5_move_5 : decode cX5_move 5 = .ok (.ifCond .eq 11, 3) := by decide +kernel
theorem dX5_move_8 : decode cX5_move 8 = .ok (.aload_n 0, 1) := by decide +kernel
theorem dX5_move_9 : decode cX5_move 9 = .ok (.iload_n 2, 1) := by decide +kernel
theorem dX5_move_10 : decode cX5_move 10 = .ok (.invokevirtual 105, 3) := by decide +kernel
theorem dX5_move_13 : decode cX5_move 13 = .ok (.ifCond .ne 5, 3) := by decide +kernel
theorem dX5_move_16 : decode cX5_move 16 = .ok (.iconst (-1), 1) := by decide +kernel
theorem dX5_move_17 : decode cX5_move 17 = .ok (.ireturn, 1) := by decide +kernel
theorem dX5_move_18 : decode cX5_move 18 = .ok (.iload_n 1, 1) := by decide +kernel
theorem dX5_move_19 : decode cX5_move 19 = .ok (.bipush 100, 2) := by decide +kernel
theorem dX5_move_21 : decode cX5_move 21 = .ok (.imul, 1) := by decide +kernel
theorem dX5_move_22 : decode cX5_move 22 = .ok (.iload_n 2, 1) := by decide +kernel
theorem dX5_move_23 : decode cX5_move 23 = .ok (.iadd, 1) := by decide +kernel
theorem dX5_move_24 : decode cX5_move 24 = .ok (.istore_n 3, 1) := by decide +kernel
theorem dX5_move_25 : decode cX5_move 25 = .ok (.aload_n 0, 1) := by decide +kernel
theorem dX5_move_26 : decode cX5_move 26 = .ok (.aload_n 0, 1) := by decide +kernel
theorem dX5_move_27 : decode cX5_move 27 = .ok (.getfield 32, 3) := by decide +kernel
theorem dX5_move_30 : decode cX5_move 30 = .ok (.iload_n 3, 1) := by decide +kernel
theorem dX5_move_31 : decode cX5_move 31 = .ok (.invokevirtual 140, 3) := by decide +kernel
theorem dX5_move_34 : decode cX5_move 34 = .ok (.ifCond .ne 6, 3) := by decide +kernel
theorem dX5_move_37 : decode cX5_move 37 = .ok (.bipush (-3), 2) := by decide +kernel
theorem dX5_move_39 : decode cX5_move 39 = .ok (.ireturn, 1) := by decide +kernel
theorem dX5_move_40 : decode cX5_move 40 = .ok (.aload_n 0, 1) := by decide +kernel
theorem dX5_move_41 : decode cX5_move 41 = .ok (.getfield 32, 3) := by decide +kernel
theorem dX5_move_44 : decode cX5_move 44 = .ok (.iload_n 2, 1) := by decide +kernel
theorem dX5_move_45 : decode cX5_move 45 = .ok (.invokevirtual 109, 3) := by decide +kernel
theorem dX5_move_48 : decode cX5_move 48 = .ok (.istore 4, 2) := by decide +kernel
theorem dX5_move_50 : decode cX5_move 50 = .ok (.aload_n 0, 1) := by decide +kernel
theorem dX5_move_51 : decode cX5_move 51 = .ok (.getfield 41, 3) := by decide +kernel
theorem dX5_move_54 : decode cX5_move 54 = .ok (.aload_n 0, 1) := by decide +kernel
theorem dX5_move_55 : decode cX5_move 55 = .ok (.getfield 32, 3) := by decide +kernel
theorem dX5_move_58 : decode cX5_move 58 = .ok (.invokevirtual 144, 3) := by decide +kernel
theorem dX5_move_61 : decode cX5_move 61 = .ok (.aload_n 0, 1) := by decide +kernel
theorem dX5_move_62 : decode cX5_move 62 = .ok (.getfield 32, 3) := by decide +kernel
theorem dX5_move_65 : decode cX5_move 65 = .ok (.iload_n 3, 1) := by decide +kernel
theorem dX5_move_66 : decode cX5_move 66 = .ok (.aload_n 0, 1) := by decide +kernel
theorem dX5_move_67 : decode cX5_move 67 = .ok (.getfield 19, 3) := by decide +kernel
theorem dX5_move_70 : decode cX5_move 70 = .ok (.getfield 146, 3) := by decide +kernel
theorem dX5_move_73 : decode cX5_move 73 = .ok (.invokevirtual 148, 3) := by decide +kernel
theorem dX5_move_76 : decode cX5_move 76 = .ok (.iload 4, 2) := by decide +kernel
theorem dX5_move_78 : decode cX5_move 78 = .ok (.invokestatic 112, 3) := by decide +kernel
theorem dX5_move_81 : decode cX5_move 81 = .ok (.ireturn, 1) := by decide +kernel
theorem dX5_pass_0 : decode cX5_pass 0 = .ok (.aload_n 0, 1) := by decide +kernel
theorem dX5_pass_1 : decode cX5_pass 1 = .ok (.getfield 32, 3) := by decide +kernel
theorem dX5_pass_4 : decode cX5_pass 4 = .ok (.aload_n 0, 1) := by decide +kernel
theorem dX5_pass_5 : decode cX5_pass 5 = .ok (.getfield 19, 3) := by decide +kernel
theorem dX5_pass_8 : decode cX5_pass 8 = .ok (.invokevirtual 136, 3) := by decide +kernel
theorem dX5_pass_11 : decode cX5_pass 11 = .ok (.iconst 1, 1) := by decide +kernel
theorem dX5_pass_12 : decode cX5_pass 12 = .ok (.if_icmp .ne 16, 3) := by decide +kernel
theorem dX5_pass_15 : decode cX5_pass 15 = .ok (.aload_n 0, 1) := by decide +kernel
theorem dX5_pass_16 : decode cX5_pass 16 = .ok (.getfield 32, 3) := by decide +kernel
theorem dX5_pass_19 : decode cX5_pass 19 = .ok (.iconst 0, 1) := by decide +kernel
theorem dX5_pass_20 : decode cX5_pass 20 = .ok (.invokevirtual 151, 3) := by decide +kernel
theorem dX5_pass_23 : decode cX5_pass 23 = .ok (.bipush (-9), 2) := by decide +kernel
theorem dX5_pass_25 : decode cX5_pass 25 = .ok (.if_icmp .eq 6, 3) := by decide +kernel
theorem dX5_pass_28 : decode cX5_pass 28 = .ok (.bipush (-3), 2) := by decide +kernel
theorem dX5_pass_30 : decode cX5_pass 30 = .ok (.ireturn, 1) := by decide +kernel
theorem dX5_pass_31 : decode cX5_pass 31 = .ok (.aload_n 0, 1) := by decide +kernel
theorem dX5_pass_32 : decode cX5_pass 32 = .ok (.getfield 41, 3) := by decide +kernel
theorem dX5_pass_35 : decode cX5_pass 35 = .ok (.aload_n 0, 1) := by decide +kernel
theorem dX5_pass_36 : decode cX5_pass 36 = .ok (.getfield 32, 3) := by decide +kernel
theorem dX5_pass_39 : decode cX5_pass 39 = .ok (.invokevirtual 144, 3) := by decide +kernel
theorem dX5_pass_42 : decode cX5_pass 42 = .ok (.aload_n 0, 1) := by decide +kernel
theorem dX5_pass_43 : decode cX5_pass 43 = .ok (.getfield 32, 3) := by decide +kernel
theorem dX5_pass_46 : decode cX5_pass 46 = .ok (.bipush (-9), 2) := by decide +kernel
theorem dX5_pass_48 : decode cX5_pass 48 = .ok (.aload_n 0, 1) := by decide +kernel
theorem dX5_pass_49 : decode cX5_pass 49 = .ok (.getfield 19, 3) := by decide +kernel
theorem dX5_pass_52 : decode cX5_pass 52 = .ok (.getfield 146, 3) := by decide +kernel
theorem dX5_pass_55 : decode cX5_pass 55 = .ok (.invokevirtual 148, 3) := by decide +kernel
theorem dX5_pass_58 : decode cX5_pass 58 = .ok (.aload_n 0, 1) := by decide +kernel
theorem dX5_pass_59 : decode cX5_pass 59 = .ok (.getfield 32, 3) := by decide +kernel
theorem dX5_pass_62 : decode cX5_pass 62 = .ok (.getfield 100, 3) := by decide +kernel
theorem dX5_pass_65 : decode cX5_pass 65 = .ok (.ireturn, 1) := by decide +kernel
theorem dX5_undo_0 : decode cX5_undo 0 = .ok (.aload_n 0, 1) := by decide +kernel
theorem dX5_undo_1 : decode cX5_undo 1 = .ok (.getfield 41, 3) := by decide +kernel
theorem dX5_undo_4 : decode cX5_undo 4 = .ok (.getfield 154, 3) := by decide +kernel
theorem dX5_undo_7 : decode cX5_undo 7 = .ok (.iconst 1, 1) := by decide +kernel
theorem dX5_undo_8 : decode cX5_undo 8 = .ok (.if_icmp .ge 6, 3) := by decide +kernel
theorem dX5_undo_11 : decode cX5_undo 11 = .ok (.bipush (-3), 2) := by decide +kernel
theorem dX5_undo_13 : decode cX5_undo 13 = .ok (.ireturn, 1) := by decide +kernel
theorem dX5_undo_14 : decode cX5_undo 14 = .ok (.aload_n 0, 1) := by decide +kernel
theorem dX5_undo_15 : decode cX5_undo 15 = .ok (.getfield 41, 3) := by decide +kernel
theorem dX5_undo_18 : decode cX5_undo 18 = .ok (.aload_n 0, 1) := by decide +kernel
theorem dX5_undo_19 : decode cX5_undo 19 = .ok (.getfield 32, 3) := by decide +kernel
theorem dX5_undo_22 : decode cX5_undo 22 = .ok (.invokevirtual 157, 3) := by decide +kernel
theorem dX5_undo_25 : decode cX5_undo 25 = .ok (.aload_n 0, 1) := by decide +kernel
theorem dX5_undo_26 : decode cX5_undo 26 = .ok (.getfield 41, 3) := by decide +kernel
theorem dX5_undo_29 : decode cX5_undo 29 = .ok (.getfield 154, 3) := by decide +kernel
theorem dX5_undo_32 : decode cX5_undo 32 = .ok (.ireturn, 1) := by decide +kernel
theorem dX5_judge_0 : decode cX5_judge 0 = .ok (.iload_n 1, 1) := by decide +kernel
theorem dX5_judge_1 : decode cX5_judge 1 = .ok (.iconst 1, 1) := by decide +kernel
theorem dX5_judge_2 : decode cX5_judge 2 = .ok (.if_icmp .lt 8, 3) := by decide +kernel
theorem dX5_judge_5 : decode cX5_judge 5 = .ok (.iload_n 1, 1) := by decide +kernel
theorem dX5_judge_6 : decode cX5_judge 6 = .ok (.iconst 2, 1) := by decide +kernel
theorem dX5_judge_7 : decode cX5_judge 7 = .ok (.if_icmp .le 6, 3) := by decide +kernel
theorem dX5_judge_10 : decode cX5_judge 10 = .ok (.bipush (-2), 2) := by decide +kernel
theorem dX5_judge_12 : decode cX5_judge 12 = .ok (.ireturn, 1) := by decide +kernel
theorem dX5_judge_13 : decode cX5_judge 13 = .ok (.iload_n 2, 1) := by decide +kernel
theorem dX5_judge_14 : decode cX5_judge 14 = .ok (.ifCond .lt 23, 3) := by decide +kernel
theorem dX5_judge_17 : decode cX5_judge 17 = .ok (.iload_n 1, 1) := by decide +kernel
theorem dX5_judge_18 : decode cX5_judge 18 = .ok (.iconst 1, 1) := by decide +kernel
theorem dX5_judge_19 : decode cX5_judge 19 = .ok (.if_icmp .ne 7, 3) := by decide +kernel
theorem dX5_judge_22 : decode cX5_judge 22 = .ok (.iload_n 2, 1) := by decide +kernel
theorem dX5_judge_23 : decode cX5_judge 23 = .ok (.goto 8, 3) := by decide +kernel
theorem dX5_judge_26 : decode cX5_judge 26 = .ok (.iload_n 2, 1) := by decide +kernel
theorem dX5_judge_27 : decode cX5_judge 27 = .ok (.sipush 10000, 3) := by decide +kernel
theorem dX5_judge_30 : decode cX5_judge 30 = .ok (.idiv, 1) := by decide +kernel
theorem dX5_judge_31 : decode cX5_judge 31 = .ok (.sipush 10000, 3) := by decide +kernel
theorem dX5_judge_34 : decode cX5_judge 34 = .ok (.if_icmp .lt 6, 3) := by decide +kernel
theorem dX5_judge_37 : decode cX5_judge 37 = .ok (.bipush (-2), 2) := by decide +kernel
theorem dX5_judge_39 : decode cX5_judge 39 = .ok (.ireturn, 1) := by decide +kernel
theorem dX5_judge_40 : decode cX5_judge 40 = .ok (.aload_n 0, 1) := by decide +kernel
theorem dX5_judge_41 : decode cX5_judge 41 = .ok (.getfield 28, 3) := by decide +kernel
theorem dX5_judge_44 : decode cX5_judge 44 = .ok (.aload_n 0, 1) := by decide +kernel
theorem dX5_judge_45 : decode cX5_judge 45 = .ok (.getfield 32, 3) := by decide +kernel
theorem dX5_judge_48 : decode cX5_judge 48 = .ok (.invokevirtual 160, 3) := by decide +kernel
theorem dX5_judge_51 : decode cX5_judge 51 = .ok (.iconst 0, 1) := by decide +kernel
theorem dX5_judge_52 : decode cX5_judge 52 = .ok (.istore_n 3, 1) := by decide +kernel
theorem dX5_judge_53 : decode cX5_judge 53 = .ok (.iload_n 3, 1) := by decide +kernel
theorem dX5_judge_54 : decode cX5_judge 54 = .ok (.iload_n 1, 1) := by decide +kernel
theorem dX5_judge_55 : decode cX5_judge 55 = .ok (.if_icmp .ge 62, 3) := by decide +kernel
theorem dX5_judge_58 : decode cX5_judge 58 = .ok (.iload_n 3, 1) := by decide +kernel
theorem dX5_judge_59 : decode cX5_judge 59 = .ok (.iload_n 1, 1) := by decide +kernel
theorem dX5_judge_60 : decode cX5_judge 60 = .ok (.iconst 1, 1) := by decide +kernel
theorem dX5_judge_61 : decode cX5_judge 61 = .ok (.isub, 1) := by decide +kernel
theorem dX5_judge_62 : decode cX5_judge 62 = .ok (.if_icmp .ne 11, 3) := by decide +kernel
theorem dX5_judge_65 : decode cX5_judge 65 = .ok (.iload_n 2, 1) := by decide +kernel
theorem dX5_judge_66 : decode cX5_judge 66 = .ok (.sipush 10000, 3) := by decide +kernel
theorem dX5_judge_69 : decode cX5_judge 69 = .ok (.irem, 1) := by decide +kernel
theorem dX5_judge_70 : decode cX5_judge 70 = .ok (.goto 8, 3) := by decide +kernel
theorem dX5_judge_73 : decode cX5_judge 73 = .ok (.iload_n 2, 1) := by decide +kernel
theorem dX5_judge_74 : decode cX5_judge 74 = .ok (.sipush 10000, 3) := by decide +kernel
theorem dX5_judge_77 : decode cX5_judge 77 = .ok (.idiv, 1) := by decide +kernel
theorem dX5_judge_78 : decode cX5_judge 78 = .ok (.istore 4, 2) := by decide +kernel
theorem dX5_judge_80 : decode cX5_judge 80 = .ok (.aload_n 0, 1) := by decide +kernel
theorem dX5_judge_81 : decode cX5_judge 81 = .ok (.aload_n 0, 1) := by decide +kernel
theorem dX5_judge_82 : decode cX5_judge 82 = .ok (.getfield 28, 3) := by decide +kernel
theorem dX5_judge_85 : decode cX5_judge 85 = .ok (.iload 4, 2) := by decide +kernel
theorem dX5_judge_87 : decode cX5_judge 87 = .ok (.invokevirtual 140, 3) := by decide +kernel
theorem dX5_judge_90 : decode cX5_judge 90 = .ok (.ifCond .ne 5, 3) := by decide +kernel
theorem dX5_judge_93 : decode cX5_judge 93 = .ok (.iload_n 3, 1) := by decide +kernel
theorem dX5_judge_94 : decode cX5_judge 94 = .ok (.ireturn, 1) := by decide +kernel
theorem dX5_judge_95 : decode cX5_judge 95 = .ok (.aload_n 0, 1) := by decide +kernel
theorem dX5_judge_96 : decode cX5_judge 96 = .ok (.getfield 28, 3) := by decide +kernel
theorem dX5_judge_99 : decode cX5_judge 99 = .ok (.iload 4, 2) := by decide +kernel
theorem dX5_judge_101 : decode cX5_judge 101 = .ok (.aload_n 0, 1) := by decide +kernel
theorem dX5_judge_102 : decode cX5_judge 102 = .ok (.getfield 19, 3) := by decide +kernel
theorem dX5_judge_105 : decode cX5_judge 105 = .ok (.getfield 146, 3) := by decide +kernel
theorem dX5_judge_108 : decode cX5_judge 108 = .ok (.invokevirtual 148, 3) := by decide +kernel
theorem dX5_judge_111 : decode cX5_judge 111 = .ok (.iinc 3 1, 3) := by decide +kernel
theorem dX5_judge_114 : decode cX5_judge 114 = .ok (.goto (-61), 3) := by decide +kernel
theorem dX5_judge_117 : decode cX5_judge 117 = .ok (.bipush (-9), 2) := by decide +kernel
theorem dX5_judge_119 : decode cX5_judge 119 = .ok (.ireturn, 1) := by decide +kernel
theorem dX5_wins_0 : decode cX5_wins 0 = .ok (.aload_n 0, 1) := by decide +kernel
theorem dX5_wins_1 : decode cX5_wins 1 = .ok (.iload_n 1, 1) := by decide +kernel
theorem dX5_wins_2 : decode cX5_wins 2 = .ok (.invokevirtual 163, 3) := by decide +kernel
theorem dX5_wins_5 : decode cX5_wins 5 = .ok (.istore_n 2, 1) := by decide +kernel
theorem dX5_wins_6 : decode cX5_wins 6 = .ok (.iload_n 2, 1) := by decide +kernel
theorem dX5_wins_7 : decode cX5_wins 7 = .ok (.bipush (-9), 2) := by decide +kernel
theorem dX5_wins_9 : decode cX5_wins 9 = .ok (.if_icmp .eq 5, 3) := by decide +kernel
theorem dX5_wins_12 : decode cX5_wins 12 = .ok (.iload_n 2, 1) := by decide +kernel
theorem dX5_wins_13 : decode cX5_wins 13 = .ok (.ireturn, 1) := by decide +kernel
theorem dX5_wins_14 : decode cX5_wins 14 = .ok (.aload_n 0, 1) := by decide +kernel
theorem dX5_wins_15 : decode cX5_wins 15 = .ok (.getfield 19, 3) := by decide +kernel
theorem dX5_wins_18 : decode cX5_wins 18 = .ok (.aload_n 0, 1) := by decide +kernel
theorem dX5_wins_19 : decode cX5_wins 19 = .ok (.getfield 32, 3) := by decide +kernel
theorem dX5_wins_22 : decode cX5_wins 22 = .ok (.aload_n 0, 1) := by decide +kernel
theorem dX5_wins_23 : decode cX5_wins 23 = .ok (.getfield 32, 3) := by decide +kernel
theorem dX5_wins_26 : decode cX5_wins 26 = .ok (.getfield 100, 3) := by decide +kernel
theorem dX5_wins_29 : decode cX5_wins 29 = .ok (.iload_n 1, 1) := by decide +kernel
theorem dX5_wins_30 : decode cX5_wins 30 = .ok (.invokestatic 166, 3) := by decide +kernel
theorem dX5_wins_33 : decode cX5_wins 33 = .ok (.ifCond .eq 7, 3) := by decide +kernel
theorem dX5_wins_36 : decode cX5_wins 36 = .ok (.iconst 1, 1) := by decide +kernel
theorem dX5_wins_37 : decode cX5_wins 37 = .ok (.goto 4, 3) := by decide +kernel
theorem dX5_wins_40 : decode cX5_wins 40 = .ok (.iconst 0, 1) := by decide +kernel
theorem dX5_wins_41 : decode cX5_wins 41 = .ok (.ireturn, 1) := by decide +kernel
theorem dX5_keys_0 : decode cX5_keys 0 = .ok (.aload_n 0, 1) := by decide +kernel
theorem dX5_keys_1 : decode cX5_keys 1 = .ok (.iload_n 1, 1) := by decide +kernel
theorem dX5_keys_2 : decode cX5_keys 2 = .ok (.invokevirtual 163, 3) := by decide +kernel
theorem dX5_keys_5 : decode cX5_keys 5 = .ok (.istore_n 2, 1) := by decide +kernel
theorem dX5_keys_6 : decode cX5_keys 6 = .ok (.iload_n 2, 1) := by decide +kernel
theorem dX5_keys_7 : decode cX5_keys 7 = .ok (.bipush (-9), 2) := by decide +kernel
theorem dX5_keys_9 : decode cX5_keys 9 = .ok (.if_icmp .eq 7, 3) := by decide +kernel
theorem dX5_keys_12 : decode cX5_keys 12 = .ok (.iload_n 2, 1) := by decide +kernel
theorem dX5_keys_13 : decode cX5_keys 13 = .ok (.goto 8, 3) := by decide +kernel
theorem dX5_keys_16 : decode cX5_keys 16 = .ok (.aload_n 0, 1) := by decide +kernel
theorem dX5_keys_17 : decode cX5_keys 17 = .ok (.iload_n 1, 1) := by decide +kernel
theorem dX5_keys_18 : decode cX5_keys 18 = .ok (.invokevirtual 170, 3) := by decide +kernel
theorem dX5_keys_21 : decode cX5_keys 21 = .ok (.ireturn, 1) := by decide +kernel
theorem dX5_keyAt_0 : decode cX5_keyAt 0 = .ok (.aload_n 0, 1) := by decide +kernel
theorem dX5_keyAt_1 : decode cX5_keyAt 1 = .ok (.iload_n 1, 1) := by decide +kernel
theorem dX5_keyAt_2 : decode cX5_keyAt 2 = .ok (.invokevirtual 163, 3) := by decide +kernel
theorem dX5_keyAt_5 : decode cX5_keyAt 5 = .ok (.istore_n 3, 1) := by decide +kernel
theorem dX5_keyAt_6 : decode cX5_keyAt 6 = .ok (.iload_n 3, 1) := by decide +kernel
theorem dX5_keyAt_7 : decode cX5_keyAt 7 = .ok (.bipush (-9), 2) := by decide +kernel
theorem dX5_keyAt_9 : decode cX5_keyAt 9 = .ok (.if_icmp .eq 5, 3) := by decide +kernel
theorem dX5_keyAt_12 : decode cX5_keyAt 12 = .ok (.iload_n 3, 1) := by decide +kernel
theorem dX5_keyAt_13 : decode cX5_keyAt 13 = .ok (.ireturn, 1) := by decide +kernel
theorem dX5_keyAt_14 : decode cX5_keyAt 14 = .ok (.iload_n 2, 1) := by decide +kernel
theorem dX5_keyAt_15 : decode cX5_keyAt 15 = .ok (.ifCond .lt 23, 3) := by decide +kernel
theorem dX5_keyAt_18 : decode cX5_keyAt 18 = .ok (.iload_n 2, 1) := by decide +kernel
theorem dX5_keyAt_19 : decode cX5_keyAt 19 = .ok (.aload_n 0, 1) := by decide +kernel
theorem dX5_keyAt_20 : decode cX5_keyAt 20 = .ok (.iload_n 1, 1) := by decide +kernel
theorem dX5_keyAt_21 : decode cX5_keyAt 21 = .ok (.invokevirtual 170, 3) := by decide +kernel
theorem dX5_keyAt_24 : decode cX5_keyAt 24 = .ok (.if_icmp .ge 14, 3) := by decide +kernel
theorem dX5_keyAt_27 : decode cX5_keyAt 27 = .ok (.aload_n 0, 1) := by decide +kernel
theorem dX5_keyAt_28 : decode cX5_keyAt 28 = .ok (.getfield 32, 3) := by decide +kernel
theorem dX5_keyAt_31 : decode cX5_keyAt 31 = .ok (.iload_n 2, 1) := by decide +kernel
theorem dX5_keyAt_32 : decode cX5_keyAt 32 = .ok (.invokevirtual 151, 3) := by decide +kernel
theorem dX5_keyAt_35 : decode cX5_keyAt 35 = .ok (.goto 5, 3) := by decide +kernel
theorem dX5_keyAt_38 : decode cX5_keyAt 38 = .ok (.bipush (-9), 2) := by decide +kernel
theorem dX5_keyAt_40 : decode cX5_keyAt 40 = .ok (.ireturn, 1) := by decide +kernel
theorem dX5_odds_0 : decode cX5_odds 0 = .ok (.aload_n 0, 1) := by decide +kernel
theorem dX5_odds_1 : decode cX5_odds 1 = .ok (.getfield 32, 3) := by decide +kernel
theorem dX5_odds_4 : decode cX5_odds 4 = .ok (.aload_n 0, 1) := by decide +kernel
theorem dX5_odds_5 : decode cX5_odds 5 = .ok (.getfield 19, 3) := by decide +kernel
theorem dX5_odds_8 : decode cX5_odds 8 = .ok (.invokevirtual 136, 3) := by decide +kernel
theorem dX5_odds_11 : decode cX5_odds 11 = .ok (.istore_n 2, 1) := by decide +kernel
theorem dX5_odds_12 : decode cX5_odds 12 = .ok (.iload_n 2, 1) := by decide +kernel
theorem dX5_odds_13 : decode cX5_odds 13 = .ok (.iconst 1, 1) := by decide +kernel
theorem dX5_odds_14 : decode cX5_odds 14 = .ok (.if_icmp .ge 6, 3) := by decide +kernel
theorem dX5_odds_17 : decode cX5_odds 17 = .ok (.bipush (-3), 2) := by decide +kernel
theorem dX5_odds_19 : decode cX5_odds 19 = .ok (.ireturn, 1) := by decide +kernel
theorem dX5_odds_20 : decode cX5_odds 20 = .ok (.aload_n 0, 1) := by decide +kernel
theorem dX5_odds_21 : decode cX5_odds 21 = .ok (.getfield 32, 3) := by decide +kernel
theorem dX5_odds_24 : decode cX5_odds 24 = .ok (.getfield 173, 3) := by decide +kernel
theorem dX5_odds_27 : decode cX5_odds 27 = .ok (.aload_n 0, 1) := by decide +kernel
theorem dX5_odds_28 : decode cX5_odds 28 = .ok (.getfield 32, 3) := by decide +kernel
theorem dX5_odds_31 : decode cX5_odds 31 = .ok (.iconst 1, 1) := by decide +kernel
theorem dX5_odds_32 : decode cX5_odds 32 = .ok (.aload_n 0, 1) := by decide +kernel
theorem dX5_odds_33 : decode cX5_odds 33 = .ok (.getfield 32, 3) := by decide +kernel
theorem dX5_odds_36 : decode cX5_odds 36 = .ok (.getfield 100, 3) := by decide +kernel
theorem dX5_odds_39 : decode cX5_odds 39 = .ok (.isub, 1) := by decide +kernel
theorem dX5_odds_40 : decode cX5_odds 40 = .ok (.invokevirtual 176, 3) := by decide +kernel
theorem dX5_odds_43 : decode cX5_odds 43 = .ok (.iand, 1) := by decide +kernel
theorem dX5_odds_44 : decode cX5_odds 44 = .ok (.istore_n 3, 1) := by decide +kernel
theorem dX5_odds_45 : decode cX5_odds 45 = .ok (.iconst 0, 1) := by decide +kernel
theorem dX5_odds_46 : decode cX5_odds 46 = .ok (.istore 4, 2) := by decide +kernel
theorem dX5_odds_48 : decode cX5_odds 48 = .ok (.iconst 0, 1) := by decide +kernel
theorem dX5_odds_49 : decode cX5_odds 49 = .ok (.istore 5, 2) := by decide +kernel
theorem dX5_odds_51 : decode cX5_odds 51 = .ok (.iload 5, 2) := by decide +kernel
theorem dX5_odds_53 : decode cX5_odds 53 = .ok (.iload_n 2, 1) := by decide +kernel
theorem dX5_odds_54 : decode cX5_odds 54 = .ok (.if_icmp .ge 42, 3) := by decide +kernel
theorem dX5_odds_57 : decode cX5_odds 57 = .ok (.aload_n 0, 1) := by decide +kernel
theorem dX5_odds_58 : decode cX5_odds 58 = .ok (.getfield 32, 3) := by decide +kernel
theorem dX5_odds_61 : decode cX5_odds 61 = .ok (.iload 5, 2) := by decide +kernel
theorem dX5_odds_63 : decode cX5_odds 63 = .ok (.invokevirtual 151, 3) := by decide +kernel
theorem dX5_odds_66 : decode cX5_odds 66 = .ok (.istore 6, 2) := by decide +kernel
theorem dX5_odds_68 : decode cX5_odds 68 = .ok (.iload 6, 2) := by decide +kernel
theorem dX5_odds_70 : decode cX5_odds 70 = .ok (.bipush (-9), 2) := by decide +kernel
theorem dX5_odds_72 : decode cX5_odds 72 = .ok (.if_icmp .eq 18, 3) := by decide +kernel
theorem dX5_odds_75 : decode cX5_odds 75 = .ok (.iload_n 3, 1) := by decide +kernel
theorem dX5_odds_76 : decode cX5_odds 76 = .ok (.iload 6, 2) := by decide +kernel
theorem dX5_odds_78 : decode cX5_odds 78 = .ok (.bipush 100, 2) := by decide +kernel
theorem dX5_odds_80 : decode cX5_odds 80 = .ok (.irem, 1) := by decide +kernel
theorem dX5_odds_81 : decode cX5_odds 81 = .ok (.invokestatic 118, 3) := by decide +kernel
theorem dX5_odds_84 : decode cX5_odds 84 = .ok (.ifCond .eq 6, 3) := by decide +kernel
theorem dX5_odds_87 : decode cX5_odds 87 = .ok (.iinc 4 1, 3) := by decide +kernel
theorem dX5_odds_90 : decode cX5_odds 90 = .ok (.iinc 5 1, 3) := by decide +kernel
theorem dX5_odds_93 : decode cX5_odds 93 = .ok (.goto (-42), 3) := by decide +kernel
theorem dX5_odds_96 : decode cX5_odds 96 = .ok (.iload_n 2, 1) := by decide +kernel
theorem dX5_odds_97 : decode cX5_odds 97 = .ok (.iload 4, 2) := by decide +kernel
theorem dX5_odds_99 : decode cX5_odds 99 = .ok (.invokestatic 179, 3) := by decide +kernel
theorem dX5_odds_102 : decode cX5_odds 102 = .ok (.istore 5, 2) := by decide +kernel
theorem dX5_odds_104 : decode cX5_odds 104 = .ok (.iload 5, 2) := by decide +kernel
theorem dX5_odds_106 : decode cX5_odds 106 = .ok (.iconst 1, 1) := by decide +kernel
theorem dX5_odds_107 : decode cX5_odds 107 = .ok (.if_icmp .ge 6, 3) := by decide +kernel
theorem dX5_odds_110 : decode cX5_odds 110 = .ok (.bipush (-3), 2) := by decide +kernel
theorem dX5_odds_112 : decode cX5_odds 112 = .ok (.ireturn, 1) := by decide +kernel
theorem dX5_odds_113 : decode cX5_odds 113 = .ok (.iload_n 1, 1) := by decide +kernel
theorem dX5_odds_114 : decode cX5_odds 114 = .ok (.ifCond .eq 8, 3) := by decide +kernel
theorem dX5_odds_117 : decode cX5_odds 117 = .ok (.iload 4, 2) := by decide +kernel
theorem dX5_odds_119 : decode cX5_odds 119 = .ok (.goto 4, 3) := by decide +kernel
theorem dX5_odds_122 : decode cX5_odds 122 = .ok (.iload_n 2, 1) := by decide +kernel
theorem dX5_odds_123 : decode cX5_odds 123 = .ok (.iload 5, 2) := by decide +kernel
theorem dX5_odds_125 : decode cX5_odds 125 = .ok (.idiv, 1) := by decide +kernel
theorem dX5_odds_126 : decode cX5_odds 126 = .ok (.ireturn, 1) := by decide +kernel
theorem dX5_parts_0 : decode cX5_parts 0 = .ok (.aload_n 0, 1) := by decide +kernel
theorem dX5_parts_1 : decode cX5_parts 1 = .ok (.iconst 0, 1) := by decide +kernel
theorem dX5_parts_2 : decode cX5_parts 2 = .ok (.invokevirtual 183, 3) := by decide +kernel
theorem dX5_parts_5 : decode cX5_parts 5 = .ok (.ireturn, 1) := by decide +kernel
theorem dX5_part_0 : decode cX5_part 0 = .ok (.aload_n 0, 1) := by decide +kernel
theorem dX5_part_1 : decode cX5_part 1 = .ok (.iload_n 1, 1) := by decide +kernel
theorem dX5_part_2 : decode cX5_part 2 = .ok (.invokevirtual 105, 3) := by decide +kernel
theorem dX5_part_5 : decode cX5_part 5 = .ok (.ifCond .ne 5, 3) := by decide +kernel
theorem dX5_part_8 : decode cX5_part 8 = .ok (.iconst (-1), 1) := by decide +kernel
theorem dX5_part_9 : decode cX5_part 9 = .ok (.ireturn, 1) := by decide +kernel
theorem dX5_part_10 : decode cX5_part 10 = .ok (.aload_n 0, 1) := by decide +kernel
theorem dX5_part_11 : decode cX5_part 11 = .ok (.getfield 32, 3) := by decide +kernel
theorem dX5_part_14 : decode cX5_part 14 = .ok (.getfield 115, 3) := by decide +kernel
theorem dX5_part_17 : decode cX5_part 17 = .ok (.iload_n 1, 1) := by decide +kernel
theorem dX5_part_18 : decode cX5_part 18 = .ok (.invokestatic 118, 3) := by decide +kernel
theorem dX5_part_21 : decode cX5_part 21 = .ok (.ifCond .eq 8, 3) := by decide +kernel
theorem dX5_part_24 : decode cX5_part 24 = .ok (.bipush (-9), 2) := by decide +kernel
theorem dX5_part_26 : decode cX5_part 26 = .ok (.goto 10, 3) := by decide +kernel
theorem dX5_part_29 : decode cX5_part 29 = .ok (.aload_n 0, 1) := by decide +kernel
theorem dX5_part_30 : decode cX5_part 30 = .ok (.iconst 1, 1) := by decide +kernel
theorem dX5_part_31 : decode cX5_part 31 = .ok (.iload_n 1, 1) := by decide +kernel
theorem dX5_part_32 : decode cX5_part 32 = .ok (.ishl, 1) := by decide +kernel
theorem dX5_part_33 : decode cX5_part 33 = .ok (.invokevirtual 183, 3) := by decide +kernel
theorem dX5_part_36 : decode cX5_part 36 = .ok (.ireturn, 1) := by decide +kernel
theorem dX5_comes_0 : decode cX5_comes 0 = .ok (.aload_n 0, 1) := by decide +kernel
theorem dX5_comes_1 : decode cX5_comes 1 = .ok (.iload_n 1, 1) := by decide +kernel
theorem dX5_comes_2 : decode cX5_comes 2 = .ok (.invokevirtual 105, 3) := by decide +kernel
theorem dX5_comes_5 : decode cX5_comes 5 = .ok (.ifCond .eq 29, 3) := by decide +kernel
theorem dX5_comes_8 : decode cX5_comes 8 = .ok (.aload_n 0, 1) := by decide +kernel
theorem dX5_comes_9 : decode cX5_comes 9 = .ok (.getfield 19, 3) := by decide +kernel
theorem dX5_comes_12 : decode cX5_comes 12 = .ok (.aload_n 0, 1) := by decide +kernel
theorem dX5_comes_13 : decode cX5_comes 13 = .ok (.getfield 32, 3) := by decide +kernel
theorem dX5_comes_16 : decode cX5_comes 16 = .ok (.iload_n 1, 1) := by decide +kernel
theorem dX5_comes_17 : decode cX5_comes 17 = .ok (.invokevirtual 109, 3) := by decide +kernel
theorem dX5_comes_20 : decode cX5_comes 20 = .ok (.iload_n 1, 1) := by decide +kernel
theorem dX5_comes_21 : decode cX5_comes 21 = .ok (.aload_n 0, 1) := by decide +kernel
theorem dX5_comes_22 : decode cX5_comes 22 = .ok (.getfield 32, 3) := by decide +kernel
theorem dX5_comes_25 : decode cX5_comes 25 = .ok (.getfield 115, 3) := by decide +kernel
theorem dX5_comes_28 : decode cX5_comes 28 = .ok (.invokevirtual 186, 3) := by decide +kernel
theorem dX5_comes_31 : decode cX5_comes 31 = .ok (.goto 4, 3) := by decide +kernel
theorem dX5_comes_34 : decode cX5_comes 34 = .ok (.iconst (-1), 1) := by decide +kernel
theorem dX5_comes_35 : decode cX5_comes 35 = .ok (.ireturn, 1) := by decide +kernel
theorem dX5_comesAt_0 : decode cX5_comesAt 0 = .ok (.aload_n 0, 1) := by decide +kernel
theorem dX5_comesAt_1 : decode cX5_comesAt 1 = .ok (.iload_n 1, 1) := by decide +kernel
theorem dX5_comesAt_2 : decode cX5_comesAt 2 = .ok (.invokevirtual 105, 3) := by decide +kernel
theorem dX5_comesAt_5 : decode cX5_comesAt 5 = .ok (.ifCond .eq 11, 3) := by decide +kernel
theorem dX5_comesAt_8 : decode cX5_comesAt 8 = .ok (.aload_n 0, 1) := by decide +kernel
theorem dX5_comesAt_9 : decode cX5_comesAt 9 = .ok (.iload_n 2, 1) := by decide +kernel
theorem dX5_comesAt_10 : decode cX5_comesAt 10 = .ok (.invokevirtual 105, 3) := by decide +kernel
theorem dX5_comesAt_13 : decode cX5_comesAt 13 = .ok (.ifCond .ne 5, 3) := by decide +kernel
theorem dX5_comesAt_16 : decode cX5_comesAt 16 = .ok (.iconst (-1), 1) := by decide +kernel
theorem dX5_comesAt_17 : decode cX5_comesAt 17 = .ok (.ireturn, 1) := by decide +kernel
theorem dX5_comesAt_18 : decode cX5_comesAt 18 = .ok (.aload_n 0, 1) := by decide +kernel
theorem dX5_comesAt_19 : decode cX5_comesAt 19 = .ok (.getfield 32, 3) := by decide +kernel
theorem dX5_comesAt_22 : decode cX5_comesAt 22 = .ok (.iload_n 1, 1) := by decide +kernel
theorem dX5_comesAt_23 : decode cX5_comesAt 23 = .ok (.invokevirtual 109, 3) := by decide +kernel
theorem dX5_comesAt_26 : decode cX5_comesAt 26 = .ok (.invokestatic 189, 3) := by decide +kernel
theorem dX5_comesAt_29 : decode cX5_comesAt 29 = .ok (.istore_n 3, 1) := by decide +kernel
theorem dX5_comesAt_30 : decode cX5_comesAt 30 = .ok (.iload_n 3, 1) := by decide +kernel
theorem dX5_comesAt_31 : decode cX5_comesAt 31 = .ok (.bipush (-9), 2) := by decide +kernel
theorem dX5_comesAt_33 : decode cX5_comesAt 33 = .ok (.if_icmp .eq 20, 3) := by decide +kernel
theorem dX5_comesAt_36 : decode cX5_comesAt 36 = .ok (.aload_n 0, 1) := by decide +kernel
theorem dX5_comesAt_37 : decode cX5_comesAt 37 = .ok (.getfield 32, 3) := by decide +kernel
theorem dX5_comesAt_40 : decode cX5_comesAt 40 = .ok (.iconst 1, 1) := by decide +kernel
theorem dX5_comesAt_41 : decode cX5_comesAt 41 = .ok (.iload_n 3, 1) := by decide +kernel
theorem dX5_comesAt_42 : decode cX5_comesAt 42 = .ok (.isub, 1) := by decide +kernel
theorem dX5_comesAt_43 : decode cX5_comesAt 43 = .ok (.invokevirtual 176, 3) := by decide +kernel
theorem dX5_comesAt_46 : decode cX5_comesAt 46 = .ok (.iload_n 2, 1) := by decide +kernel
theorem dX5_comesAt_47 : decode cX5_comesAt 47 = .ok (.invokestatic 118, 3) := by decide +kernel
theorem dX5_comesAt_50 : decode cX5_comesAt 50 = .ok (.ifCond .ne 6, 3) := by decide +kernel
theorem dX5_comesAt_53 : decode cX5_comesAt 53 = .ok (.bipush (-3), 2) := by decide +kernel
theorem dX5_comesAt_55 : decode cX5_comesAt 55 = .ok (.ireturn, 1) := by decide +kernel
theorem dX5_comesAt_56 : decode cX5_comesAt 56 = .ok (.aload_n 0, 1) := by decide +kernel
theorem dX5_comesAt_57 : decode cX5_comesAt 57 = .ok (.iconst 1, 1) := by decide +kernel
theorem dX5_comesAt_58 : decode cX5_comesAt 58 = .ok (.iload_n 1, 1) := by decide +kernel
theorem dX5_comesAt_59 : decode cX5_comesAt 59 = .ok (.ishl, 1) := by decide +kernel
theorem dX5_comesAt_60 : decode cX5_comesAt 60 = .ok (.iconst 1, 1) := by decide +kernel
theorem dX5_comesAt_61 : decode cX5_comesAt 61 = .ok (.iload_n 2, 1) := by decide +kernel
theorem dX5_comesAt_62 : decode cX5_comesAt 62 = .ok (.ishl, 1) := by decide +kernel
theorem dX5_comesAt_63 : decode cX5_comesAt 63 = .ok (.invokevirtual 192, 3) := by decide +kernel
theorem dX5_comesAt_66 : decode cX5_comesAt 66 = .ok (.ifCond .eq 7, 3) := by decide +kernel
theorem dX5_comesAt_69 : decode cX5_comesAt 69 = .ok (.iconst 1, 1) := by decide +kernel
theorem dX5_comesAt_70 : decode cX5_comesAt 70 = .ok (.goto 4, 3) := by decide +kernel
theorem dX5_comesAt_73 : decode cX5_comesAt 73 = .ok (.iconst 0, 1) := by decide +kernel
theorem dX5_comesAt_74 : decode cX5_comesAt 74 = .ok (.ireturn, 1) := by decide +kernel
theorem dX5_shut_0 : decode cX5_shut 0 = .ok (.aload_n 0, 1) := by decide +kernel
theorem dX5_shut_1 : decode cX5_shut 1 = .ok (.aload_n 0, 1) := by decide +kernel
theorem dX5_shut_2 : decode cX5_shut 2 = .ok (.getfield 32, 3) := by decide +kernel
theorem dX5_shut_5 : decode cX5_shut 5 = .ok (.getfield 195, 3) := by decide +kernel
theorem dX5_shut_8 : decode cX5_shut 8 = .ok (.aload_n 0, 1) := by decide +kernel
theorem dX5_shut_9 : decode cX5_shut 9 = .ok (.getfield 32, 3) := by decide +kernel
theorem dX5_shut_12 : decode cX5_shut 12 = .ok (.getfield 198, 3) := by decide +kernel
theorem dX5_shut_15 : decode cX5_shut 15 = .ok (.invokevirtual 192, 3) := by decide +kernel
theorem dX5_shut_18 : decode cX5_shut 18 = .ok (.ifCond .ne 24, 3) := by decide +kernel
theorem dX5_shut_21 : decode cX5_shut 21 = .ok (.aload_n 0, 1) := by decide +kernel
theorem dX5_shut_22 : decode cX5_shut 22 = .ok (.aload_n 0, 1) := by decide +kernel
theorem dX5_shut_23 : decode cX5_shut 23 = .ok (.getfield 32, 3) := by decide +kernel
theorem dX5_shut_26 : decode cX5_shut 26 = .ok (.getfield 198, 3) := by decide +kernel
theorem dX5_shut_29 : decode cX5_shut 29 = .ok (.aload_n 0, 1) := by decide +kernel
theorem dX5_shut_30 : decode cX5_shut 30 = .ok (.getfield 32, 3) := by decide +kernel
theorem dX5_shut_33 : decode cX5_shut 33 = .ok (.getfield 195, 3) := by decide +kernel
theorem dX5_shut_36 : decode cX5_shut 36 = .ok (.invokevirtual 192, 3) := by decide +kernel
theorem dX5_shut_39 : decode cX5_shut 39 = .ok (.ifCond .eq 7, 3) := by decide +kernel
theorem dX5_shut_42 : decode cX5_shut 42 = .ok (.iconst 0, 1) := by decide +kernel
theorem dX5_shut_43 : decode cX5_shut 43 = .ok (.goto 4, 3) := by decide +kernel
theorem dX5_shut_46 : decode cX5_shut 46 = .ok (.iconst 1, 1) := by decide +kernel
theorem dX5_shut_47 : decode cX5_shut 47 = .ok (.ireturn, 1) := by decide +kernel
theorem dX5_ways_0 : decode cX5_ways 0 = .ok (.iload_n 1, 1) := by decide +kernel
theorem dX5_ways_1 : decode cX5_ways 1 = .ok (.invokestatic 201, 3) := by decide +kernel
theorem dX5_ways_4 : decode cX5_ways 4 = .ok (.ifCond .ne 5, 3) := by decide +kernel
theorem dX5_ways_7 : decode cX5_ways 7 = .ok (.iconst (-1), 1) := by decide +kernel
theorem dX5_ways_8 : decode cX5_ways 8 = .ok (.ireturn, 1) := by decide +kernel
theorem dX5_ways_9 : decode cX5_ways 9 = .ok (.iload_n 2, 1) := by decide +kernel
theorem dX5_ways_10 : decode cX5_ways 10 = .ok (.iconst 1, 1) := by decide +kernel
theorem dX5_ways_11 : decode cX5_ways 11 = .ok (.if_icmp .lt 8, 3) := by decide +kernel
theorem dX5_ways_14 : decode cX5_ways 14 = .ok (.iload_n 2, 1) := by decide +kernel
theorem dX5_ways_15 : decode cX5_ways 15 = .ok (.iconst 3, 1) := by decide +kernel
theorem dX5_ways_16 : decode cX5_ways 16 = .ok (.if_icmp .le 6, 3) := by decide +kernel
theorem dX5_ways_19 : decode cX5_ways 19 = .ok (.bipush (-2), 2) := by decide +kernel
theorem dX5_ways_21 : decode cX5_ways 21 = .ok (.ireturn, 1) := by decide +kernel
theorem dX5_ways_22 : decode cX5_ways 22 = .ok (.aload_n 0, 1) := by decide +kernel
theorem dX5_ways_23 : decode cX5_ways 23 = .ok (.getfield 50, 3) := by decide +kernel
theorem dX5_ways_26 : decode cX5_ways 26 = .ok (.iload_n 1, 1) := by decide +kernel
theorem dX5_ways_27 : decode cX5_ways 27 = .ok (.invokevirtual 204, 3) := by decide +kernel
theorem dX5_ways_30 : decode cX5_ways 30 = .ok (.ifCond .ne 6, 3) := by decide +kernel
theorem dX5_ways_33 : decode cX5_ways 33 = .ok (.bipush (-3), 2) := by decide +kernel
theorem dX5_ways_35 : decode cX5_ways 35 = .ok (.ireturn, 1) := by decide +kernel
theorem dX5_ways_36 : decode cX5_ways 36 = .ok (.aload_n 0, 1) := by decide +kernel
theorem dX5_ways_37 : decode cX5_ways 37 = .ok (.getfield 50, 3) := by decide +kernel
theorem dX5_ways_40 : decode cX5_ways 40 = .ok (.iload_n 1, 1) := by decide +kernel
theorem dX5_ways_41 : decode cX5_ways 41 = .ok (.aload_n 0, 1) := by decide +kernel
theorem dX5_ways_42 : decode cX5_ways 42 = .ok (.getfield 35, 3) := by decide +kernel
theorem dX5_ways_45 : decode cX5_ways 45 = .ok (.invokevirtual 207, 3) := by decide +kernel
theorem dX5_ways_48 : decode cX5_ways 48 = .ok (.aload_n 0, 1) := by decide +kernel
theorem dX5_ways_49 : decode cX5_ways 49 = .ok (.getfield 32, 3) := by decide +kernel
theorem dX5_ways_52 : decode cX5_ways 52 = .ok (.getfield 100, 3) := by decide +kernel
theorem dX5_ways_55 : decode cX5_ways 55 = .ok (.iload_n 2, 1) := by decide +kernel
theorem dX5_ways_56 : decode cX5_ways 56 = .ok (.iadd, 1) := by decide +kernel
theorem dX5_ways_57 : decode cX5_ways 57 = .ok (.iconst 2, 1) := by decide +kernel
theorem dX5_ways_58 : decode cX5_ways 58 = .ok (.irem, 1) := by decide +kernel
theorem dX5_ways_59 : decode cX5_ways 59 = .ok (.aload_n 0, 1) := by decide +kernel
theorem dX5_ways_60 : decode cX5_ways 60 = .ok (.getfield 35, 3) := by decide +kernel
theorem dX5_ways_63 : decode cX5_ways 63 = .ok (.getfield 100, 3) := by decide +kernel
theorem dX5_ways_66 : decode cX5_ways 66 = .ok (.if_icmp .ne 22, 3) := by decide +kernel
theorem dX5_ways_69 : decode cX5_ways 69 = .ok (.aload_n 0, 1) := by decide +kernel
theorem dX5_ways_70 : decode cX5_ways 70 = .ok (.getfield 19, 3) := by decide +kernel
theorem dX5_ways_73 : decode cX5_ways 73 = .ok (.aload_n 0, 1) := by decide +kernel
theorem dX5_ways_74 : decode cX5_ways 74 = .ok (.getfield 32, 3) := by decide +kernel
theorem dX5_ways_77 : decode cX5_ways 77 = .ok (.aload_n 0, 1) := by decide +kernel
theorem dX5_ways_78 : decode cX5_ways 78 = .ok (.getfield 35, 3) := by decide +kernel
theorem dX5_ways_81 : decode cX5_ways 81 = .ok (.iload_n 2, 1) := by decide +kernel
theorem dX5_ways_82 : decode cX5_ways 82 = .ok (.invokestatic 211, 3) := by decide +kernel
theorem dX5_ways_85 : decode cX5_ways 85 = .ok (.goto 4, 3) := by decide +kernel
theorem dX5_ways_88 : decode cX5_ways 88 = .ok (.iconst 0, 1) := by decide +kernel
theorem dX5_ways_89 : decode cX5_ways 89 = .ok (.ireturn, 1) := by decide +kernel
theorem dX5_seed_0 : decode cX5_seed 0 = .ok (.aload_n 0, 1) := by decide +kernel
theorem dX5_seed_1 : decode cX5_seed 1 = .ok (.getfield 54, 3) := by decide +kernel
theorem dX5_seed_4 : decode cX5_seed 4 = .ok (.lstore_n 3, 1) := by decide +kernel
theorem dX5_seed_5 : decode cX5_seed 5 = .ok (.aload_n 0, 1) := by decide +kernel
theorem dX5_seed_6 : decode cX5_seed 6 = .ok (.lload_n 1, 1) := by decide +kernel
theorem dX5_seed_7 : decode cX5_seed 7 = .ok (.putfield 54, 3) := by decide +kernel
theorem dX5_seed_10 : decode cX5_seed 10 = .ok (.lload_n 3, 1) := by decide +kernel
theorem dX5_seed_11 : decode cX5_seed 11 = .ok (.lreturn, 1) := by decide +kernel
theorem dX5_play_0 : decode cX5_play 0 = .ok (.iload_n 1, 1) := by decide +kernel
theorem dX5_play_1 : decode cX5_play 1 = .ok (.iconst 1, 1) := by decide +kernel
theorem dX5_play_2 : decode cX5_play 2 = .ok (.if_icmp .lt 9, 3) := by decide +kernel
theorem dX5_play_5 : decode cX5_play 5 = .ok (.iload_n 1, 1) := by decide +kernel
theorem dX5_play_6 : decode cX5_play 6 = .ok (.bipush 40, 2) := by decide +kernel
theorem dX5_play_8 : decode cX5_play 8 = .ok (.if_icmp .le 6, 3) := by decide +kernel
theorem dX5_play_11 : decode cX5_play 11 = .ok (.bipush (-2), 2) := by decide +kernel
theorem dX5_play_13 : decode cX5_play 13 = .ok (.ireturn, 1) := by decide +kernel
theorem dX5_play_14 : decode cX5_play 14 = .ok (.aload_n 0, 1) := by decide +kernel
theorem dX5_play_15 : decode cX5_play 15 = .ok (.getfield 28, 3) := by decide +kernel
theorem dX5_play_18 : decode cX5_play 18 = .ok (.aload_n 0, 1) := by decide +kernel
theorem dX5_play_19 : decode cX5_play 19 = .ok (.getfield 32, 3) := by decide +kernel
theorem dX5_play_22 : decode cX5_play 22 = .ok (.invokevirtual 160, 3) := by decide +kernel
theorem dX5_play_25 : decode cX5_play 25 = .ok (.iconst 0, 1) := by decide +kernel
theorem dX5_play_26 : decode cX5_play 26 = .ok (.istore_n 2, 1) := by decide +kernel
theorem dX5_play_27 : decode cX5_play 27 = .ok (.iload_n 2, 1) := by decide +kernel
theorem dX5_play_28 : decode cX5_play 28 = .ok (.iload_n 1, 1) := by decide +kernel
theorem dX5_play_29 : decode cX5_play 29 = .ok (.if_icmp .ge 77, 3) := by decide +kernel
theorem dX5_play_32 : decode cX5_play 32 = .ok (.aload_n 0, 1) := by decide +kernel
theorem dX5_play_33 : decode cX5_play 33 = .ok (.getfield 28, 3) := by decide +kernel
theorem dX5_play_36 : decode cX5_play 36 = .ok (.aload_n 0, 1) := by decide +kernel
theorem dX5_play_37 : decode cX5_play 37 = .ok (.getfield 19, 3) := by decide +kernel
theorem dX5_play_40 : decode cX5_play 40 = .ok (.invokevirtual 136, 3) := by decide +kernel
theorem dX5_play_43 : decode cX5_play 43 = .ok (.istore_n 3, 1) := by decide +kernel
theorem dX5_play_44 : decode cX5_play 44 = .ok (.iload_n 3, 1) := by decide +kernel
theorem dX5_play_45 : decode cX5_play 45 = .ok (.iconst 1, 1) := by decide +kernel
theorem dX5_play_46 : decode cX5_play 46 = .ok (.if_icmp .ge 6, 3) := by decide +kernel
theorem dX5_play_49 : decode cX5_play 49 = .ok (.goto 57, 3) := by decide +kernel
theorem dX5_play_52 : decode cX5_play 52 = .ok (.aload_n 0, 1) := by decide +kernel
theorem dX5_play_53 : decode cX5_play 53 = .ok (.aload_n 0, 1) := by decide +kernel
theorem dX5_play_54 : decode cX5_play 54 = .ok (.getfield 54, 3) := by decide +kernel
theorem dX5_play_57 : decode cX5_play 57 = .ok (.ldc2_w 215, 3) := by decide +kernel
theorem dX5_play_60 : decode cX5_play 60 = .ok (.lmul, 1) := by decide +kernel
theorem dX5_play_61 : decode cX5_play 61 = .ok (.ldc2_w 217, 3) := by decide +kernel
theorem dX5_play_64 : decode cX5_play 64 = .ok (.ladd, 1) := by decide +kernel
theorem dX5_play_65 : decode cX5_play 65 = .ok (.putfield 54, 3) := by decide +kernel
theorem dX5_play_68 : decode cX5_play 68 = .ok (.aload_n 0, 1) := by decide +kernel
theorem dX5_play_69 : decode cX5_play 69 = .ok (.getfield 28, 3) := by decide +kernel
theorem dX5_play_72 : decode cX5_play 72 = .ok (.aload_n 0, 1) := by decide +kernel
theorem dX5_play_73 : decode cX5_play 73 = .ok (.getfield 28, 3) := by decide +kernel
theorem dX5_play_76 : decode cX5_play 76 = .ok (.aload_n 0, 1) := by decide +kernel
theorem dX5_play_77 : decode cX5_play 77 = .ok (.getfield 54, 3) := by decide +kernel
theorem dX5_play_80 : decode cX5_play 80 = .ok (.bipush 33, 2) := by decide +kernel
theorem dX5_play_82 : decode cX5_play 82 = .ok (.lushr, 1) := by decide +kernel
theorem dX5_play_83 : decode cX5_play 83 = .ok (.iload_n 3, 1) := by decide +kernel
theorem dX5_play_84 : decode cX5_play 84 = .ok (.i2l, 1) := by decide +kernel
theorem dX5_play_85 : decode cX5_play 85 = .ok (.lrem, 1) := by decide +kernel
theorem dX5_play_86 : decode cX5_play 86 = .ok (.l2i, 1) := by decide +kernel
theorem dX5_play_87 : decode cX5_play 87 = .ok (.invokevirtual 151, 3) := by decide +kernel
theorem dX5_play_90 : decode cX5_play 90 = .ok (.aload_n 0, 1) := by decide +kernel
theorem dX5_play_91 : decode cX5_play 91 = .ok (.getfield 19, 3) := by decide +kernel
theorem dX5_play_94 : decode cX5_play 94 = .ok (.getfield 146, 3) := by decide +kernel
theorem dX5_play_97 : decode cX5_play 97 = .ok (.invokevirtual 148, 3) := by decide +kernel
theorem dX5_play_100 : decode cX5_play 100 = .ok (.iinc 2 1, 3) := by decide +kernel
theorem dX5_play_103 : decode cX5_play 103 = .ok (.goto (-76), 3) := by decide +kernel
theorem dX5_play_106 : decode cX5_play 106 = .ok (.aload_n 0, 1) := by decide +kernel
theorem dX5_play_107 : decode cX5_play 107 = .ok (.getfield 28, 3) := by decide +kernel
theorem dX5_play_110 : decode cX5_play 110 = .ok (.invokevirtual 219, 3) := by decide +kernel
theorem dX5_play_113 : decode cX5_play 113 = .ok (.ireturn, 1) := by decide +kernel
theorem dX5_keep_0 : decode cX5_keep 0 = .ok (.iload_n 1, 1) := by decide +kernel
theorem dX5_keep_1 : decode cX5_keep 1 = .ok (.invokestatic 201, 3) := by decide +kernel
theorem dX5_keep_4 : decode cX5_keep 4 = .ok (.ifCond .ne 5, 3) := by decide +kernel
theorem dX5_keep_7 : decode cX5_keep 7 = .ok (.iconst (-1), 1) := by decide +kernel
theorem dX5_keep_8 : decode cX5_keep 8 = .ok (.ireturn, 1) := by decide +kernel
theorem dX5_keep_9 : decode cX5_keep 9 = .ok (.aload_n 0, 1) := by decide +kernel
theorem dX5_keep_10 : decode cX5_keep 10 = .ok (.getfield 50, 3) := by decide +kernel
theorem dX5_keep_13 : decode cX5_keep 13 = .ok (.iload_n 1, 1) := by decide +kernel
theorem dX5_keep_14 : decode cX5_keep 14 = .ok (.aload_n 0, 1) := by decide +kernel
theorem dX5_keep_15 : decode cX5_keep 15 = .ok (.getfield 32, 3) := by decide +kernel
theorem dX5_keep_18 : decode cX5_keep 18 = .ok (.invokevirtual 222, 3) := by decide +kernel
theorem dX5_keep_21 : decode cX5_keep 21 = .ok (.aload_n 0, 1) := by decide +kernel
theorem dX5_keep_22 : decode cX5_keep 22 = .ok (.getfield 32, 3) := by decide +kernel
theorem dX5_keep_25 : decode cX5_keep 25 = .ok (.invokevirtual 219, 3) := by decide +kernel
theorem dX5_keep_28 : decode cX5_keep 28 = .ok (.ireturn, 1) := by decide +kernel
theorem dX5_again_0 : decode cX5_again 0 = .ok (.iload_n 1, 1) := by decide +kernel
theorem dX5_again_1 : decode cX5_again 1 = .ok (.invokestatic 201, 3) := by decide +kernel
theorem dX5_again_4 : decode cX5_again 4 = .ok (.ifCond .ne 5, 3) := by decide +kernel
theorem dX5_again_7 : decode cX5_again 7 = .ok (.iconst (-1), 1) := by decide +kernel
theorem dX5_again_8 : decode cX5_again 8 = .ok (.ireturn, 1) := by decide +kernel
theorem dX5_again_9 : decode cX5_again 9 = .ok (.aload_n 0, 1) := by decide +kernel
theorem dX5_again_10 : decode cX5_again 10 = .ok (.getfield 50, 3) := by decide +kernel
theorem dX5_again_13 : decode cX5_again 13 = .ok (.iload_n 1, 1) := by decide +kernel
theorem dX5_again_14 : decode cX5_again 14 = .ok (.invokevirtual 204, 3) := by decide +kernel
theorem dX5_again_17 : decode cX5_again 17 = .ok (.ifCond .ne 6, 3) := by decide +kernel
theorem dX5_again_20 : decode cX5_again 20 = .ok (.bipush (-3), 2) := by decide +kernel
theorem dX5_again_22 : decode cX5_again 22 = .ok (.ireturn, 1) := by decide +kernel
theorem dX5_again_23 : decode cX5_again 23 = .ok (.aload_n 0, 1) := by decide +kernel
theorem dX5_again_24 : decode cX5_again 24 = .ok (.getfield 50, 3) := by decide +kernel
theorem dX5_again_27 : decode cX5_again 27 = .ok (.iload_n 1, 1) := by decide +kernel
theorem dX5_again_28 : decode cX5_again 28 = .ok (.aload_n 0, 1) := by decide +kernel
theorem dX5_again_29 : decode cX5_again 29 = .ok (.getfield 32, 3) := by decide +kernel
theorem dX5_again_32 : decode cX5_again 32 = .ok (.invokevirtual 207, 3) := by decide +kernel
theorem dX5_again_35 : decode cX5_again 35 = .ok (.aload_n 0, 1) := by decide +kernel
theorem dX5_again_36 : decode cX5_again 36 = .ok (.getfield 41, 3) := by decide +kernel
theorem dX5_again_39 : decode cX5_again 39 = .ok (.invokevirtual 103, 3) := by decide +kernel
theorem dX5_again_42 : decode cX5_again 42 = .ok (.aload_n 0, 1) := by decide +kernel
theorem dX5_again_43 : decode cX5_again 43 = .ok (.getfield 32, 3) := by decide +kernel
theorem dX5_again_46 : decode cX5_again 46 = .ok (.invokevirtual 219, 3) := by decide +kernel
theorem dX5_again_49 : decode cX5_again 49 = .ok (.ireturn, 1) := by decide +kernel
theorem dX5_count_0 : decode cX5_count 0 = .ok (.iload_n 1, 1) := by decide +kernel
theorem dX5_count_1 : decode cX5_count 1 = .ok (.tableswitch 135 0 9 #[55, 63, 71, 79, 87, 95, 103, 111, 119, 127], 55) := by decide +kernel
theorem dX5_count_56 : decode cX5_count 56 = .ok (.aload_n 0, 1) := by decide +kernel
theorem dX5_count_57 : decode cX5_count 57 = .ok (.getfield 12, 3) := by decide +kernel
theorem dX5_count_60 : decode cX5_count 60 = .ok (.getfield 62, 3) := by decide +kernel
theorem dX5_count_63 : decode cX5_count 63 = .ok (.ireturn, 1) := by decide +kernel
theorem dX5_count_64 : decode cX5_count 64 = .ok (.aload_n 0, 1) := by decide +kernel
theorem dX5_count_65 : decode cX5_count 65 = .ok (.getfield 19, 3) := by decide +kernel
theorem dX5_count_68 : decode cX5_count 68 = .ok (.getfield 225, 3) := by decide +kernel
theorem dX5_count_71 : decode cX5_count 71 = .ok (.ireturn, 1) := by decide +kernel
theorem dX5_count_72 : decode cX5_count 72 = .ok (.aload_n 0, 1) := by decide +kernel
theorem dX5_count_73 : decode cX5_count 73 = .ok (.getfield 19, 3) := by decide +kernel
theorem dX5_count_76 : decode cX5_count 76 = .ok (.getfield 227, 3) := by decide +kernel
theorem dX5_count_79 : decode cX5_count 79 = .ok (.ireturn, 1) := by decide +kernel
theorem dX5_count_80 : decode cX5_count 80 = .ok (.aload_n 0, 1) := by decide +kernel
theorem dX5_count_81 : decode cX5_count 81 = .ok (.getfield 19, 3) := by decide +kernel
theorem dX5_count_84 : decode cX5_count 84 = .ok (.getfield 146, 3) := by decide +kernel
theorem dX5_count_87 : decode cX5_count 87 = .ok (.ireturn, 1) := by decide +kernel
theorem dX5_count_88 : decode cX5_count 88 = .ok (.aload_n 0, 1) := by decide +kernel
theorem dX5_count_89 : decode cX5_count 89 = .ok (.getfield 32, 3) := by decide +kernel
theorem dX5_count_92 : decode cX5_count 92 = .ok (.getfield 100, 3) := by decide +kernel
theorem dX5_count_95 : decode cX5_count 95 = .ok (.ireturn, 1) := by decide +kernel
theorem dX5_count_96 : decode cX5_count 96 = .ok (.aload_n 0, 1) := by decide +kernel
theorem dX5_count_97 : decode cX5_count 97 = .ok (.getfield 32, 3) := by decide +kernel
theorem dX5_count_100 : decode cX5_count 100 = .ok (.getfield 195, 3) := by decide +kernel
theorem dX5_count_103 : decode cX5_count 103 = .ok (.ireturn, 1) := by decide +kernel
theorem dX5_count_104 : decode cX5_count 104 = .ok (.aload_n 0, 1) := by decide +kernel
theorem dX5_count_105 : decode cX5_count 105 = .ok (.getfield 32, 3) := by decide +kernel
theorem dX5_count_108 : decode cX5_count 108 = .ok (.getfield 198, 3) := by decide +kernel
theorem dX5_count_111 : decode cX5_count 111 = .ok (.ireturn, 1) := by decide +kernel
theorem dX5_count_112 : decode cX5_count 112 = .ok (.aload_n 0, 1) := by decide +kernel
theorem dX5_count_113 : decode cX5_count 113 = .ok (.getfield 32, 3) := by decide +kernel
theorem dX5_count_116 : decode cX5_count 116 = .ok (.getfield 115, 3) := by decide +kernel
theorem dX5_count_119 : decode cX5_count 119 = .ok (.ireturn, 1) := by decide +kernel
theorem dX5_count_120 : decode cX5_count 120 = .ok (.aload_n 0, 1) := by decide +kernel
theorem dX5_count_121 : decode cX5_count 121 = .ok (.getfield 41, 3) := by decide +kernel
theorem dX5_count_124 : decode cX5_count 124 = .ok (.getfield 154, 3) := by decide +kernel
theorem dX5_count_127 : decode cX5_count 127 = .ok (.ireturn, 1) := by decide +kernel
theorem dX5_count_128 : decode cX5_count 128 = .ok (.aload_n 0, 1) := by decide +kernel
theorem dX5_count_129 : decode cX5_count 129 = .ok (.getfield 32, 3) := by decide +kernel
theorem dX5_count_132 : decode cX5_count 132 = .ok (.getfield 229, 3) := by decide +kernel
theorem dX5_count_135 : decode cX5_count 135 = .ok (.ireturn, 1) := by decide +kernel
theorem dX5_count_136 : decode cX5_count 136 = .ok (.bipush (-2), 2) := by decide +kernel
theorem dX5_count_138 : decode cX5_count 138 = .ok (.ireturn, 1) := by decide +kernel
theorem dX5_isCell_0 : decode cX5_isCell 0 = .ok (.iload_n 1, 1) := by decide +kernel
theorem dX5_isCell_1 : decode cX5_isCell 1 = .ok (.ifCond .lt 18, 3) := by decide +kernel
theorem dX5_isCell_4 : decode cX5_isCell 4 = .ok (.iload_n 1, 1) := by decide +kernel
theorem dX5_isCell_5 : decode cX5_isCell 5 = .ok (.aload_n 0, 1) := by decide +kernel
theorem dX5_isCell_6 : decode cX5_isCell 6 = .ok (.getfield 19, 3) := by decide +kernel
theorem dX5_isCell_9 : decode cX5_isCell 9 = .ok (.getfield 86, 3) := by decide +kernel
theorem dX5_isCell_12 : decode cX5_isCell 12 = .ok (.if_icmp .ge 7, 3) := by decide +kernel
theorem dX5_isCell_15 : decode cX5_isCell 15 = .ok (.iconst 1, 1) := by decide +kernel
theorem dX5_isCell_16 : decode cX5_isCell 16 = .ok (.goto 4, 3) := by decide +kernel
theorem dX5_isCell_19 : decode cX5_isCell 19 = .ok (.iconst 0, 1) := by decide +kernel
theorem dX5_isCell_20 : decode cX5_isCell 20 = .ok (.ireturn, 1) := by decide +kernel
theorem dX5_isSlot_0 : decode cX5_isSlot 0 = .ok (.iload_n 0, 1) := by decide +kernel
theorem dX5_isSlot_1 : decode cX5_isSlot 1 = .ok (.ifCond .lt 12, 3) := by decide +kernel
theorem dX5_isSlot_4 : decode cX5_isSlot 4 = .ok (.iload_n 0, 1) := by decide +kernel
theorem dX5_isSlot_5 : decode cX5_isSlot 5 = .ok (.iconst 2, 1) := by decide +kernel
theorem dX5_isSlot_6 : decode cX5_isSlot 6 = .ok (.if_icmp .ge 7, 3) := by decide +kernel
theorem dX5_isSlot_9 : decode cX5_isSlot 9 = .ok (.iconst 1, 1) := by decide +kernel
theorem dX5_isSlot_10 : decode cX5_isSlot 10 = .ok (.goto 4, 3) := by decide +kernel
theorem dX5_isSlot_13 : decode cX5_isSlot 13 = .ok (.iconst 0, 1) := by decide +kernel
theorem dX5_isSlot_14 : decode cX5_isSlot 14 = .ok (.ireturn, 1) := by decide +kernel
theorem dX5_refusedAhead_0 : decode cX5_refusedAhead 0 = .ok (.iload_n 1, 1) := by decide +kernel
theorem dX5_refusedAhead_1 : decode cX5_refusedAhead 1 = .ok (.iconst 1, 1) := by decide +kernel
theorem dX5_refusedAhead_2 : decode cX5_refusedAhead 2 = .ok (.if_icmp .lt 8, 3) := by decide +kernel
theorem dX5_refusedAhead_5 : decode cX5_refusedAhead 5 = .ok (.iload_n 1, 1) := by decide +kernel
theorem dX5_refusedAhead_6 : decode cX5_refusedAhead 6 = .ok (.iconst 4, 1) := by decide +kernel
theorem dX5_refusedAhead_7 : decode cX5_refusedAhead 7 = .ok (.if_icmp .le 6, 3) := by decide +kernel
theorem dX5_refusedAhead_10 : decode cX5_refusedAhead 10 = .ok (.bipush (-2), 2) := by decide +kernel
theorem dX5_refusedAhead_12 : decode cX5_refusedAhead 12 = .ok (.ireturn, 1) := by decide +kernel
theorem dX5_refusedAhead_13 : decode cX5_refusedAhead 13 = .ok (.aload_n 0, 1) := by decide +kernel
theorem dX5_refusedAhead_14 : decode cX5_refusedAhead 14 = .ok (.getfield 32, 3) := by decide +kernel
theorem dX5_refusedAhead_17 : decode cX5_refusedAhead 17 = .ok (.getfield 229, 3) := by decide +kernel
theorem dX5_refusedAhead_20 : decode cX5_refusedAhead 20 = .ok (.bipush (-9), 2) := by decide +kernel
theorem dX5_refusedAhead_22 : decode cX5_refusedAhead 22 = .ok (.if_icmp .eq 8, 3) := by decide +kernel
theorem dX5_refusedAhead_25 : decode cX5_refusedAhead 25 = .ok (.bipush (-3), 2) := by decide +kernel
theorem dX5_refusedAhead_27 : decode cX5_refusedAhead 27 = .ok (.goto 5, 3) := by decide +kernel
theorem dX5_refusedAhead_30 : decode cX5_refusedAhead 30 = .ok (.bipush (-9), 2) := by decide +kernel
theorem dX5_refusedAhead_32 : decode cX5_refusedAhead 32 = .ok (.ireturn, 1) := by decide +kernel
theorem dX5_may_0 : decode cX5_may 0 = .ok (.iload_n 2, 1) := by decide +kernel
theorem dX5_may_1 : decode cX5_may 1 = .ok (.bipush 100, 2) := by decide +kernel
theorem dX5_may_3 : decode cX5_may 3 = .ok (.idiv, 1) := by decide +kernel
theorem dX5_may_4 : decode cX5_may 4 = .ok (.istore_n 3, 1) := by decide +kernel
theorem dX5_may_5 : decode cX5_may 5 = .ok (.iload_n 2, 1) := by decide +kernel
theorem dX5_may_6 : decode cX5_may 6 = .ok (.bipush 100, 2) := by decide +kernel
theorem dX5_may_8 : decode cX5_may 8 = .ok (.irem, 1) := by decide +kernel
theorem dX5_may_9 : decode cX5_may 9 = .ok (.istore 4, 2) := by decide +kernel
theorem dX5_may_11 : decode cX5_may 11 = .ok (.aload_n 0, 1) := by decide +kernel
theorem dX5_may_12 : decode cX5_may 12 = .ok (.iload_n 3, 1) := by decide +kernel
theorem dX5_may_13 : decode cX5_may 13 = .ok (.invokevirtual 105, 3) := by decide +kernel
theorem dX5_may_16 : decode cX5_may 16 = .ok (.ifCond .eq 57, 3) := by decide +kernel
theorem dX5_may_19 : decode cX5_may 19 = .ok (.aload_n 0, 1) := by decide +kernel
theorem dX5_may_20 : decode cX5_may 20 = .ok (.iload 4, 2) := by decide +kernel
theorem dX5_may_22 : decode cX5_may 22 = .ok (.invokevirtual 105, 3) := by decide +kernel
theorem dX5_may_25 : decode cX5_may 25 = .ok (.ifCond .eq 48, 3) := by decide +kernel
theorem dX5_may_28 : decode cX5_may 28 = .ok (.aload_n 1, 1) := by decide +kernel
theorem dX5_may_29 : decode cX5_may 29 = .ok (.getfield 229, 3) := by decide +kernel
theorem dX5_may_32 : decode cX5_may 32 = .ok (.bipush (-9), 2) := by decide +kernel
theorem dX5_may_34 : decode cX5_may 34 = .ok (.if_icmp .ne 39, 3) := by decide +kernel
theorem dX5_may_37 : decode cX5_may 37 = .ok (.aload_n 1, 1) := by decide +kernel
theorem dX5_may_38 : decode cX5_may 38 = .ok (.aload_n 1, 1) := by decide +kernel
theorem dX5_may_39 : decode cX5_may 39 = .ok (.getfield 100, 3) := by decide +kernel
theorem dX5_may_42 : decode cX5_may 42 = .ok (.invokevirtual 176, 3) := by decide +kernel
theorem dX5_may_45 : decode cX5_may 45 = .ok (.iload_n 3, 1) := by decide +kernel
theorem dX5_may_46 : decode cX5_may 46 = .ok (.invokestatic 118, 3) := by decide +kernel
theorem dX5_may_49 : decode cX5_may 49 = .ok (.ifCond .eq 24, 3) := by decide +kernel
theorem dX5_may_52 : decode cX5_may 52 = .ok (.aload_n 1, 1) := by decide +kernel
theorem dX5_may_53 : decode cX5_may 53 = .ok (.aload_n 0, 1) := by decide +kernel
theorem dX5_may_54 : decode cX5_may 54 = .ok (.getfield 19, 3) := by decide +kernel
theorem dX5_may_57 : decode cX5_may 57 = .ok (.iload_n 3, 1) := by decide +kernel
theorem dX5_may_58 : decode cX5_may 58 = .ok (.invokevirtual 132, 3) := by decide +kernel
theorem dX5_may_61 : decode cX5_may 61 = .ok (.iload 4, 2) := by decide +kernel
theorem dX5_may_63 : decode cX5_may 63 = .ok (.invokestatic 118, 3) := by decide +kernel
theorem dX5_may_66 : decode cX5_may 66 = .ok (.ifCond .eq 7, 3) := by decide +kernel
theorem dX5_may_69 : decode cX5_may 69 = .ok (.iconst 1, 1) := by decide +kernel
theorem dX5_may_70 : decode cX5_may 70 = .ok (.goto 4, 3) := by decide +kernel
theorem dX5_may_73 : decode cX5_may 73 = .ok (.iconst 0, 1) := by decide +kernel
theorem dX5_may_74 : decode cX5_may 74 = .ok (.ireturn, 1) := by decide +kernel
theorem dX5_listKeys_0 : decode cX5_listKeys 0 = .ok (.aload_n 0, 1) := by decide +kernel
theorem dX5_listKeys_1 : decode cX5_listKeys 1 = .ok (.getfield 32, 3) := by decide +kernel
theorem dX5_listKeys_4 : decode cX5_listKeys 4 = .ok (.aload_n 0, 1) := by decide +kernel
theorem dX5_listKeys_5 : decode cX5_listKeys 5 = .ok (.getfield 19, 3) := by decide +kernel
theorem dX5_listKeys_8 : decode cX5_listKeys 8 = .ok (.invokevirtual 136, 3) := by decide +kernel
theorem dX5_listKeys_11 : decode cX5_listKeys 11 = .ok (.istore_n 2, 1) := by decide +kernel
theorem dX5_listKeys_12 : decode cX5_listKeys 12 = .ok (.iconst 0, 1) := by decide +kernel
theorem dX5_listKeys_13 : decode cX5_listKeys 13 = .ok (.istore_n 3, 1) := by decide +kernel
theorem dX5_listKeys_14 : decode cX5_listKeys 14 = .ok (.iconst 0, 1) := by decide +kernel
theorem dX5_listKeys_15 : decode cX5_listKeys 15 = .ok (.istore 4, 2) := by decide +kernel
theorem dX5_listKeys_17 : decode cX5_listKeys 17 = .ok (.iload 4, 2) := by decide +kernel
theorem dX5_listKeys_19 : decode cX5_listKeys 19 = .ok (.iload_n 2, 1) := by decide +kernel
theorem dX5_listKeys_20 : decode cX5_listKeys 20 = .ok (.if_icmp .ge 77, 3) := by decide +kernel
theorem dX5_listKeys_23 : decode cX5_listKeys 23 = .ok (.aload_n 0, 1) := by decide +kernel
theorem dX5_listKeys_24 : decode cX5_listKeys 24 = .ok (.getfield 32, 3) := by decide +kernel
theorem dX5_listKeys_27 : decode cX5_listKeys 27 = .ok (.iload 4, 2) := by decide +kernel
theorem dX5_listKeys_29 : decode cX5_listKeys 29 = .ok (.invokevirtual 151, 3) := by decide +kernel
theorem dX5_listKeys_32 : decode cX5_listKeys 32 = .ok (.istore 5, 2) := by decide +kernel
theorem dX5_listKeys_34 : decode cX5_listKeys 34 = .ok (.aload_n 0, 1) := by decide +kernel
theorem dX5_listKeys_35 : decode cX5_listKeys 35 = .ok (.getfield 28, 3) := by decide +kernel
theorem dX5_listKeys_38 : decode cX5_listKeys 38 = .ok (.aload_n 0, 1) := by decide +kernel
theorem dX5_listKeys_39 : decode cX5_listKeys 39 = .ok (.getfield 32, 3) := by decide +kernel
theorem dX5_listKeys_42 : decode cX5_listKeys 42 = .ok (.iload 5, 2) := by decide +kernel
theorem dX5_listKeys_44 : decode cX5_listKeys 44 = .ok (.aload_n 0, 1) := by decide +kernel
theorem dX5_listKeys_45 : decode cX5_listKeys 45 = .ok (.getfield 19, 3) := by decide +kernel
theorem dX5_listKeys_48 : decode cX5_listKeys 48 = .ok (.getfield 146, 3) := by decide +kernel
theorem dX5_listKeys_51 : decode cX5_listKeys 51 = .ok (.invokevirtual 232, 3) := by decide +kernel
theorem dX5_listKeys_54 : decode cX5_listKeys 54 = .ok (.aload_n 0, 1) := by decide +kernel
theorem dX5_listKeys_55 : decode cX5_listKeys 55 = .ok (.getfield 19, 3) := by decide +kernel
theorem dX5_listKeys_58 : decode cX5_listKeys 58 = .ok (.aload_n 0, 1) := by decide +kernel
theorem dX5_listKeys_59 : decode cX5_listKeys 59 = .ok (.getfield 28, 3) := by decide +kernel
theorem dX5_listKeys_62 : decode cX5_listKeys 62 = .ok (.aload_n 0, 1) := by decide +kernel
theorem dX5_listKeys_63 : decode cX5_listKeys 63 = .ok (.getfield 32, 3) := by decide +kernel
theorem dX5_listKeys_66 : decode cX5_listKeys 66 = .ok (.getfield 100, 3) := by decide +kernel
theorem dX5_listKeys_69 : decode cX5_listKeys 69 = .ok (.iload_n 1, 1) := by decide +kernel
theorem dX5_listKeys_70 : decode cX5_listKeys 70 = .ok (.iconst 1, 1) := by decide +kernel
theorem dX5_listKeys_71 : decode cX5_listKeys 71 = .ok (.isub, 1) := by decide +kernel
theorem dX5_listKeys_72 : decode cX5_listKeys 72 = .ok (.invokestatic 166, 3) := by decide +kernel
theorem dX5_listKeys_75 : decode cX5_listKeys 75 = .ok (.ifCond .eq 16, 3) := by decide +kernel
theorem dX5_listKeys_78 : decode cX5_listKeys 78 = .ok (.aload_n 0, 1) := by decide +kernel
theorem dX5_listKeys_79 : decode cX5_listKeys 79 = .ok (.getfield 32, 3) := by decide +kernel
theorem dX5_listKeys_82 : decode cX5_listKeys 82 = .ok (.iload_n 3, 1) := by decide +kernel
theorem dX5_listKeys_83 : decode cX5_listKeys 83 = .ok (.iload 5, 2) := by decide +kernel
theorem dX5_listKeys_85 : decode cX5_listKeys 85 = .ok (.invokevirtual 236, 3) := by decide +kernel
theorem dX5_listKeys_88 : decode cX5_listKeys 88 = .ok (.iinc 3 1, 3) := by decide +kernel
theorem dX5_listKeys_91 : decode cX5_listKeys 91 = .ok (.iinc 4 1, 3) := by decide +kernel
theorem dX5_listKeys_94 : decode cX5_listKeys 94 = .ok (.goto (-77), 3) := by decide +kernel
theorem dX5_listKeys_97 : decode cX5_listKeys 97 = .ok (.iload_n 3, 1) := by decide +kernel
theorem dX5_listKeys_98 : decode cX5_listKeys 98 = .ok (.ireturn, 1) := by decide +kernel
theorem dX5_partsAheadOf_0 : decode cX5_partsAheadOf 0 = .ok (.aload_n 0, 1) := by decide +kernel
theorem dX5_partsAheadOf_1 : decode cX5_partsAheadOf 1 = .ok (.getfield 19, 3) := by decide +kernel
theorem dX5_partsAheadOf_4 : decode cX5_partsAheadOf 4 = .ok (.invokevirtual 239, 3) := by decide +kernel
theorem dX5_partsAheadOf_7 : decode cX5_partsAheadOf 7 = .ok (.aload_n 0, 1) := by decide +kernel
theorem dX5_partsAheadOf_8 : decode cX5_partsAheadOf 8 = .ok (.getfield 32, 3) := by decide +kernel
theorem dX5_partsAheadOf_11 : decode cX5_partsAheadOf 11 = .ok (.getfield 115, 3) := by decide +kernel
theorem dX5_partsAheadOf_14 : decode cX5_partsAheadOf 14 = .ok (.iconst (-1), 1) := by decide +kernel
theorem dX5_partsAheadOf_15 : decode cX5_partsAheadOf 15 = .ok (.ixor, 1) := by decide +kernel
theorem dX5_partsAheadOf_16 : decode cX5_partsAheadOf 16 = .ok (.iand, 1) := by decide +kernel
theorem dX5_partsAheadOf_17 : decode cX5_partsAheadOf 17 = .ok (.istore_n 2, 1) := by decide +kernel
theorem dX5_partsAheadOf_18 : decode cX5_partsAheadOf 18 = .ok (.iconst 0, 1) := by decide +kernel
theorem dX5_partsAheadOf_19 : decode cX5_partsAheadOf 19 = .ok (.istore_n 3, 1) := by decide +kernel
theorem dX5_partsAheadOf_20 : decode cX5_partsAheadOf 20 = .ok (.iconst 0, 1) := by decide +kernel
theorem dX5_partsAheadOf_21 : decode cX5_partsAheadOf 21 = .ok (.istore 4, 2) := by decide +kernel
theorem dX5_partsAheadOf_23 : decode cX5_partsAheadOf 23 = .ok (.iconst 0, 1) := by decide +kernel
theorem dX5_partsAheadOf_24 : decode cX5_partsAheadOf 24 = .ok (.istore 5, 2) := by decide +kernel
theorem dX5_partsAheadOf_26 : decode cX5_partsAheadOf 26 = .ok (.iload 5, 2) := by decide +kernel
theorem dX5_partsAheadOf_28 : decode cX5_partsAheadOf 28 = .ok (.aload_n 0, 1) := by decide +kernel
theorem dX5_partsAheadOf_29 : decode cX5_partsAheadOf 29 = .ok (.getfield 19, 3) := by decide +kernel
theorem dX5_partsAheadOf_32 : decode cX5_partsAheadOf 32 = .ok (.getfield 86, 3) := by decide +kernel
theorem dX5_partsAheadOf_35 : decode cX5_partsAheadOf 35 = .ok (.if_icmp .ge 52, 3) := by decide +kernel
theorem dX5_partsAheadOf_38 : decode cX5_partsAheadOf 38 = .ok (.iload_n 2, 1) := by decide +kernel
theorem dX5_partsAheadOf_39 : decode cX5_partsAheadOf 39 = .ok (.iload_n 3, 1) := by decide +kernel
theorem dX5_partsAheadOf_40 : decode cX5_partsAheadOf 40 = .ok (.iconst (-1), 1) := by decide +kernel
theorem dX5_partsAheadOf_41 : decode cX5_partsAheadOf 41 = .ok (.ixor, 1) := by decide +kernel
theorem dX5_partsAheadOf_42 : decode cX5_partsAheadOf 42 = .ok (.iand, 1) := by decide +kernel
theorem dX5_partsAheadOf_43 : decode cX5_partsAheadOf 43 = .ok (.iload 5, 2) := by decide +kernel
theorem dX5_partsAheadOf_45 : decode cX5_partsAheadOf 45 = .ok (.invokestatic 118, 3) := by decide +kernel
theorem dX5_partsAheadOf_48 : decode cX5_partsAheadOf 48 = .ok (.ifCond .eq 33, 3) := by decide +kernel
theorem dX5_partsAheadOf_51 : decode cX5_partsAheadOf 51 = .ok (.aload_n 0, 1) := by decide +kernel
theorem dX5_partsAheadOf_52 : decode cX5_partsAheadOf 52 = .ok (.getfield 19, 3) := by decide +kernel
theorem dX5_partsAheadOf_55 : decode cX5_partsAheadOf 55 = .ok (.iload 5, 2) := by decide +kernel
theorem dX5_partsAheadOf_57 : decode cX5_partsAheadOf 57 = .ok (.iload_n 2, 1) := by decide +kernel
theorem dX5_partsAheadOf_58 : decode cX5_partsAheadOf 58 = .ok (.invokevirtual 242, 3) := by decide +kernel
theorem dX5_partsAheadOf_61 : decode cX5_partsAheadOf 61 = .ok (.istore 6, 2) := by decide +kernel
theorem dX5_partsAheadOf_63 : decode cX5_partsAheadOf 63 = .ok (.iload 6, 2) := by decide +kernel
theorem dX5_partsAheadOf_65 : decode cX5_partsAheadOf 65 = .ok (.iload_n 1, 1) := by decide +kernel
theorem dX5_partsAheadOf_66 : decode cX5_partsAheadOf 66 = .ok (.iand, 1) := by decide +kernel
theorem dX5_partsAheadOf_67 : decode cX5_partsAheadOf 67 = .ok (.ifCond .eq 6, 3) := by decide +kernel
theorem dX5_partsAheadOf_70 : decode cX5_partsAheadOf 70 = .ok (.iload 4, 2) := by decide +kernel
theorem dX5_partsAheadOf_72 : decode cX5_partsAheadOf 72 = .ok (.ireturn, 1) := by decide +kernel
theorem dX5_partsAheadOf_73 : decode cX5_partsAheadOf 73 = .ok (.iload_n 3, 1) := by decide +kernel
theorem dX5_partsAheadOf_74 : decode cX5_partsAheadOf 74 = .ok (.iload 6, 2) := by decide +kernel
theorem dX5_partsAheadOf_76 : decode cX5_partsAheadOf 76 = .ok (.ior, 1) := by decide +kernel
theorem dX5_partsAheadOf_77 : decode cX5_partsAheadOf 77 = .ok (.istore_n 3, 1) := by decide +kernel
theorem dX5_partsAheadOf_78 : decode cX5_partsAheadOf 78 = .ok (.iinc 4 1, 3) := by decide +kernel
theorem dX5_partsAheadOf_81 : decode cX5_partsAheadOf 81 = .ok (.iinc 5 1, 3) := by decide +kernel
theorem dX5_partsAheadOf_84 : decode cX5_partsAheadOf 84 = .ok (.goto (-58), 3) := by decide +kernel
theorem dX5_partsAheadOf_87 : decode cX5_partsAheadOf 87 = .ok (.iload 4, 2) := by decide +kernel
theorem dX5_partsAheadOf_89 : decode cX5_partsAheadOf 89 = .ok (.ireturn, 1) := by decide +kernel
theorem dX5_canComeAt_0 : decode cX5_canComeAt 0 = .ok (.iconst 0, 1) := by decide +kernel
theorem dX5_canComeAt_1 : decode cX5_canComeAt 1 = .ok (.istore_n 3, 1) := by decide +kernel
theorem dX5_canComeAt_2 : decode cX5_canComeAt 2 = .ok (.iconst 0, 1) := by decide +kernel
theorem dX5_canComeAt_3 : decode cX5_canComeAt 3 = .ok (.istore 4, 2) := by decide +kernel
theorem dX5_canComeAt_5 : decode cX5_canComeAt 5 = .ok (.iconst 0, 1) := by decide +kernel
theorem dX5_canComeAt_6 : decode cX5_canComeAt 6 = .ok (.istore 5, 2) := by decide +kernel
theorem dX5_canComeAt_8 : decode cX5_canComeAt 8 = .ok (.iload 5, 2) := by decide +kernel
theorem dX5_canComeAt_10 : decode cX5_canComeAt 10 = .ok (.aload_n 0, 1) := by decide +kernel
theorem dX5_canComeAt_11 : decode cX5_canComeAt 11 = .ok (.getfield 19, 3) := by decide +kernel
theorem dX5_canComeAt_14 : decode cX5_canComeAt 14 = .ok (.getfield 86, 3) := by decide +kernel
theorem dX5_canComeAt_17 : decode cX5_canComeAt 17 = .ok (.if_icmp .ge 85, 3) := by decide +kernel
theorem dX5_canComeAt_20 : decode cX5_canComeAt 20 = .ok (.iload_n 1, 1) := by decide +kernel
theorem dX5_canComeAt_21 : decode cX5_canComeAt 21 = .ok (.iload 5, 2) := by decide +kernel
theorem dX5_canComeAt_23 : decode cX5_canComeAt 23 = .ok (.invokestatic 118, 3) := by decide +kernel
theorem dX5_canComeAt_26 : decode cX5_canComeAt 26 = .ok (.ifCond .eq 31, 3) := by decide +kernel
theorem dX5_canComeAt_29 : decode cX5_canComeAt 29 = .ok (.iload_n 3, 1) := by decide +kernel
theorem dX5_canComeAt_30 : decode cX5_canComeAt 30 = .ok (.aload_n 0, 1) := by decide +kernel
theorem dX5_canComeAt_31 : decode cX5_canComeAt 31 = .ok (.getfield 19, 3) := by decide +kernel
theorem dX5_canComeAt_34 : decode cX5_canComeAt 34 = .ok (.aload_n 0, 1) := by decide +kernel
theorem dX5_canComeAt_35 : decode cX5_canComeAt 35 = .ok (.getfield 32, 3) := by decide +kernel
theorem dX5_canComeAt_38 : decode cX5_canComeAt 38 = .ok (.iload 5, 2) := by decide +kernel
theorem dX5_canComeAt_40 : decode cX5_canComeAt 40 = .ok (.invokevirtual 109, 3) := by decide +kernel
theorem dX5_canComeAt_43 : decode cX5_canComeAt 43 = .ok (.iload 5, 2) := by decide +kernel
theorem dX5_canComeAt_45 : decode cX5_canComeAt 45 = .ok (.aload_n 0, 1) := by decide +kernel
theorem dX5_canComeAt_46 : decode cX5_canComeAt 46 = .ok (.getfield 32, 3) := by decide +kernel
theorem dX5_canComeAt_49 : decode cX5_canComeAt 49 = .ok (.getfield 115, 3) := by decide +kernel
theorem dX5_canComeAt_52 : decode cX5_canComeAt 52 = .ok (.invokevirtual 245, 3) := by decide +kernel
theorem dX5_canComeAt_55 : decode cX5_canComeAt 55 = .ok (.ior, 1) := by decide +kernel
theorem dX5_canComeAt_56 : decode cX5_canComeAt 56 = .ok (.istore_n 3, 1) := by decide +kernel
theorem dX5_canComeAt_57 : decode cX5_canComeAt 57 = .ok (.iload_n 2, 1) := by decide +kernel
theorem dX5_canComeAt_58 : decode cX5_canComeAt 58 = .ok (.iload 5, 2) := by decide +kernel
theorem dX5_canComeAt_60 : decode cX5_canComeAt 60 = .ok (.invokestatic 118, 3) := by decide +kernel
theorem dX5_canComeAt_63 : decode cX5_canComeAt 63 = .ok (.ifCond .eq 33, 3) := by decide +kernel
theorem dX5_canComeAt_66 : decode cX5_canComeAt 66 = .ok (.iload 4, 2) := by decide +kernel
theorem dX5_canComeAt_68 : decode cX5_canComeAt 68 = .ok (.aload_n 0, 1) := by decide +kernel
theorem dX5_canComeAt_69 : decode cX5_canComeAt 69 = .ok (.getfield 19, 3) := by decide +kernel
theorem dX5_canComeAt_72 : decode cX5_canComeAt 72 = .ok (.aload_n 0, 1) := by decide +kernel
theorem dX5_canComeAt_73 : decode cX5_canComeAt 73 = .ok (.getfield 32, 3) := by decide +kernel
theorem dX5_canComeAt_76 : decode cX5_canComeAt 76 = .ok (.iload 5, 2) := by decide +kernel
theorem dX5_canComeAt_78 : decode cX5_canComeAt 78 = .ok (.invokevirtual 109, 3) := by decide +kernel
theorem dX5_canComeAt_81 : decode cX5_canComeAt 81 = .ok (.iload 5, 2) := by decide +kernel
theorem dX5_canComeAt_83 : decode cX5_canComeAt 83 = .ok (.aload_n 0, 1) := by decide +kernel
theorem dX5_canComeAt_84 : decode cX5_canComeAt 84 = .ok (.getfield 32, 3) := by decide +kernel
theorem dX5_canComeAt_87 : decode cX5_canComeAt 87 = .ok (.getfield 115, 3) := by decide +kernel
theorem dX5_canComeAt_90 : decode cX5_canComeAt 90 = .ok (.invokevirtual 186, 3) := by decide +kernel
theorem dX5_canComeAt_93 : decode cX5_canComeAt 93 = .ok (.ior, 1) := by decide +kernel
theorem dX5_canComeAt_94 : decode cX5_canComeAt 94 = .ok (.istore 4, 2) := by decide +kernel
theorem dX5_canComeAt_96 : decode cX5_canComeAt 96 = .ok (.iinc 5 1, 3) := by decide +kernel
theorem dX5_canComeAt_99 : decode cX5_canComeAt 99 = .ok (.goto (-91), 3) := by decide +kernel
theorem dX5_canComeAt_102 : decode cX5_canComeAt 102 = .ok (.iload_n 3, 1) := by decide +kernel
theorem dX5_canComeAt_103 : decode cX5_canComeAt 103 = .ok (.iload 4, 2) := by decide +kernel
theorem dX5_canComeAt_105 : decode cX5_canComeAt 105 = .ok (.iand, 1) := by decide +kernel
theorem dX5_canComeAt_106 : decode cX5_canComeAt 106 = .ok (.ifCond .eq 7, 3) := by decide +kernel
theorem dX5_canComeAt_109 : decode cX5_canComeAt 109 = .ok (.iconst 1, 1) := by decide +kernel
theorem dX5_canComeAt_110 : decode cX5_canComeAt 110 = .ok (.goto 4, 3) := by decide +kernel
theorem dX5_canComeAt_113 : decode cX5_canComeAt 113 = .ok (.iconst 0, 1) := by decide +kernel
theorem dX5_canComeAt_114 : decode cX5_canComeAt 114 = .ok (.ireturn, 1) := by decide +kernel
theorem dX5_isForced_0 : decode cX5_isForced 0 = .ok (.aload_n 1, 1) := by decide +kernel
theorem dX5_isForced_1 : decode cX5_isForced 1 = .ok (.getfield 229, 3) := by decide +kernel
theorem dX5_isForced_4 : decode cX5_isForced 4 = .ok (.bipush (-9), 2) := by decide +kernel
theorem dX5_isForced_6 : decode cX5_isForced 6 = .ok (.if_icmp .eq 17, 3) := by decide +kernel
theorem dX5_isForced_9 : decode cX5_isForced 9 = .ok (.aload_n 1, 1) := by decide +kernel
theorem dX5_isForced_10 : decode cX5_isForced 10 = .ok (.getfield 229, 3) := by decide +kernel
theorem dX5_isForced_13 : decode cX5_isForced 13 = .ok (.iload_n 2, 1) := by decide +kernel
theorem dX5_isForced_14 : decode cX5_isForced 14 = .ok (.if_icmp .eq 7, 3) := by decide +kernel
theorem dX5_isForced_17 : decode cX5_isForced 17 = .ok (.iconst 1, 1) := by decide +kernel
theorem dX5_isForced_18 : decode cX5_isForced 18 = .ok (.goto 4, 3) := by decide +kernel
theorem dX5_isForced_21 : decode cX5_isForced 21 = .ok (.iconst 0, 1) := by decide +kernel
theorem dX5_isForced_22 : decode cX5_isForced 22 = .ok (.ireturn, 1) := by decide +kernel
theorem dX5_isForced_23 : decode cX5_isForced 23 = .ok (.aload_n 1, 1) := by decide +kernel
theorem dX5_isForced_24 : decode cX5_isForced 24 = .ok (.getfield 100, 3) := by decide +kernel
theorem dX5_isForced_27 : decode cX5_isForced 27 = .ok (.iload_n 2, 1) := by decide +kernel
theorem dX5_isForced_28 : decode cX5_isForced 28 = .ok (.if_icmp .ne 7, 3) := by decide +kernel
theorem dX5_isForced_31 : decode cX5_isForced 31 = .ok (.iconst 1, 1) := by decide +kernel
theorem dX5_isForced_32 : decode cX5_isForced 32 = .ok (.goto 4, 3) := by decide +kernel
theorem dX5_isForced_35 : decode cX5_isForced 35 = .ok (.iconst 0, 1) := by decide +kernel
theorem dX5_isForced_36 : decode cX5_isForced 36 = .ok (.istore 4, 2) := by decide +kernel
theorem dX5_isForced_38 : decode cX5_isForced 38 = .ok (.iload 4, 2) := by decide +kernel
theorem dX5_isForced_40 : decode cX5_isForced 40 = .ok (.ifCond .eq 26, 3) := by decide +kernel
theorem dX5_isForced_43 : decode cX5_isForced 43 = .ok (.iload_n 3, 1) := by decide +kernel
theorem dX5_isForced_44 : decode cX5_isForced 44 = .ok (.iconst 3, 1) := by decide +kernel
theorem dX5_isForced_45 : decode cX5_isForced 45 = .ok (.if_icmp .ge 21, 3) := by decide +kernel
theorem dX5_isForced_48 : decode cX5_isForced 48 = .ok (.iload_n 3, 1) := by decide +kernel
theorem dX5_isForced_49 : decode cX5_isForced 49 = .ok (.ifCond .le 15, 3) := by decide +kernel
theorem dX5_isForced_52 : decode cX5_isForced 52 = .ok (.aload_n 1, 1) := by decide +kernel
theorem dX5_isForced_53 : decode cX5_isForced 53 = .ok (.aload_n 0, 1) := by decide +kernel
theorem dX5_isForced_54 : decode cX5_isForced 54 = .ok (.invokevirtual 248, 3) := by decide +kernel
theorem dX5_isForced_57 : decode cX5_isForced 57 = .ok (.ifCond .eq 7, 3) := by decide +kernel
theorem dX5_isForced_60 : decode cX5_isForced 60 = .ok (.iconst 1, 1) := by decide +kernel
theorem dX5_isForced_61 : decode cX5_isForced 61 = .ok (.goto 4, 3) := by decide +kernel
theorem dX5_isForced_64 : decode cX5_isForced 64 = .ok (.iconst 0, 1) := by decide +kernel
theorem dX5_isForced_65 : decode cX5_isForced 65 = .ok (.ireturn, 1) := by decide +kernel
theorem dX5_isForced_66 : decode cX5_isForced 66 = .ok (.aload_n 1, 1) := by decide +kernel
theorem dX5_isForced_67 : decode cX5_isForced 67 = .ok (.getfield 252, 3) := by decide +kernel
theorem dX5_isForced_70 : decode cX5_isForced 70 = .ok (.astore 5, 2) := by decide +kernel
theorem dX5_isForced_72 : decode cX5_isForced 72 = .ok (.iload_n 3, 1) := by decide +kernel
theorem dX5_isForced_73 : decode cX5_isForced 73 = .ok (.iconst 2, 1) := by decide +kernel
theorem dX5_isForced_74 : decode cX5_isForced 74 = .ok (.if_icmp .lt 8, 3) := by decide +kernel
theorem dX5_isForced_77 : decode cX5_isForced 77 = .ok (.aload 5, 2) := by decide +kernel
theorem dX5_isForced_79 : decode cX5_isForced 79 = .ok (.ifnonnull 5, 3) := by decide +kernel
theorem dX5_isForced_82 : decode cX5_isForced 82 = .ok (.iconst 0, 1) := by decide +kernel
theorem dX5_isForced_83 : decode cX5_isForced 83 = .ok (.ireturn, 1) := by decide +kernel
theorem dX5_isForced_84 : decode cX5_isForced 84 = .ok (.aload_n 1, 1) := by decide +kernel
theorem dX5_isForced_85 : decode cX5_isForced 85 = .ok (.aload_n 0, 1) := by decide +kernel
theorem dX5_isForced_86 : decode cX5_isForced 86 = .ok (.invokevirtual 136, 3) := by decide +kernel
theorem dX5_isForced_89 : decode cX5_isForced 89 = .ok (.istore 6, 2) := by decide +kernel
theorem dX5_isForced_91 : decode cX5_isForced 91 = .ok (.iconst 0, 1) := by decide +kernel
theorem dX5_isForced_92 : decode cX5_isForced 92 = .ok (.istore 7, 2) := by decide +kernel
theorem dX5_isForced_94 : decode cX5_isForced 94 = .ok (.iload 7, 2) := by decide +kernel
theorem dX5_isForced_96 : decode cX5_isForced 96 = .ok (.iload 6, 2) := by decide +kernel
theorem dX5_isForced_98 : decode cX5_isForced 98 = .ok (.if_icmp .ge 43, 3) := by decide +kernel
theorem dX5_isForced_101 : decode cX5_isForced 101 = .ok (.aload 5, 2) := by decide +kernel
theorem dX5_isForced_103 : decode cX5_isForced 103 = .ok (.aload_n 1, 1) := by decide +kernel
theorem dX5_isForced_104 : decode cX5_isForced 104 = .ok (.aload_n 1, 1) := by decide +kernel
theorem dX5_isForced_105 : decode cX5_isForced 105 = .ok (.iload 7, 2) := by decide +kernel
theorem dX5_isForced_107 : decode cX5_isForced 107 = .ok (.invokevirtual 151, 3) := by decide +kernel
theorem dX5_isForced_110 : decode cX5_isForced 110 = .ok (.aload_n 0, 1) := by decide +kernel
theorem dX5_isForced_111 : decode cX5_isForced 111 = .ok (.getfield 146, 3) := by decide +kernel
theorem dX5_isForced_114 : decode cX5_isForced 114 = .ok (.invokevirtual 232, 3) := by decide +kernel
theorem dX5_isForced_117 : decode cX5_isForced 117 = .ok (.aload_n 0, 1) := by decide +kernel
theorem dX5_isForced_118 : decode cX5_isForced 118 = .ok (.aload 5, 2) := by decide +kernel
theorem dX5_isForced_120 : decode cX5_isForced 120 = .ok (.iload_n 2, 1) := by decide +kernel
theorem dX5_isForced_121 : decode cX5_isForced 121 = .ok (.iload_n 3, 1) := by decide +kernel
theorem dX5_isForced_122 : decode cX5_isForced 122 = .ok (.iconst 1, 1) := by decide +kernel
theorem dX5_isForced_123 : decode cX5_isForced 123 = .ok (.isub, 1) := by decide +kernel
theorem dX5_isForced_124 : decode cX5_isForced 124 = .ok (.invokestatic 166, 3) := by decide +kernel
theorem dX5_isForced_127 : decode cX5_isForced 127 = .ok (.iload 4, 2) := by decide +kernel
theorem dX5_isForced_129 : decode cX5_isForced 129 = .ok (.if_icmp .ne 6, 3) := by decide +kernel
theorem dX5_isForced_132 : decode cX5_isForced 132 = .ok (.iload 4, 2) := by decide +kernel
theorem dX5_isForced_134 : decode cX5_isForced 134 = .ok (.ireturn, 1) := by decide +kernel
theorem dX5_isForced_135 : decode cX5_isForced 135 = .ok (.iinc 7 1, 3) := by decide +kernel
theorem dX5_isForced_138 : decode cX5_isForced 138 = .ok (.goto (-44), 3) := by decide +kernel
theorem dX5_isForced_141 : decode cX5_isForced 141 = .ok (.iload 4, 2) := by decide +kernel
theorem dX5_isForced_143 : decode cX5_isForced 143 = .ok (.ifCond .ne 7, 3) := by decide +kernel
theorem dX5_isForced_146 : decode cX5_isForced 146 = .ok (.iconst 1, 1) := by decide +kernel
theorem dX5_isForced_147 : decode cX5_isForced 147 = .ok (.goto 4, 3) := by decide +kernel
theorem dX5_isForced_150 : decode cX5_isForced 150 = .ok (.iconst 0, 1) := by decide +kernel
theorem dX5_isForced_151 : decode cX5_isForced 151 = .ok (.ireturn, 1) := by decide +kernel
theorem dX5_rowsTo_0 : decode cX5_rowsTo 0 = .ok (.aload_n 1, 1) := by decide +kernel
theorem dX5_rowsTo_1 : decode cX5_rowsTo 1 = .ok (.aload_n 2, 1) := by decide +kernel
theorem dX5_rowsTo_2 : decode cX5_rowsTo 2 = .ok (.invokevirtual 255, 3) := by decide +kernel
theorem dX5_rowsTo_5 : decode cX5_rowsTo 5 = .ok (.iconst 3, 1) := by decide +kernel
theorem dX5_rowsTo_6 : decode cX5_rowsTo 6 = .ok (.iload_n 3, 1) := by decide +kernel
theorem dX5_rowsTo_7 : decode cX5_rowsTo 7 = .ok (.imul, 1) := by decide +kernel
theorem dX5_rowsTo_8 : decode cX5_rowsTo 8 = .ok (.if_icmp .le 5, 3) := by decide +kernel
theorem dX5_rowsTo_11 : decode cX5_rowsTo 11 = .ok (.iconst 0, 1) := by decide +kernel
theorem dX5_rowsTo_12 : decode cX5_rowsTo 12 = .ok (.ireturn, 1) := by decide +kernel
theorem dX5_rowsTo_13 : decode cX5_rowsTo 13 = .ok (.iload_n 3, 1) := by decide +kernel
theorem dX5_rowsTo_14 : decode cX5_rowsTo 14 = .ok (.iconst 1, 1) := by decide +kernel
theorem dX5_rowsTo_15 : decode cX5_rowsTo 15 = .ok (.if_icmp .ge 17, 3) := by decide +kernel
theorem dX5_rowsTo_18 : decode cX5_rowsTo 18 = .ok (.aload_n 1, 1) := by decide +kernel
theorem dX5_rowsTo_19 : decode cX5_rowsTo 19 = .ok (.aload_n 2, 1) := by decide +kernel
theorem dX5_rowsTo_20 : decode cX5_rowsTo 20 = .ok (.invokevirtual 259, 3) := by decide +kernel
theorem dX5_rowsTo_23 : decode cX5_rowsTo 23 = .ok (.ifCond .eq 7, 3) := by decide +kernel
theorem dX5_rowsTo_26 : decode cX5_rowsTo 26 = .ok (.iconst 1, 1) := by decide +kernel
theorem dX5_rowsTo_27 : decode cX5_rowsTo 27 = .ok (.goto 4, 3) := by decide +kernel
theorem dX5_rowsTo_30 : decode cX5_rowsTo 30 = .ok (.iconst 0, 1) := by decide +kernel
theorem dX5_rowsTo_31 : decode cX5_rowsTo 31 = .ok (.ireturn, 1) := by decide +kernel
theorem dX5_rowsTo_32 : decode cX5_rowsTo 32 = .ok (.aload_n 1, 1) := by decide +kernel
theorem dX5_rowsTo_33 : decode cX5_rowsTo 33 = .ok (.getfield 252, 3) := by decide +kernel
theorem dX5_rowsTo_36 : decode cX5_rowsTo 36 = .ok (.astore 4, 2) := by decide +kernel
theorem dX5_rowsTo_38 : decode cX5_rowsTo 38 = .ok (.aload 4, 2) := by decide +kernel
theorem dX5_rowsTo_40 : decode cX5_rowsTo 40 = .ok (.ifnonnull 5, 3) := by decide +kernel
theorem dX5_rowsTo_43 : decode cX5_rowsTo 43 = .ok (.iconst 0, 1) := by decide +kernel
theorem dX5_rowsTo_44 : decode cX5_rowsTo 44 = .ok (.ireturn, 1) := by decide +kernel
theorem dX5_rowsTo_45 : decode cX5_rowsTo 45 = .ok (.iconst 0, 1) := by decide +kernel
theorem dX5_rowsTo_46 : decode cX5_rowsTo 46 = .ok (.istore 5, 2) := by decide +kernel
theorem dX5_rowsTo_48 : decode cX5_rowsTo 48 = .ok (.aload_n 1, 1) := by decide +kernel
theorem dX5_rowsTo_49 : decode cX5_rowsTo 49 = .ok (.aload_n 0, 1) := by decide +kernel
theorem dX5_rowsTo_50 : decode cX5_rowsTo 50 = .ok (.invokevirtual 136, 3) := by decide +kernel
theorem dX5_rowsTo_53 : decode cX5_rowsTo 53 = .ok (.istore 6, 2) := by decide +kernel
theorem dX5_rowsTo_55 : decode cX5_rowsTo 55 = .ok (.iconst 0, 1) := by decide +kernel
theorem dX5_rowsTo_56 : decode cX5_rowsTo 56 = .ok (.istore 7, 2) := by decide +kernel
theorem dX5_rowsTo_58 : decode cX5_rowsTo 58 = .ok (.iload 7, 2) := by decide +kernel
theorem dX5_rowsTo_60 : decode cX5_rowsTo 60 = .ok (.iload 6, 2) := by decide +kernel
theorem dX5_rowsTo_62 : decode cX5_rowsTo 62 = .ok (.if_icmp .ge 40, 3) := by decide +kernel
theorem dX5_rowsTo_65 : decode cX5_rowsTo 65 = .ok (.aload 4, 2) := by decide +kernel
theorem dX5_rowsTo_67 : decode cX5_rowsTo 67 = .ok (.aload_n 1, 1) := by decide +kernel
theorem dX5_rowsTo_68 : decode cX5_rowsTo 68 = .ok (.aload_n 1, 1) := by decide +kernel
theorem dX5_rowsTo_69 : decode cX5_rowsTo 69 = .ok (.iload 7, 2) := by decide +kernel
theorem dX5_rowsTo_71 : decode cX5_rowsTo 71 = .ok (.invokevirtual 151, 3) := by decide +kernel
theorem dX5_rowsTo_74 : decode cX5_rowsTo 74 = .ok (.aload_n 0, 1) := by decide +kernel
theorem dX5_rowsTo_75 : decode cX5_rowsTo 75 = .ok (.getfield 146, 3) := by decide +kernel
theorem dX5_rowsTo_78 : decode cX5_rowsTo 78 = .ok (.invokevirtual 232, 3) := by decide +kernel
theorem dX5_rowsTo_81 : decode cX5_rowsTo 81 = .ok (.iload 5, 2) := by decide +kernel
theorem dX5_rowsTo_83 : decode cX5_rowsTo 83 = .ok (.aload_n 0, 1) := by decide +kernel
theorem dX5_rowsTo_84 : decode cX5_rowsTo 84 = .ok (.aload 4, 2) := by decide +kernel
theorem dX5_rowsTo_86 : decode cX5_rowsTo 86 = .ok (.aload_n 2, 1) := by decide +kernel
theorem dX5_rowsTo_87 : decode cX5_rowsTo 87 = .ok (.iload_n 3, 1) := by decide +kernel
theorem dX5_rowsTo_88 : decode cX5_rowsTo 88 = .ok (.iconst 1, 1) := by decide +kernel
theorem dX5_rowsTo_89 : decode cX5_rowsTo 89 = .ok (.isub, 1) := by decide +kernel
theorem dX5_rowsTo_90 : decode cX5_rowsTo 90 = .ok (.invokestatic 211, 3) := by decide +kernel
theorem dX5_rowsTo_93 : decode cX5_rowsTo 93 = .ok (.iadd, 1) := by decide +kernel
theorem dX5_rowsTo_94 : decode cX5_rowsTo 94 = .ok (.istore 5, 2) := by decide +kernel
theorem dX5_rowsTo_96 : decode cX5_rowsTo 96 = .ok (.iinc 7 1, 3) := by decide +kernel
theorem dX5_rowsTo_99 : decode cX5_rowsTo 99 = .ok (.goto (-41), 3) := by decide +kernel
theorem dX5_rowsTo_102 : decode cX5_rowsTo 102 = .ok (.iload 5, 2) := by decide +kernel
theorem dX5_rowsTo_104 : decode cX5_rowsTo 104 = .ok (.ireturn, 1) := by decide +kernel
theorem dX5_greatestCommon_0 : decode cX5_greatestCommon 0 = .ok (.iload_n 0, 1) := by decide +kernel
theorem dX5_greatestCommon_1 : decode cX5_greatestCommon 1 = .ok (.istore_n 2, 1) := by decide +kernel
theorem dX5_greatestCommon_2 : decode cX5_greatestCommon 2 = .ok (.iload_n 1, 1) := by decide +kernel
theorem dX5_greatestCommon_3 : decode cX5_greatestCommon 3 = .ok (.istore_n 3, 1) := by decide +kernel
theorem dX5_greatestCommon_4 : decode cX5_greatestCommon 4 = .ok (.iconst 0, 1) := by decide +kernel
theorem dX5_greatestCommon_5 : decode cX5_greatestCommon 5 = .ok (.istore 4, 2) := by decide +kernel
theorem dX5_greatestCommon_7 : decode cX5_greatestCommon 7 = .ok (.iload 4, 2) := by decide +kernel
theorem dX5_greatestCommon_9 : decode cX5_greatestCommon 9 = .ok (.bipush 64, 2) := by decide +kernel
theorem dX5_greatestCommon_11 : decode cX5_greatestCommon 11 = .ok (.if_icmp .ge 23, 3) := by decide +kernel
theorem dX5_greatestCommon_14 : decode cX5_greatestCommon 14 = .ok (.iload_n 3, 1) := by decide +kernel
theorem dX5_greatestCommon_15 : decode cX5_greatestCommon 15 = .ok (.ifCond .le 19, 3) := by decide +kernel
theorem dX5_greatestCommon_18 : decode cX5_greatestCommon 18 = .ok (.iload_n 2, 1) := by decide +kernel
theorem dX5_greatestCommon_19 : decode cX5_greatestCommon 19 = .ok (.iload_n 3, 1) := by decide +kernel
theorem dX5_greatestCommon_20 : decode cX5_greatestCommon 20 = .ok (.irem, 1) := by decide +kernel
theorem dX5_greatestCommon_21 : decode cX5_greatestCommon 21 = .ok (.istore 5, 2) := by decide +kernel
theorem dX5_greatestCommon_23 : decode cX5_greatestCommon 23 = .ok (.iload_n 3, 1) := by decide +kernel
theorem dX5_greatestCommon_24 : decode cX5_greatestCommon 24 = .ok (.istore_n 2, 1) := by decide +kernel
theorem dX5_greatestCommon_25 : decode cX5_greatestCommon 25 = .ok (.iload 5, 2) := by decide +kernel
theorem dX5_greatestCommon_27 : decode cX5_greatestCommon 27 = .ok (.istore_n 3, 1) := by decide +kernel
theorem dX5_greatestCommon_28 : decode cX5_greatestCommon 28 = .ok (.iinc 4 1, 3) := by decide +kernel
theorem dX5_greatestCommon_31 : decode cX5_greatestCommon 31 = .ok (.goto (-24), 3) := by decide +kernel
theorem dX5_greatestCommon_34 : decode cX5_greatestCommon 34 = .ok (.iload_n 2, 1) := by decide +kernel
theorem dX5_greatestCommon_35 : decode cX5_greatestCommon 35 = .ok (.ireturn, 1) := by decide +kernel
theorem dX5_has_0 : decode cX5_has 0 = .ok (.iload_n 0, 1) := by decide +kernel
theorem dX5_has_1 : decode cX5_has 1 = .ok (.iload_n 1, 1) := by decide +kernel
theorem dX5_has_2 : decode cX5_has 2 = .ok (.ishr, 1) := by decide +kernel
theorem dX5_has_3 : decode cX5_has 3 = .ok (.iconst 1, 1) := by decide +kernel
theorem dX5_has_4 : decode cX5_has 4 = .ok (.iand, 1) := by decide +kernel
theorem dX5_has_5 : decode cX5_has 5 = .ok (.ifCond .eq 7, 3) := by decide +kernel
theorem dX5_has_8 : decode cX5_has 8 = .ok (.iconst 1, 1) := by decide +kernel
theorem dX5_has_9 : decode cX5_has 9 = .ok (.goto 4, 3) := by decide +kernel
theorem dX5_has_12 : decode cX5_has 12 = .ok (.iconst 0, 1) := by decide +kernel
theorem dX5_has_13 : decode cX5_has 13 = .ok (.ireturn, 1) := by decide +kernel
theorem dX5_lowest_0 : decode cX5_lowest 0 = .ok (.iload_n 0, 1) := by decide +kernel
theorem dX5_lowest_1 : decode cX5_lowest 1 = .ok (.iload_n 0, 1) := by decide +kernel
theorem dX5_lowest_2 : decode cX5_lowest 2 = .ok (.ineg, 1) := by decide +kernel
theorem dX5_lowest_3 : decode cX5_lowest 3 = .ok (.iand, 1) := by decide +kernel
theorem dX5_lowest_4 : decode cX5_lowest 4 = .ok (.iconst 1, 1) := by decide +kernel
theorem dX5_lowest_5 : decode cX5_lowest 5 = .ok (.isub, 1) := by decide +kernel
theorem dX5_lowest_6 : decode cX5_lowest 6 = .ok (.invokestatic 263, 3) := by decide +kernel
theorem dX5_lowest_9 : decode cX5_lowest 9 = .ok (.ireturn, 1) := by decide +kernel
theorem dX5_at_0 : decode cX5_at 0 = .ok (.iload_n 1, 1) := by decide +kernel
theorem dX5_at_1 : decode cX5_at 1 = .ok (.ifCond .lt 15, 3) := by decide +kernel
theorem dX5_at_4 : decode cX5_at 4 = .ok (.iload_n 1, 1) := by decide +kernel
theorem dX5_at_5 : decode cX5_at 5 = .ok (.aload_n 0, 1) := by decide +kernel
theorem dX5_at_6 : decode cX5_at 6 = .ok (.arraylength, 1) := by decide +kernel
theorem dX5_at_7 : decode cX5_at 7 = .ok (.if_icmp .ge 9, 3) := by decide +kernel
theorem dX5_at_10 : decode cX5_at 10 = .ok (.aload_n 0, 1) := by decide +kernel
theorem dX5_at_11 : decode cX5_at 11 = .ok (.iload_n 1, 1) := by decide +kernel
theorem dX5_at_12 : decode cX5_at 12 = .ok (.iaload, 1) := by decide +kernel
theorem dX5_at_13 : decode cX5_at 13 = .ok (.goto 4, 3) := by decide +kernel
theorem dX5_at_16 : decode cX5_at 16 = .ok (.iconst 0, 1) := by decide +kernel
theorem dX5_at_17 : decode cX5_at 17 = .ok (.ireturn, 1) := by decide +kernel
theorem dX5_lay_0 : decode cX5_lay 0 = .ok (.iload_n 1, 1) := by decide +kernel
theorem dX5_lay_1 : decode cX5_lay 1 = .ok (.ifCond .lt 13, 3) := by decide +kernel
theorem dX5_lay_4 : decode cX5_lay 4 = .ok (.iload_n 1, 1) := by decide +kernel
theorem dX5_lay_5 : decode cX5_lay 5 = .ok (.aload_n 0, 1) := by decide +kernel
theorem dX5_lay_6 : decode cX5_lay 6 = .ok (.arraylength, 1) := by decide +kernel
theorem dX5_lay_7 : decode cX5_lay 7 = .ok (.if_icmp .ge 7, 3) := by decide +kernel
theorem dX5_lay_10 : decode cX5_lay 10 = .ok (.aload_n 0, 1) := by decide +kernel
theorem dX5_lay_11 : decode cX5_lay 11 = .ok (.iload_n 1, 1) := by decide +kernel
theorem dX5_lay_12 : decode cX5_lay 12 = .ok (.iload_n 2, 1) := by decide +kernel
theorem dX5_lay_13 : decode cX5_lay 13 = .ok (.iastore, 1) := by decide +kernel
theorem dX5_lay_14 : decode cX5_lay 14 = .ok (.return_, 1) := by decide +kernel
theorem dX5_letter_0 : decode cX5_letter 0 = .ok (.iload_n 0, 1) := by decide +kernel
theorem dX5_letter_1 : decode cX5_letter 1 = .ok (.ifCond .lt 23, 3) := by decide +kernel
theorem dX5_letter_4 : decode cX5_letter 4 = .ok (.iload_n 0, 1) := by decide +kernel
theorem dX5_letter_5 : decode cX5_letter 5 = .ok (.ldc_w 268, 3) := by decide +kernel
theorem dX5_letter_8 : decode cX5_letter 8 = .ok (.invokevirtual 270, 3) := by decide +kernel
theorem dX5_letter_11 : decode cX5_letter 11 = .ok (.if_icmp .ge 13, 3) := by decide +kernel
theorem dX5_letter_14 : decode cX5_letter 14 = .ok (.ldc_w 268, 3) := by decide +kernel
theorem dX5_letter_17 : decode cX5_letter 17 = .ok (.iload_n 0, 1) := by decide +kernel
theorem dX5_letter_18 : decode cX5_letter 18 = .ok (.invokevirtual 274, 3) := by decide +kernel
theorem dX5_letter_21 : decode cX5_letter 21 = .ok (.goto 4, 3) := by decide +kernel
theorem dX5_letter_24 : decode cX5_letter 24 = .ok (.iconst 0, 1) := by decide +kernel
theorem dX5_letter_25 : decode cX5_letter 25 = .ok (.ireturn, 1) := by decide +kernel
theorem dX5_sideOf_0 : decode cX5_sideOf 0 = .ok (.iload_n 0, 1) := by decide +kernel
theorem dX5_sideOf_1 : decode cX5_sideOf 1 = .ok (.iconst 2, 1) := by decide +kernel
theorem dX5_sideOf_2 : decode cX5_sideOf 2 = .ok (.if_icmp .ge 6, 3) := by decide +kernel
theorem dX5_sideOf_5 : decode cX5_sideOf 5 = .ok (.bipush (-9), 2) := by decide +kernel
theorem dX5_sideOf_7 : decode cX5_sideOf 7 = .ok (.ireturn, 1) := by decide +kernel
theorem dX5_sideOf_8 : decode cX5_sideOf 8 = .ok (.iload_n 0, 1) := by decide +kernel
theorem dX5_sideOf_9 : decode cX5_sideOf 9 = .ok (.bipush 7, 2) := by decide +kernel
theorem dX5_sideOf_11 : decode cX5_sideOf 11 = .ok (.if_icmp .ge 7, 3) := by decide +kernel
theorem dX5_sideOf_14 : decode cX5_sideOf 14 = .ok (.iconst 0, 1) := by decide +kernel
theorem dX5_sideOf_15 : decode cX5_sideOf 15 = .ok (.goto 4, 3) := by decide +kernel
theorem dX5_sideOf_18 : decode cX5_sideOf 18 = .ok (.iconst 1, 1) := by decide +kernel
theorem dX5_sideOf_19 : decode cX5_sideOf 19 = .ok (.ireturn, 1) := by decide +kernel
theorem dX5_kindOf_0 : decode cX5_kindOf 0 = .ok (.iload_n 0, 1) := by decide +kernel
theorem dX5_kindOf_1 : decode cX5_kindOf 1 = .ok (.iconst 2, 1) := by decide +kernel
theorem dX5_kindOf_2 : decode cX5_kindOf 2 = .ok (.if_icmp .ge 5, 3) := by decide +kernel
theorem dX5_kindOf_5 : decode cX5_kindOf 5 = .ok (.iconst (-1), 1) := by decide +kernel
theorem dX5_kindOf_6 : decode cX5_kindOf 6 = .ok (.ireturn, 1) := by decide +kernel
theorem dX5_kindOf_7 : decode cX5_kindOf 7 = .ok (.iload_n 0, 1) := by decide +kernel
theorem dX5_kindOf_8 : decode cX5_kindOf 8 = .ok (.bipush 7, 2) := by decide +kernel
theorem dX5_kindOf_10 : decode cX5_kindOf 10 = .ok (.if_icmp .ge 9, 3) := by decide +kernel
theorem dX5_kindOf_13 : decode cX5_kindOf 13 = .ok (.iload_n 0, 1) := by decide +kernel
theorem dX5_kindOf_14 : decode cX5_kindOf 14 = .ok (.iconst 2, 1) := by decide +kernel
theorem dX5_kindOf_15 : decode cX5_kindOf 15 = .ok (.isub, 1) := by decide +kernel
theorem dX5_kindOf_16 : decode cX5_kindOf 16 = .ok (.goto 7, 3) := by decide +kernel
theorem dX5_kindOf_19 : decode cX5_kindOf 19 = .ok (.iload_n 0, 1) := by decide +kernel
theorem dX5_kindOf_20 : decode cX5_kindOf 20 = .ok (.bipush 7, 2) := by decide +kernel
theorem dX5_kindOf_22 : decode cX5_kindOf 22 = .ok (.isub, 1) := by decide +kernel
theorem dX5_kindOf_23 : decode cX5_kindOf 23 = .ok (.ireturn, 1) := by decide +kernel
