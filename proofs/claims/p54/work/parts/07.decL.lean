theorem dL_cell_0 : decode cL_cell 0 = .ok (.ldc 7, 2) := by decide +kernel
theorem dL_cell_2 : decode cL_cell 2 = .ok (.iload_n 1, 1) := by decide +kernel
theorem dL_cell_3 : decode cL_cell 3 = .ok (.aload_n 0, 1) := by decide +kernel
theorem dL_cell_4 : decode cL_cell 4 = .ok (.arraylength, 1) := by decide +kernel
theorem dL_cell_5 : decode cL_cell 5 = .ok (.if_icmp .ge 9, 3) := by decide +kernel
theorem dL_cell_8 : decode cL_cell 8 = .ok (.aload_n 0, 1) := by decide +kernel
theorem dL_cell_9 : decode cL_cell 9 = .ok (.iload_n 1, 1) := by decide +kernel
theorem dL_cell_10 : decode cL_cell 10 = .ok (.iaload, 1) := by decide +kernel
theorem dL_cell_11 : decode cL_cell 11 = .ok (.goto 4, 3) := by decide +kernel
theorem dL_cell_14 : decode cL_cell 14 = .ok (.iconst 0, 1) := by decide +kernel
theorem dL_cell_15 : decode cL_cell 15 = .ok (.sipush 1009, 3) := by decide +kernel
theorem dL_cell_18 : decode cL_cell 18 = .ok (.iload_n 1, 1) := by decide +kernel
theorem dL_cell_19 : decode cL_cell 19 = .ok (.imul, 1) := by decide +kernel
theorem dL_cell_20 : decode cL_cell 20 = .ok (.iadd, 1) := by decide +kernel
theorem dL_cell_21 : decode cL_cell 21 = .ok (.imul, 1) := by decide +kernel
theorem dL_cell_22 : decode cL_cell 22 = .ok (.sipush 12345, 3) := by decide +kernel
theorem dL_cell_25 : decode cL_cell 25 = .ok (.iadd, 1) := by decide +kernel
theorem dL_cell_26 : decode cL_cell 26 = .ok (.istore_n 2, 1) := by decide +kernel
theorem dL_cell_27 : decode cL_cell 27 = .ok (.iload_n 2, 1) := by decide +kernel
theorem dL_cell_28 : decode cL_cell 28 = .ok (.iload_n 2, 1) := by decide +kernel
theorem dL_cell_29 : decode cL_cell 29 = .ok (.bipush 13, 2) := by decide +kernel
theorem dL_cell_31 : decode cL_cell 31 = .ok (.iushr, 1) := by decide +kernel
theorem dL_cell_32 : decode cL_cell 32 = .ok (.ixor, 1) := by decide +kernel
theorem dL_cell_33 : decode cL_cell 33 = .ok (.ldc 8, 2) := by decide +kernel
theorem dL_cell_35 : decode cL_cell 35 = .ok (.imul, 1) := by decide +kernel
theorem dL_cell_36 : decode cL_cell 36 = .ok (.istore_n 2, 1) := by decide +kernel
theorem dL_cell_37 : decode cL_cell 37 = .ok (.iload_n 2, 1) := by decide +kernel
theorem dL_cell_38 : decode cL_cell 38 = .ok (.iload_n 2, 1) := by decide +kernel
theorem dL_cell_39 : decode cL_cell 39 = .ok (.bipush 16, 2) := by decide +kernel
theorem dL_cell_41 : decode cL_cell 41 = .ok (.iushr, 1) := by decide +kernel
theorem dL_cell_42 : decode cL_cell 42 = .ok (.ixor, 1) := by decide +kernel
theorem dL_cell_43 : decode cL_cell 43 = .ok (.ireturn, 1) := by decide +kernel
theorem dL_pick_0 : decode cL_pick 0 = .ok (.aload_n 0, 1) := by decide +kernel
theorem dL_pick_1 : decode cL_pick 1 = .ok (.iload_n 1, 1) := by decide +kernel
theorem dL_pick_2 : decode cL_pick 2 = .ok (.invokestatic 9, 3) := by decide +kernel
theorem dL_pick_5 : decode cL_pick 5 = .ok (.bipush 8, 2) := by decide +kernel
theorem dL_pick_7 : decode cL_pick 7 = .ok (.iushr, 1) := by decide +kernel
theorem dL_pick_8 : decode cL_pick 8 = .ok (.iload_n 2, 1) := by decide +kernel
theorem dL_pick_9 : decode cL_pick 9 = .ok (.irem, 1) := by decide +kernel
theorem dL_pick_10 : decode cL_pick 10 = .ok (.ireturn, 1) := by decide +kernel
theorem dL_told_0 : decode cL_told 0 = .ok (.iload_n 0, 1) := by decide +kernel
theorem dL_told_1 : decode cL_told 1 = .ok (.ifCond .eq 7, 3) := by decide +kernel
theorem dL_told_4 : decode cL_told 4 = .ok (.iconst 1, 1) := by decide +kernel
theorem dL_told_5 : decode cL_told 5 = .ok (.goto 4, 3) := by decide +kernel
theorem dL_told_8 : decode cL_told 8 = .ok (.iconst 0, 1) := by decide +kernel
theorem dL_told_9 : decode cL_told 9 = .ok (.ireturn, 1) := by decide +kernel
theorem dL_plain_0 : decode cL_plain 0 = .ok (.iload_n 1, 1) := by decide +kernel
theorem dL_plain_1 : decode cL_plain 1 = .ok (.tableswitch 93 0 6 #[43, 49, 58, 67, 73, 80, 86], 43) := by decide +kernel
theorem dL_plain_44 : decode cL_plain 44 = .ok (.aload_n 0, 1) := by decide +kernel
theorem dL_plain_45 : decode cL_plain 45 = .ok (.iload_n 2, 1) := by decide +kernel
theorem dL_plain_46 : decode cL_plain 46 = .ok (.invokevirtual 15, 3) := by decide +kernel
theorem dL_plain_49 : decode cL_plain 49 = .ok (.ireturn, 1) := by decide +kernel
theorem dL_plain_50 : decode cL_plain 50 = .ok (.aload_n 0, 1) := by decide +kernel
theorem dL_plain_51 : decode cL_plain 51 = .ok (.iload_n 2, 1) := by decide +kernel
theorem dL_plain_52 : decode cL_plain 52 = .ok (.iload_n 3, 1) := by decide +kernel
theorem dL_plain_53 : decode cL_plain 53 = .ok (.iload 4, 2) := by decide +kernel
theorem dL_plain_55 : decode cL_plain 55 = .ok (.invokevirtual 21, 3) := by decide +kernel
theorem dL_plain_58 : decode cL_plain 58 = .ok (.ireturn, 1) := by decide +kernel
theorem dL_plain_59 : decode cL_plain 59 = .ok (.aload_n 0, 1) := by decide +kernel
theorem dL_plain_60 : decode cL_plain 60 = .ok (.iload_n 2, 1) := by decide +kernel
theorem dL_plain_61 : decode cL_plain 61 = .ok (.invokevirtual 25, 3) := by decide +kernel
theorem dL_plain_64 : decode cL_plain 64 = .ok (.bipush 100, 2) := by decide +kernel
theorem dL_plain_66 : decode cL_plain 66 = .ok (.iadd, 1) := by decide +kernel
theorem dL_plain_67 : decode cL_plain 67 = .ok (.ireturn, 1) := by decide +kernel
theorem dL_plain_68 : decode cL_plain 68 = .ok (.aload_n 0, 1) := by decide +kernel
theorem dL_plain_69 : decode cL_plain 69 = .ok (.iload_n 2, 1) := by decide +kernel
theorem dL_plain_70 : decode cL_plain 70 = .ok (.invokevirtual 28, 3) := by decide +kernel
theorem dL_plain_73 : decode cL_plain 73 = .ok (.ireturn, 1) := by decide +kernel
theorem dL_plain_74 : decode cL_plain 74 = .ok (.aload_n 0, 1) := by decide +kernel
theorem dL_plain_75 : decode cL_plain 75 = .ok (.iload_n 2, 1) := by decide +kernel
theorem dL_plain_76 : decode cL_plain 76 = .ok (.iload_n 3, 1) := by decide +kernel
theorem dL_plain_77 : decode cL_plain 77 = .ok (.invokevirtual 31, 3) := by decide +kernel
theorem dL_plain_80 : decode cL_plain 80 = .ok (.ireturn, 1) := by decide +kernel
theorem dL_plain_81 : decode cL_plain 81 = .ok (.aload_n 0, 1) := by decide +kernel
theorem dL_plain_82 : decode cL_plain 82 = .ok (.iload_n 2, 1) := by decide +kernel
theorem dL_plain_83 : decode cL_plain 83 = .ok (.invokevirtual 35, 3) := by decide +kernel
theorem dL_plain_86 : decode cL_plain 86 = .ok (.ireturn, 1) := by decide +kernel
theorem dL_plain_87 : decode cL_plain 87 = .ok (.aload_n 0, 1) := by decide +kernel
theorem dL_plain_88 : decode cL_plain 88 = .ok (.iload_n 2, 1) := by decide +kernel
theorem dL_plain_89 : decode cL_plain 89 = .ok (.iload_n 3, 1) := by decide +kernel
theorem dL_plain_90 : decode cL_plain 90 = .ok (.invokevirtual 38, 3) := by decide +kernel
theorem dL_plain_93 : decode cL_plain 93 = .ok (.ireturn, 1) := by decide +kernel
theorem dL_plain_94 : decode cL_plain 94 = .ok (.aload_n 0, 1) := by decide +kernel
theorem dL_plain_95 : decode cL_plain 95 = .ok (.invokevirtual 41, 3) := by decide +kernel
theorem dL_plain_98 : decode cL_plain 98 = .ok (.ireturn, 1) := by decide +kernel
theorem dL_deed_0 : decode cL_deed 0 = .ok (.aload_n 0, 1) := by decide +kernel
theorem dL_deed_1 : decode cL_deed 1 = .ok (.iload_n 1, 1) := by decide +kernel
theorem dL_deed_2 : decode cL_deed 2 = .ok (.iload_n 2, 1) := by decide +kernel
theorem dL_deed_3 : decode cL_deed 3 = .ok (.iload_n 3, 1) := by decide +kernel
theorem dL_deed_4 : decode cL_deed 4 = .ok (.iload 4, 2) := by decide +kernel
theorem dL_deed_6 : decode cL_deed 6 = .ok (.invokestatic 45, 3) := by decide +kernel
theorem dL_deed_9 : decode cL_deed 9 = .ok (.ireturn, 1) := by decide +kernel
theorem dL_deed_10 : decode cL_deed 10 = .ok (.astore 5, 2) := by decide +kernel
theorem dL_deed_12 : decode cL_deed 12 = .ok (.sipush (-2002), 3) := by decide +kernel
theorem dL_deed_15 : decode cL_deed 15 = .ok (.ireturn, 1) := by decide +kernel
theorem dL_deed_16 : decode cL_deed 16 = .ok (.astore 5, 2) := by decide +kernel
theorem dL_deed_18 : decode cL_deed 18 = .ok (.sipush (-2003), 3) := by decide +kernel
theorem dL_deed_21 : decode cL_deed 21 = .ok (.ireturn, 1) := by decide +kernel
theorem dL_deed_22 : decode cL_deed 22 = .ok (.astore 5, 2) := by decide +kernel
theorem dL_deed_24 : decode cL_deed 24 = .ok (.sipush (-2005), 3) := by decide +kernel
theorem dL_deed_27 : decode cL_deed 27 = .ok (.ireturn, 1) := by decide +kernel
theorem dL_deed_28 : decode cL_deed 28 = .ok (.astore 5, 2) := by decide +kernel
theorem dL_deed_30 : decode cL_deed 30 = .ok (.sipush (-2001), 3) := by decide +kernel
theorem dL_deed_33 : decode cL_deed 33 = .ok (.ireturn, 1) := by decide +kernel
theorem dL_asked_0 : decode cL_asked 0 = .ok (.iload_n 1, 1) := by decide +kernel
theorem dL_asked_1 : decode cL_asked 1 = .ok (.tableswitch 128 0 10 #[59, 65, 75, 82, 87, 93, 99, 106, 112, 118, 123], 59) := by decide +kernel
theorem dL_asked_60 : decode cL_asked 60 = .ok (.aload_n 0, 1) := by decide +kernel
theorem dL_asked_61 : decode cL_asked 61 = .ok (.iload_n 2, 1) := by decide +kernel
theorem dL_asked_62 : decode cL_asked 62 = .ok (.invokevirtual 57, 3) := by decide +kernel
theorem dL_asked_65 : decode cL_asked 65 = .ok (.ireturn, 1) := by decide +kernel
theorem dL_asked_66 : decode cL_asked 66 = .ok (.aload_n 0, 1) := by decide +kernel
theorem dL_asked_67 : decode cL_asked 67 = .ok (.iload_n 2, 1) := by decide +kernel
theorem dL_asked_68 : decode cL_asked 68 = .ok (.iload_n 3, 1) := by decide +kernel
theorem dL_asked_69 : decode cL_asked 69 = .ok (.invokevirtual 60, 3) := by decide +kernel
theorem dL_asked_72 : decode cL_asked 72 = .ok (.bipush 100, 2) := by decide +kernel
theorem dL_asked_74 : decode cL_asked 74 = .ok (.iadd, 1) := by decide +kernel
theorem dL_asked_75 : decode cL_asked 75 = .ok (.ireturn, 1) := by decide +kernel
theorem dL_asked_76 : decode cL_asked 76 = .ok (.aload_n 0, 1) := by decide +kernel
theorem dL_asked_77 : decode cL_asked 77 = .ok (.iload_n 2, 1) := by decide +kernel
theorem dL_asked_78 : decode cL_asked 78 = .ok (.iload_n 3, 1) := by decide +kernel
theorem dL_asked_79 : decode cL_asked 79 = .ok (.invokevirtual 63, 3) := by decide +kernel
theorem dL_asked_82 : decode cL_asked 82 = .ok (.ireturn, 1) := by decide +kernel
theorem dL_asked_83 : decode cL_asked 83 = .ok (.aload_n 0, 1) := by decide +kernel
theorem dL_asked_84 : decode cL_asked 84 = .ok (.invokevirtual 66, 3) := by decide +kernel
theorem dL_asked_87 : decode cL_asked 87 = .ok (.ireturn, 1) := by decide +kernel
theorem dL_asked_88 : decode cL_asked 88 = .ok (.aload_n 0, 1) := by decide +kernel
theorem dL_asked_89 : decode cL_asked 89 = .ok (.iload_n 2, 1) := by decide +kernel
theorem dL_asked_90 : decode cL_asked 90 = .ok (.invokevirtual 69, 3) := by decide +kernel
theorem dL_asked_93 : decode cL_asked 93 = .ok (.ireturn, 1) := by decide +kernel
theorem dL_asked_94 : decode cL_asked 94 = .ok (.aload_n 0, 1) := by decide +kernel
theorem dL_asked_95 : decode cL_asked 95 = .ok (.iload_n 2, 1) := by decide +kernel
theorem dL_asked_96 : decode cL_asked 96 = .ok (.invokevirtual 72, 3) := by decide +kernel
theorem dL_asked_99 : decode cL_asked 99 = .ok (.ireturn, 1) := by decide +kernel
theorem dL_asked_100 : decode cL_asked 100 = .ok (.aload_n 0, 1) := by decide +kernel
theorem dL_asked_101 : decode cL_asked 101 = .ok (.iload_n 2, 1) := by decide +kernel
theorem dL_asked_102 : decode cL_asked 102 = .ok (.iload_n 3, 1) := by decide +kernel
theorem dL_asked_103 : decode cL_asked 103 = .ok (.invokevirtual 75, 3) := by decide +kernel
theorem dL_asked_106 : decode cL_asked 106 = .ok (.ireturn, 1) := by decide +kernel
theorem dL_asked_107 : decode cL_asked 107 = .ok (.aload_n 0, 1) := by decide +kernel
theorem dL_asked_108 : decode cL_asked 108 = .ok (.iload_n 2, 1) := by decide +kernel
theorem dL_asked_109 : decode cL_asked 109 = .ok (.invokevirtual 78, 3) := by decide +kernel
theorem dL_asked_112 : decode cL_asked 112 = .ok (.ireturn, 1) := by decide +kernel
theorem dL_asked_113 : decode cL_asked 113 = .ok (.aload_n 0, 1) := by decide +kernel
theorem dL_asked_114 : decode cL_asked 114 = .ok (.iload_n 2, 1) := by decide +kernel
theorem dL_asked_115 : decode cL_asked 115 = .ok (.invokevirtual 81, 3) := by decide +kernel
theorem dL_asked_118 : decode cL_asked 118 = .ok (.ireturn, 1) := by decide +kernel
theorem dL_asked_119 : decode cL_asked 119 = .ok (.aload_n 0, 1) := by decide +kernel
theorem dL_asked_120 : decode cL_asked 120 = .ok (.invokevirtual 84, 3) := by decide +kernel
theorem dL_asked_123 : decode cL_asked 123 = .ok (.ireturn, 1) := by decide +kernel
theorem dL_asked_124 : decode cL_asked 124 = .ok (.aload_n 0, 1) := by decide +kernel
theorem dL_asked_125 : decode cL_asked 125 = .ok (.invokevirtual 87, 3) := by decide +kernel
theorem dL_asked_128 : decode cL_asked 128 = .ok (.ireturn, 1) := by decide +kernel
theorem dL_asked_129 : decode cL_asked 129 = .ok (.aload_n 0, 1) := by decide +kernel
theorem dL_asked_130 : decode cL_asked 130 = .ok (.invokevirtual 90, 3) := by decide +kernel
theorem dL_asked_133 : decode cL_asked 133 = .ok (.ireturn, 1) := by decide +kernel
theorem dL_ask_0 : decode cL_ask 0 = .ok (.aload_n 0, 1) := by decide +kernel
theorem dL_ask_1 : decode cL_ask 1 = .ok (.iload_n 1, 1) := by decide +kernel
theorem dL_ask_2 : decode cL_ask 2 = .ok (.iload_n 2, 1) := by decide +kernel
theorem dL_ask_3 : decode cL_ask 3 = .ok (.iload_n 3, 1) := by decide +kernel
theorem dL_ask_4 : decode cL_ask 4 = .ok (.invokestatic 94, 3) := by decide +kernel
theorem dL_ask_7 : decode cL_ask 7 = .ok (.ireturn, 1) := by decide +kernel
theorem dL_ask_8 : decode cL_ask 8 = .ok (.astore 4, 2) := by decide +kernel
theorem dL_ask_10 : decode cL_ask 10 = .ok (.sipush (-2002), 3) := by decide +kernel
theorem dL_ask_13 : decode cL_ask 13 = .ok (.ireturn, 1) := by decide +kernel
theorem dL_ask_14 : decode cL_ask 14 = .ok (.astore 4, 2) := by decide +kernel
theorem dL_ask_16 : decode cL_ask 16 = .ok (.sipush (-2004), 3) := by decide +kernel
theorem dL_ask_19 : decode cL_ask 19 = .ok (.ireturn, 1) := by decide +kernel
theorem dL_ask_20 : decode cL_ask 20 = .ok (.astore 4, 2) := by decide +kernel
theorem dL_ask_22 : decode cL_ask 22 = .ok (.sipush (-2001), 3) := by decide +kernel
theorem dL_ask_25 : decode cL_ask 25 = .ok (.ireturn, 1) := by decide +kernel
theorem dL_lay_0 : decode cL_lay 0 = .ok (.aload_n 0, 1) := by decide +kernel
theorem dL_lay_1 : decode cL_lay 1 = .ok (.iconst 2, 1) := by decide +kernel
theorem dL_lay_2 : decode cL_lay 2 = .ok (.aload_n 1, 1) := by decide +kernel
theorem dL_lay_3 : decode cL_lay 3 = .ok (.iconst 0, 1) := by decide +kernel
theorem dL_lay_4 : decode cL_lay 4 = .ok (.bipush 61, 2) := by decide +kernel
theorem dL_lay_6 : decode cL_lay 6 = .ok (.invokestatic 100, 3) := by decide +kernel
theorem dL_lay_9 : decode cL_lay 9 = .ok (.bipush 40, 2) := by decide +kernel
theorem dL_lay_11 : decode cL_lay 11 = .ok (.isub, 1) := by decide +kernel
theorem dL_lay_12 : decode cL_lay 12 = .ok (.iconst 0, 1) := by decide +kernel
theorem dL_lay_13 : decode cL_lay 13 = .ok (.iconst 0, 1) := by decide +kernel
theorem dL_lay_14 : decode cL_lay 14 = .ok (.invokestatic 104, 3) := by decide +kernel
theorem dL_lay_17 : decode cL_lay 17 = .ok (.istore_n 2, 1) := by decide +kernel
theorem dL_lay_18 : decode cL_lay 18 = .ok (.aload_n 1, 1) := by decide +kernel
theorem dL_lay_19 : decode cL_lay 19 = .ok (.iconst 1, 1) := by decide +kernel
theorem dL_lay_20 : decode cL_lay 20 = .ok (.bipush 7, 2) := by decide +kernel
theorem dL_lay_22 : decode cL_lay 22 = .ok (.invokestatic 100, 3) := by decide +kernel
theorem dL_lay_25 : decode cL_lay 25 = .ok (.istore_n 3, 1) := by decide +kernel
theorem dL_lay_26 : decode cL_lay 26 = .ok (.iconst 0, 1) := by decide +kernel
theorem dL_lay_27 : decode cL_lay 27 = .ok (.istore 4, 2) := by decide +kernel
theorem dL_lay_29 : decode cL_lay 29 = .ok (.iload 4, 2) := by decide +kernel
theorem dL_lay_31 : decode cL_lay 31 = .ok (.iload_n 3, 1) := by decide +kernel
theorem dL_lay_32 : decode cL_lay 32 = .ok (.if_icmp .ge 121, 3) := by decide +kernel
theorem dL_lay_35 : decode cL_lay 35 = .ok (.iload_n 2, 1) := by decide +kernel
theorem dL_lay_36 : decode cL_lay 36 = .ok (.aload_n 0, 1) := by decide +kernel
theorem dL_lay_37 : decode cL_lay 37 = .ok (.iconst 0, 1) := by decide +kernel
theorem dL_lay_38 : decode cL_lay 38 = .ok (.bipush 20, 2) := by decide +kernel
theorem dL_lay_40 : decode cL_lay 40 = .ok (.aload_n 1, 1) := by decide +kernel
theorem dL_lay_41 : decode cL_lay 41 = .ok (.bipush 11, 2) := by decide +kernel
theorem dL_lay_43 : decode cL_lay 43 = .ok (.iload 4, 2) := by decide +kernel
theorem dL_lay_45 : decode cL_lay 45 = .ok (.iadd, 1) := by decide +kernel
theorem dL_lay_46 : decode cL_lay 46 = .ok (.sipush 381, 3) := by decide +kernel
theorem dL_lay_49 : decode cL_lay 49 = .ok (.invokestatic 100, 3) := by decide +kernel
theorem dL_lay_52 : decode cL_lay 52 = .ok (.iadd, 1) := by decide +kernel
theorem dL_lay_53 : decode cL_lay 53 = .ok (.iconst 0, 1) := by decide +kernel
theorem dL_lay_54 : decode cL_lay 54 = .ok (.iconst 0, 1) := by decide +kernel
theorem dL_lay_55 : decode cL_lay 55 = .ok (.invokestatic 104, 3) := by decide +kernel
theorem dL_lay_58 : decode cL_lay 58 = .ok (.iadd, 1) := by decide +kernel
theorem dL_lay_59 : decode cL_lay 59 = .ok (.istore_n 2, 1) := by decide +kernel
theorem dL_lay_60 : decode cL_lay 60 = .ok (.iconst 0, 1) := by decide +kernel
theorem dL_lay_61 : decode cL_lay 61 = .ok (.istore 5, 2) := by decide +kernel
theorem dL_lay_63 : decode cL_lay 63 = .ok (.iload 5, 2) := by decide +kernel
theorem dL_lay_65 : decode cL_lay 65 = .ok (.aload_n 1, 1) := by decide +kernel
theorem dL_lay_66 : decode cL_lay 66 = .ok (.bipush 21, 2) := by decide +kernel
theorem dL_lay_68 : decode cL_lay 68 = .ok (.iload 4, 2) := by decide +kernel
theorem dL_lay_70 : decode cL_lay 70 = .ok (.iadd, 1) := by decide +kernel
theorem dL_lay_71 : decode cL_lay 71 = .ok (.bipush 10, 2) := by decide +kernel
theorem dL_lay_73 : decode cL_lay 73 = .ok (.invokestatic 100, 3) := by decide +kernel
theorem dL_lay_76 : decode cL_lay 76 = .ok (.if_icmp .ge 71, 3) := by decide +kernel
theorem dL_lay_79 : decode cL_lay 79 = .ok (.iload_n 2, 1) := by decide +kernel
theorem dL_lay_80 : decode cL_lay 80 = .ok (.aload_n 0, 1) := by decide +kernel
theorem dL_lay_81 : decode cL_lay 81 = .ok (.iconst 1, 1) := by decide +kernel
theorem dL_lay_82 : decode cL_lay 82 = .ok (.iload 4, 2) := by decide +kernel
theorem dL_lay_84 : decode cL_lay 84 = .ok (.iconst 1, 1) := by decide +kernel
theorem dL_lay_85 : decode cL_lay 85 = .ok (.aload_n 1, 1) := by decide +kernel
theorem dL_lay_86 : decode cL_lay 86 = .ok (.bipush 31, 2) := by decide +kernel
theorem dL_lay_88 : decode cL_lay 88 = .ok (.bipush 9, 2) := by decide +kernel
theorem dL_lay_90 : decode cL_lay 90 = .ok (.iload 4, 2) := by decide +kernel
theorem dL_lay_92 : decode cL_lay 92 = .ok (.imul, 1) := by decide +kernel
theorem dL_lay_93 : decode cL_lay 93 = .ok (.iadd, 1) := by decide +kernel
theorem dL_lay_94 : decode cL_lay 94 = .ok (.iload 5, 2) := by decide +kernel
theorem dL_lay_96 : decode cL_lay 96 = .ok (.iadd, 1) := by decide +kernel
theorem dL_lay_97 : decode cL_lay 97 = .ok (.aload_n 1, 1) := by decide +kernel
theorem dL_lay_98 : decode cL_lay 98 = .ok (.sipush 201, 3) := by decide +kernel
theorem dL_lay_101 : decode cL_lay 101 = .ok (.iconst 2, 1) := by decide +kernel
theorem dL_lay_102 : decode cL_lay 102 = .ok (.invokestatic 100, 3) := by decide +kernel
theorem dL_lay_105 : decode cL_lay 105 = .ok (.ifCond .ne 7, 3) := by decide +kernel
theorem dL_lay_108 : decode cL_lay 108 = .ok (.iconst 5, 1) := by decide +kernel
theorem dL_lay_109 : decode cL_lay 109 = .ok (.goto 5, 3) := by decide +kernel
theorem dL_lay_112 : decode cL_lay 112 = .ok (.bipush 30, 2) := by decide +kernel
theorem dL_lay_114 : decode cL_lay 114 = .ok (.invokestatic 100, 3) := by decide +kernel
theorem dL_lay_117 : decode cL_lay 117 = .ok (.iadd, 1) := by decide +kernel
theorem dL_lay_118 : decode cL_lay 118 = .ok (.aload_n 1, 1) := by decide +kernel
theorem dL_lay_119 : decode cL_lay 119 = .ok (.bipush 101, 2) := by decide +kernel
theorem dL_lay_121 : decode cL_lay 121 = .ok (.bipush 9, 2) := by decide +kernel
theorem dL_lay_123 : decode cL_lay 123 = .ok (.iload 4, 2) := by decide +kernel
theorem dL_lay_125 : decode cL_lay 125 = .ok (.imul, 1) := by decide +kernel
theorem dL_lay_126 : decode cL_lay 126 = .ok (.iadd, 1) := by decide +kernel
theorem dL_lay_127 : decode cL_lay 127 = .ok (.iload 5, 2) := by decide +kernel
theorem dL_lay_129 : decode cL_lay 129 = .ok (.iadd, 1) := by decide +kernel
theorem dL_lay_130 : decode cL_lay 130 = .ok (.bipush 41, 2) := by decide +kernel
theorem dL_lay_132 : decode cL_lay 132 = .ok (.invokestatic 100, 3) := by decide +kernel
theorem dL_lay_135 : decode cL_lay 135 = .ok (.ineg, 1) := by decide +kernel
theorem dL_lay_136 : decode cL_lay 136 = .ok (.invokestatic 104, 3) := by decide +kernel
theorem dL_lay_139 : decode cL_lay 139 = .ok (.iadd, 1) := by decide +kernel
theorem dL_lay_140 : decode cL_lay 140 = .ok (.istore_n 2, 1) := by decide +kernel
theorem dL_lay_141 : decode cL_lay 141 = .ok (.iinc 5 1, 3) := by decide +kernel
theorem dL_lay_144 : decode cL_lay 144 = .ok (.goto (-81), 3) := by decide +kernel
theorem dL_lay_147 : decode cL_lay 147 = .ok (.iinc 4 1, 3) := by decide +kernel
theorem dL_lay_150 : decode cL_lay 150 = .ok (.goto (-121), 3) := by decide +kernel
theorem dL_lay_153 : decode cL_lay 153 = .ok (.iconst 0, 1) := by decide +kernel
theorem dL_lay_154 : decode cL_lay 154 = .ok (.istore 4, 2) := by decide +kernel
theorem dL_lay_156 : decode cL_lay 156 = .ok (.iload 4, 2) := by decide +kernel
theorem dL_lay_158 : decode cL_lay 158 = .ok (.aload_n 1, 1) := by decide +kernel
theorem dL_lay_159 : decode cL_lay 159 = .ok (.iconst 2, 1) := by decide +kernel
theorem dL_lay_160 : decode cL_lay 160 = .ok (.iconst 4, 1) := by decide +kernel
theorem dL_lay_161 : decode cL_lay 161 = .ok (.invokestatic 100, 3) := by decide +kernel
theorem dL_lay_164 : decode cL_lay 164 = .ok (.if_icmp .ge 51, 3) := by decide +kernel
theorem dL_lay_167 : decode cL_lay 167 = .ok (.iconst 1, 1) := by decide +kernel
theorem dL_lay_168 : decode cL_lay 168 = .ok (.aload_n 1, 1) := by decide +kernel
theorem dL_lay_169 : decode cL_lay 169 = .ok (.sipush 171, 3) := by decide +kernel
theorem dL_lay_172 : decode cL_lay 172 = .ok (.iload 4, 2) := by decide +kernel
theorem dL_lay_174 : decode cL_lay 174 = .ok (.iadd, 1) := by decide +kernel
theorem dL_lay_175 : decode cL_lay 175 = .ok (.bipush 40, 2) := by decide +kernel
theorem dL_lay_177 : decode cL_lay 177 = .ok (.invokestatic 100, 3) := by decide +kernel
theorem dL_lay_180 : decode cL_lay 180 = .ok (.iadd, 1) := by decide +kernel
theorem dL_lay_181 : decode cL_lay 181 = .ok (.istore 5, 2) := by decide +kernel
theorem dL_lay_183 : decode cL_lay 183 = .ok (.iload_n 2, 1) := by decide +kernel
theorem dL_lay_184 : decode cL_lay 184 = .ok (.aload_n 0, 1) := by decide +kernel
theorem dL_lay_185 : decode cL_lay 185 = .ok (.iconst 4, 1) := by decide +kernel
theorem dL_lay_186 : decode cL_lay 186 = .ok (.iload 5, 2) := by decide +kernel
theorem dL_lay_188 : decode cL_lay 188 = .ok (.iload 5, 2) := by decide +kernel
theorem dL_lay_190 : decode cL_lay 190 = .ok (.aload_n 1, 1) := by decide +kernel
theorem dL_lay_191 : decode cL_lay 191 = .ok (.sipush 181, 3) := by decide +kernel
theorem dL_lay_194 : decode cL_lay 194 = .ok (.iload 4, 2) := by decide +kernel
theorem dL_lay_196 : decode cL_lay 196 = .ok (.iadd, 1) := by decide +kernel
theorem dL_lay_197 : decode cL_lay 197 = .ok (.bipush 8, 2) := by decide +kernel
theorem dL_lay_199 : decode cL_lay 199 = .ok (.invokestatic 100, 3) := by decide +kernel
theorem dL_lay_202 : decode cL_lay 202 = .ok (.iadd, 1) := by decide +kernel
theorem dL_lay_203 : decode cL_lay 203 = .ok (.iconst 0, 1) := by decide +kernel
theorem dL_lay_204 : decode cL_lay 204 = .ok (.invokestatic 104, 3) := by decide +kernel
theorem dL_lay_207 : decode cL_lay 207 = .ok (.iadd, 1) := by decide +kernel
theorem dL_lay_208 : decode cL_lay 208 = .ok (.istore_n 2, 1) := by decide +kernel
theorem dL_lay_209 : decode cL_lay 209 = .ok (.iinc 4 1, 3) := by decide +kernel
theorem dL_lay_212 : decode cL_lay 212 = .ok (.goto (-56), 3) := by decide +kernel
theorem dL_lay_215 : decode cL_lay 215 = .ok (.return_, 1) := by decide +kernel
theorem dL_any_0 : decode cL_any 0 = .ok (.aload_n 1, 1) := by decide +kernel
theorem dL_any_1 : decode cL_any 1 = .ok (.iload_n 2, 1) := by decide +kernel
theorem dL_any_2 : decode cL_any 2 = .ok (.iconst 1, 1) := by decide +kernel
theorem dL_any_3 : decode cL_any 3 = .ok (.iadd, 1) := by decide +kernel
theorem dL_any_4 : decode cL_any 4 = .ok (.iconst 1, 1) := by decide +kernel
theorem dL_any_5 : decode cL_any 5 = .ok (.aload_n 0, 1) := by decide +kernel
theorem dL_any_6 : decode cL_any 6 = .ok (.invokevirtual 107, 3) := by decide +kernel
theorem dL_any_9 : decode cL_any 9 = .ok (.invokestatic 110, 3) := by decide +kernel
theorem dL_any_12 : decode cL_any 12 = .ok (.invokestatic 100, 3) := by decide +kernel
theorem dL_any_15 : decode cL_any 15 = .ok (.istore_n 3, 1) := by decide +kernel
theorem dL_any_16 : decode cL_any 16 = .ok (.aload_n 1, 1) := by decide +kernel
theorem dL_any_17 : decode cL_any 17 = .ok (.iload_n 2, 1) := by decide +kernel
theorem dL_any_18 : decode cL_any 18 = .ok (.bipush 20, 2) := by decide +kernel
theorem dL_any_20 : decode cL_any 20 = .ok (.invokestatic 100, 3) := by decide +kernel
theorem dL_any_23 : decode cL_any 23 = .ok (.tableswitch 210 0 12 #[65, 86, 86, 86, 86, 114, 114, 114, 134, 134, 169, 192, 192], 65) := by decide +kernel
theorem dL_any_88 : decode cL_any 88 = .ok (.aload_n 0, 1) := by decide +kernel
theorem dL_any_89 : decode cL_any 89 = .ok (.iconst 0, 1) := by decide +kernel
theorem dL_any_90 : decode cL_any 90 = .ok (.bipush 20, 2) := by decide +kernel
theorem dL_any_92 : decode cL_any 92 = .ok (.aload_n 1, 1) := by decide +kernel
theorem dL_any_93 : decode cL_any 93 = .ok (.iload_n 2, 1) := by decide +kernel
theorem dL_any_94 : decode cL_any 94 = .ok (.iconst 2, 1) := by decide +kernel
theorem dL_any_95 : decode cL_any 95 = .ok (.iadd, 1) := by decide +kernel
theorem dL_any_96 : decode cL_any 96 = .ok (.sipush 381, 3) := by decide +kernel
theorem dL_any_99 : decode cL_any 99 = .ok (.invokestatic 100, 3) := by decide +kernel
theorem dL_any_102 : decode cL_any 102 = .ok (.iadd, 1) := by decide +kernel
theorem dL_any_103 : decode cL_any 103 = .ok (.iconst 0, 1) := by decide +kernel
theorem dL_any_104 : decode cL_any 104 = .ok (.iconst 0, 1) := by decide +kernel
theorem dL_any_105 : decode cL_any 105 = .ok (.invokestatic 104, 3) := by decide +kernel
theorem dL_any_108 : decode cL_any 108 = .ok (.ireturn, 1) := by decide +kernel
theorem dL_any_109 : decode cL_any 109 = .ok (.aload_n 0, 1) := by decide +kernel
theorem dL_any_110 : decode cL_any 110 = .ok (.iconst 1, 1) := by decide +kernel
theorem dL_any_111 : decode cL_any 111 = .ok (.iload_n 3, 1) := by decide +kernel
theorem dL_any_112 : decode cL_any 112 = .ok (.iconst 1, 1) := by decide +kernel
theorem dL_any_113 : decode cL_any 113 = .ok (.aload_n 1, 1) := by decide +kernel
theorem dL_any_114 : decode cL_any 114 = .ok (.iload_n 2, 1) := by decide +kernel
theorem dL_any_115 : decode cL_any 115 = .ok (.iconst 2, 1) := by decide +kernel
theorem dL_any_116 : decode cL_any 116 = .ok (.iadd, 1) := by decide +kernel
theorem dL_any_117 : decode cL_any 117 = .ok (.bipush 20, 2) := by decide +kernel
theorem dL_any_119 : decode cL_any 119 = .ok (.invokestatic 100, 3) := by decide +kernel
theorem dL_any_122 : decode cL_any 122 = .ok (.iadd, 1) := by decide +kernel
theorem dL_any_123 : decode cL_any 123 = .ok (.aload_n 1, 1) := by decide +kernel
theorem dL_any_124 : decode cL_any 124 = .ok (.iload_n 2, 1) := by decide +kernel
theorem dL_any_125 : decode cL_any 125 = .ok (.iconst 3, 1) := by decide +kernel
theorem dL_any_126 : decode cL_any 126 = .ok (.iadd, 1) := by decide +kernel
theorem dL_any_127 : decode cL_any 127 = .ok (.bipush 41, 2) := by decide +kernel
theorem dL_any_129 : decode cL_any 129 = .ok (.invokestatic 100, 3) := by decide +kernel
theorem dL_any_132 : decode cL_any 132 = .ok (.ineg, 1) := by decide +kernel
theorem dL_any_133 : decode cL_any 133 = .ok (.invokestatic 104, 3) := by decide +kernel
theorem dL_any_136 : decode cL_any 136 = .ok (.ireturn, 1) := by decide +kernel
theorem dL_any_137 : decode cL_any 137 = .ok (.aload_n 0, 1) := by decide +kernel
theorem dL_any_138 : decode cL_any 138 = .ok (.iconst 2, 1) := by decide +kernel
theorem dL_any_139 : decode cL_any 139 = .ok (.aload_n 1, 1) := by decide +kernel
theorem dL_any_140 : decode cL_any 140 = .ok (.iload_n 2, 1) := by decide +kernel
theorem dL_any_141 : decode cL_any 141 = .ok (.iconst 2, 1) := by decide +kernel
theorem dL_any_142 : decode cL_any 142 = .ok (.iadd, 1) := by decide +kernel
theorem dL_any_143 : decode cL_any 143 = .ok (.bipush 61, 2) := by decide +kernel
theorem dL_any_145 : decode cL_any 145 = .ok (.invokestatic 100, 3) := by decide +kernel
theorem dL_any_148 : decode cL_any 148 = .ok (.bipush 40, 2) := by decide +kernel
theorem dL_any_150 : decode cL_any 150 = .ok (.isub, 1) := by decide +kernel
theorem dL_any_151 : decode cL_any 151 = .ok (.iconst 0, 1) := by decide +kernel
theorem dL_any_152 : decode cL_any 152 = .ok (.iconst 0, 1) := by decide +kernel
theorem dL_any_153 : decode cL_any 153 = .ok (.invokestatic 104, 3) := by decide +kernel
theorem dL_any_156 : decode cL_any 156 = .ok (.ireturn, 1) := by decide +kernel
theorem dL_any_157 : decode cL_any 157 = .ok (.aload_n 0, 1) := by decide +kernel
theorem dL_any_158 : decode cL_any 158 = .ok (.iconst 4, 1) := by decide +kernel
theorem dL_any_159 : decode cL_any 159 = .ok (.aload_n 0, 1) := by decide +kernel
theorem dL_any_160 : decode cL_any 160 = .ok (.invokevirtual 115, 3) := by decide +kernel
theorem dL_any_163 : decode cL_any 163 = .ok (.aload_n 1, 1) := by decide +kernel
theorem dL_any_164 : decode cL_any 164 = .ok (.iload_n 2, 1) := by decide +kernel
theorem dL_any_165 : decode cL_any 165 = .ok (.iconst 2, 1) := by decide +kernel
theorem dL_any_166 : decode cL_any 166 = .ok (.iadd, 1) := by decide +kernel
theorem dL_any_167 : decode cL_any 167 = .ok (.bipush 20, 2) := by decide +kernel
theorem dL_any_169 : decode cL_any 169 = .ok (.invokestatic 100, 3) := by decide +kernel
theorem dL_any_172 : decode cL_any 172 = .ok (.iadd, 1) := by decide +kernel
theorem dL_any_173 : decode cL_any 173 = .ok (.aload_n 0, 1) := by decide +kernel
theorem dL_any_174 : decode cL_any 174 = .ok (.invokevirtual 115, 3) := by decide +kernel
theorem dL_any_177 : decode cL_any 177 = .ok (.aload_n 1, 1) := by decide +kernel
theorem dL_any_178 : decode cL_any 178 = .ok (.iload_n 2, 1) := by decide +kernel
theorem dL_any_179 : decode cL_any 179 = .ok (.iconst 3, 1) := by decide +kernel
theorem dL_any_180 : decode cL_any 180 = .ok (.iadd, 1) := by decide +kernel
theorem dL_any_181 : decode cL_any 181 = .ok (.bipush 30, 2) := by decide +kernel
theorem dL_any_183 : decode cL_any 183 = .ok (.invokestatic 100, 3) := by decide +kernel
theorem dL_any_186 : decode cL_any 186 = .ok (.iadd, 1) := by decide +kernel
theorem dL_any_187 : decode cL_any 187 = .ok (.iconst 0, 1) := by decide +kernel
theorem dL_any_188 : decode cL_any 188 = .ok (.invokestatic 104, 3) := by decide +kernel
theorem dL_any_191 : decode cL_any 191 = .ok (.ireturn, 1) := by decide +kernel
theorem dL_any_192 : decode cL_any 192 = .ok (.aload_n 0, 1) := by decide +kernel
theorem dL_any_193 : decode cL_any 193 = .ok (.iconst 5, 1) := by decide +kernel
theorem dL_any_194 : decode cL_any 194 = .ok (.aload_n 1, 1) := by decide +kernel
theorem dL_any_195 : decode cL_any 195 = .ok (.iload_n 2, 1) := by decide +kernel
theorem dL_any_196 : decode cL_any 196 = .ok (.iconst 2, 1) := by decide +kernel
theorem dL_any_197 : decode cL_any 197 = .ok (.iadd, 1) := by decide +kernel
theorem dL_any_198 : decode cL_any 198 = .ok (.iconst 1, 1) := by decide +kernel
theorem dL_any_199 : decode cL_any 199 = .ok (.aload_n 0, 1) := by decide +kernel
theorem dL_any_200 : decode cL_any 200 = .ok (.invokevirtual 118, 3) := by decide +kernel
theorem dL_any_203 : decode cL_any 203 = .ok (.invokestatic 110, 3) := by decide +kernel
theorem dL_any_206 : decode cL_any 206 = .ok (.invokestatic 100, 3) := by decide +kernel
theorem dL_any_209 : decode cL_any 209 = .ok (.iconst 0, 1) := by decide +kernel
theorem dL_any_210 : decode cL_any 210 = .ok (.iconst 0, 1) := by decide +kernel
theorem dL_any_211 : decode cL_any 211 = .ok (.invokestatic 104, 3) := by decide +kernel
theorem dL_any_214 : decode cL_any 214 = .ok (.ireturn, 1) := by decide +kernel
theorem dL_any_215 : decode cL_any 215 = .ok (.aload_n 0, 1) := by decide +kernel
theorem dL_any_216 : decode cL_any 216 = .ok (.bipush 6, 2) := by decide +kernel
theorem dL_any_218 : decode cL_any 218 = .ok (.iload_n 3, 1) := by decide +kernel
theorem dL_any_219 : decode cL_any 219 = .ok (.aload_n 1, 1) := by decide +kernel
theorem dL_any_220 : decode cL_any 220 = .ok (.iload_n 2, 1) := by decide +kernel
theorem dL_any_221 : decode cL_any 221 = .ok (.iconst 2, 1) := by decide +kernel
theorem dL_any_222 : decode cL_any 222 = .ok (.iadd, 1) := by decide +kernel
theorem dL_any_223 : decode cL_any 223 = .ok (.bipush 8, 2) := by decide +kernel
theorem dL_any_225 : decode cL_any 225 = .ok (.invokestatic 100, 3) := by decide +kernel
theorem dL_any_228 : decode cL_any 228 = .ok (.iconst 0, 1) := by decide +kernel
theorem dL_any_229 : decode cL_any 229 = .ok (.invokestatic 104, 3) := by decide +kernel
theorem dL_any_232 : decode cL_any 232 = .ok (.ireturn, 1) := by decide +kernel
theorem dL_any_233 : decode cL_any 233 = .ok (.aload_n 0, 1) := by decide +kernel
theorem dL_any_234 : decode cL_any 234 = .ok (.iconst 3, 1) := by decide +kernel
theorem dL_any_235 : decode cL_any 235 = .ok (.iconst 1, 1) := by decide +kernel
theorem dL_any_236 : decode cL_any 236 = .ok (.aload_n 1, 1) := by decide +kernel
theorem dL_any_237 : decode cL_any 237 = .ok (.iload_n 2, 1) := by decide +kernel
theorem dL_any_238 : decode cL_any 238 = .ok (.iconst 2, 1) := by decide +kernel
theorem dL_any_239 : decode cL_any 239 = .ok (.iadd, 1) := by decide +kernel
theorem dL_any_240 : decode cL_any 240 = .ok (.aload_n 1, 1) := by decide +kernel
theorem dL_any_241 : decode cL_any 241 = .ok (.iload_n 2, 1) := by decide +kernel
theorem dL_any_242 : decode cL_any 242 = .ok (.iconst 3, 1) := by decide +kernel
theorem dL_any_243 : decode cL_any 243 = .ok (.iadd, 1) := by decide +kernel
theorem dL_any_244 : decode cL_any 244 = .ok (.iconst 2, 1) := by decide +kernel
theorem dL_any_245 : decode cL_any 245 = .ok (.invokestatic 100, 3) := by decide +kernel
theorem dL_any_248 : decode cL_any 248 = .ok (.ifCond .ne 7, 3) := by decide +kernel
theorem dL_any_251 : decode cL_any 251 = .ok (.iconst 4, 1) := by decide +kernel
theorem dL_any_252 : decode cL_any 252 = .ok (.goto 5, 3) := by decide +kernel
theorem dL_any_255 : decode cL_any 255 = .ok (.bipush 48, 2) := by decide +kernel
theorem dL_any_257 : decode cL_any 257 = .ok (.invokestatic 100, 3) := by decide +kernel
theorem dL_any_260 : decode cL_any 260 = .ok (.iadd, 1) := by decide +kernel
theorem dL_any_261 : decode cL_any 261 = .ok (.iconst 0, 1) := by decide +kernel
theorem dL_any_262 : decode cL_any 262 = .ok (.iconst 0, 1) := by decide +kernel
theorem dL_any_263 : decode cL_any 263 = .ok (.invokestatic 104, 3) := by decide +kernel
theorem dL_any_266 : decode cL_any 266 = .ok (.ireturn, 1) := by decide +kernel
theorem dL_looks_0 : decode cL_looks 0 = .ok (.bipush 31, 2) := by decide +kernel
theorem dL_looks_2 : decode cL_looks 2 = .ok (.bipush 31, 2) := by decide +kernel
theorem dL_looks_4 : decode cL_looks 4 = .ok (.bipush 31, 2) := by decide +kernel
theorem dL_looks_6 : decode cL_looks 6 = .ok (.aload_n 0, 1) := by decide +kernel
theorem dL_looks_7 : decode cL_looks 7 = .ok (.invokevirtual 115, 3) := by decide +kernel
theorem dL_looks_10 : decode cL_looks 10 = .ok (.imul, 1) := by decide +kernel
theorem dL_looks_11 : decode cL_looks 11 = .ok (.aload_n 0, 1) := by decide +kernel
theorem dL_looks_12 : decode cL_looks 12 = .ok (.invokevirtual 121, 3) := by decide +kernel
theorem dL_looks_15 : decode cL_looks 15 = .ok (.iadd, 1) := by decide +kernel
theorem dL_looks_16 : decode cL_looks 16 = .ok (.imul, 1) := by decide +kernel
theorem dL_looks_17 : decode cL_looks 17 = .ok (.aload_n 0, 1) := by decide +kernel
theorem dL_looks_18 : decode cL_looks 18 = .ok (.invokevirtual 124, 3) := by decide +kernel
theorem dL_looks_21 : decode cL_looks 21 = .ok (.iadd, 1) := by decide +kernel
theorem dL_looks_22 : decode cL_looks 22 = .ok (.imul, 1) := by decide +kernel
theorem dL_looks_23 : decode cL_looks 23 = .ok (.aload_n 0, 1) := by decide +kernel
theorem dL_looks_24 : decode cL_looks 24 = .ok (.invokevirtual 127, 3) := by decide +kernel
theorem dL_looks_27 : decode cL_looks 27 = .ok (.iadd, 1) := by decide +kernel
theorem dL_looks_28 : decode cL_looks 28 = .ok (.istore_n 1, 1) := by decide +kernel
theorem dL_looks_29 : decode cL_looks 29 = .ok (.iconst 0, 1) := by decide +kernel
theorem dL_looks_30 : decode cL_looks 30 = .ok (.istore_n 2, 1) := by decide +kernel
theorem dL_looks_31 : decode cL_looks 31 = .ok (.iload_n 2, 1) := by decide +kernel
theorem dL_looks_32 : decode cL_looks 32 = .ok (.aload_n 0, 1) := by decide +kernel
theorem dL_looks_33 : decode cL_looks 33 = .ok (.invokevirtual 107, 3) := by decide +kernel
theorem dL_looks_36 : decode cL_looks 36 = .ok (.if_icmp .ge 78, 3) := by decide +kernel
theorem dL_looks_39 : decode cL_looks 39 = .ok (.bipush 31, 2) := by decide +kernel
theorem dL_looks_41 : decode cL_looks 41 = .ok (.bipush 31, 2) := by decide +kernel
theorem dL_looks_43 : decode cL_looks 43 = .ok (.iload_n 1, 1) := by decide +kernel
theorem dL_looks_44 : decode cL_looks 44 = .ok (.imul, 1) := by decide +kernel
theorem dL_looks_45 : decode cL_looks 45 = .ok (.aload_n 0, 1) := by decide +kernel
theorem dL_looks_46 : decode cL_looks 46 = .ok (.iload_n 2, 1) := by decide +kernel
theorem dL_looks_47 : decode cL_looks 47 = .ok (.invokevirtual 57, 3) := by decide +kernel
theorem dL_looks_50 : decode cL_looks 50 = .ok (.iadd, 1) := by decide +kernel
theorem dL_looks_51 : decode cL_looks 51 = .ok (.imul, 1) := by decide +kernel
theorem dL_looks_52 : decode cL_looks 52 = .ok (.aload_n 0, 1) := by decide +kernel
theorem dL_looks_53 : decode cL_looks 53 = .ok (.iload_n 2, 1) := by decide +kernel
theorem dL_looks_54 : decode cL_looks 54 = .ok (.invokevirtual 130, 3) := by decide +kernel
theorem dL_looks_57 : decode cL_looks 57 = .ok (.iadd, 1) := by decide +kernel
theorem dL_looks_58 : decode cL_looks 58 = .ok (.istore_n 1, 1) := by decide +kernel
theorem dL_looks_59 : decode cL_looks 59 = .ok (.iconst 0, 1) := by decide +kernel
theorem dL_looks_60 : decode cL_looks 60 = .ok (.istore_n 3, 1) := by decide +kernel
theorem dL_looks_61 : decode cL_looks 61 = .ok (.iload_n 3, 1) := by decide +kernel
theorem dL_looks_62 : decode cL_looks 62 = .ok (.aload_n 0, 1) := by decide +kernel
theorem dL_looks_63 : decode cL_looks 63 = .ok (.iload_n 2, 1) := by decide +kernel
theorem dL_looks_64 : decode cL_looks 64 = .ok (.invokevirtual 133, 3) := by decide +kernel
theorem dL_looks_67 : decode cL_looks 67 = .ok (.if_icmp .ge 41, 3) := by decide +kernel
theorem dL_looks_70 : decode cL_looks 70 = .ok (.bipush 31, 2) := by decide +kernel
theorem dL_looks_72 : decode cL_looks 72 = .ok (.bipush 31, 2) := by decide +kernel
theorem dL_looks_74 : decode cL_looks 74 = .ok (.bipush 31, 2) := by decide +kernel
theorem dL_looks_76 : decode cL_looks 76 = .ok (.iload_n 1, 1) := by decide +kernel
theorem dL_looks_77 : decode cL_looks 77 = .ok (.imul, 1) := by decide +kernel
theorem dL_looks_78 : decode cL_looks 78 = .ok (.aload_n 0, 1) := by decide +kernel
theorem dL_looks_79 : decode cL_looks 79 = .ok (.iload_n 2, 1) := by decide +kernel
theorem dL_looks_80 : decode cL_looks 80 = .ok (.iload_n 3, 1) := by decide +kernel
theorem dL_looks_81 : decode cL_looks 81 = .ok (.invokevirtual 136, 3) := by decide +kernel
theorem dL_looks_84 : decode cL_looks 84 = .ok (.iadd, 1) := by decide +kernel
theorem dL_looks_85 : decode cL_looks 85 = .ok (.imul, 1) := by decide +kernel
theorem dL_looks_86 : decode cL_looks 86 = .ok (.aload_n 0, 1) := by decide +kernel
theorem dL_looks_87 : decode cL_looks 87 = .ok (.iload_n 2, 1) := by decide +kernel
theorem dL_looks_88 : decode cL_looks 88 = .ok (.iload_n 3, 1) := by decide +kernel
theorem dL_looks_89 : decode cL_looks 89 = .ok (.invokevirtual 60, 3) := by decide +kernel
theorem dL_looks_92 : decode cL_looks 92 = .ok (.iadd, 1) := by decide +kernel
theorem dL_looks_93 : decode cL_looks 93 = .ok (.imul, 1) := by decide +kernel
theorem dL_looks_94 : decode cL_looks 94 = .ok (.aload_n 0, 1) := by decide +kernel
theorem dL_looks_95 : decode cL_looks 95 = .ok (.iload_n 2, 1) := by decide +kernel
theorem dL_looks_96 : decode cL_looks 96 = .ok (.iload_n 3, 1) := by decide +kernel
theorem dL_looks_97 : decode cL_looks 97 = .ok (.invokevirtual 139, 3) := by decide +kernel
theorem dL_looks_100 : decode cL_looks 100 = .ok (.iadd, 1) := by decide +kernel
theorem dL_looks_101 : decode cL_looks 101 = .ok (.istore_n 1, 1) := by decide +kernel
theorem dL_looks_102 : decode cL_looks 102 = .ok (.iinc 3 1, 3) := by decide +kernel
theorem dL_looks_105 : decode cL_looks 105 = .ok (.goto (-44), 3) := by decide +kernel
theorem dL_looks_108 : decode cL_looks 108 = .ok (.iinc 2 1, 3) := by decide +kernel
theorem dL_looks_111 : decode cL_looks 111 = .ok (.goto (-80), 3) := by decide +kernel
theorem dL_looks_114 : decode cL_looks 114 = .ok (.iconst 0, 1) := by decide +kernel
theorem dL_looks_115 : decode cL_looks 115 = .ok (.istore_n 2, 1) := by decide +kernel
theorem dL_looks_116 : decode cL_looks 116 = .ok (.iload_n 2, 1) := by decide +kernel
theorem dL_looks_117 : decode cL_looks 117 = .ok (.aload_n 0, 1) := by decide +kernel
theorem dL_looks_118 : decode cL_looks 118 = .ok (.invokevirtual 118, 3) := by decide +kernel
theorem dL_looks_121 : decode cL_looks 121 = .ok (.if_icmp .ge 29, 3) := by decide +kernel
theorem dL_looks_124 : decode cL_looks 124 = .ok (.bipush 31, 2) := by decide +kernel
theorem dL_looks_126 : decode cL_looks 126 = .ok (.bipush 31, 2) := by decide +kernel
theorem dL_looks_128 : decode cL_looks 128 = .ok (.iload_n 1, 1) := by decide +kernel
theorem dL_looks_129 : decode cL_looks 129 = .ok (.imul, 1) := by decide +kernel
theorem dL_looks_130 : decode cL_looks 130 = .ok (.aload_n 0, 1) := by decide +kernel
theorem dL_looks_131 : decode cL_looks 131 = .ok (.iload_n 2, 1) := by decide +kernel
theorem dL_looks_132 : decode cL_looks 132 = .ok (.invokevirtual 72, 3) := by decide +kernel
theorem dL_looks_135 : decode cL_looks 135 = .ok (.iadd, 1) := by decide +kernel
theorem dL_looks_136 : decode cL_looks 136 = .ok (.imul, 1) := by decide +kernel
theorem dL_looks_137 : decode cL_looks 137 = .ok (.aload_n 0, 1) := by decide +kernel
theorem dL_looks_138 : decode cL_looks 138 = .ok (.iload_n 2, 1) := by decide +kernel
theorem dL_looks_139 : decode cL_looks 139 = .ok (.invokevirtual 142, 3) := by decide +kernel
theorem dL_looks_142 : decode cL_looks 142 = .ok (.iadd, 1) := by decide +kernel
theorem dL_looks_143 : decode cL_looks 143 = .ok (.istore_n 1, 1) := by decide +kernel
theorem dL_looks_144 : decode cL_looks 144 = .ok (.iinc 2 1, 3) := by decide +kernel
theorem dL_looks_147 : decode cL_looks 147 = .ok (.goto (-31), 3) := by decide +kernel
theorem dL_looks_150 : decode cL_looks 150 = .ok (.iconst 0, 1) := by decide +kernel
theorem dL_looks_151 : decode cL_looks 151 = .ok (.istore_n 2, 1) := by decide +kernel
theorem dL_looks_152 : decode cL_looks 152 = .ok (.iload_n 2, 1) := by decide +kernel
theorem dL_looks_153 : decode cL_looks 153 = .ok (.aload_n 0, 1) := by decide +kernel
theorem dL_looks_154 : decode cL_looks 154 = .ok (.invokevirtual 145, 3) := by decide +kernel
theorem dL_looks_157 : decode cL_looks 157 = .ok (.if_icmp .ge 47, 3) := by decide +kernel
theorem dL_looks_160 : decode cL_looks 160 = .ok (.bipush 31, 2) := by decide +kernel
theorem dL_looks_162 : decode cL_looks 162 = .ok (.bipush 31, 2) := by decide +kernel
theorem dL_looks_164 : decode cL_looks 164 = .ok (.bipush 31, 2) := by decide +kernel
theorem dL_looks_166 : decode cL_looks 166 = .ok (.bipush 31, 2) := by decide +kernel
theorem dL_looks_168 : decode cL_looks 168 = .ok (.iload_n 1, 1) := by decide +kernel
theorem dL_looks_169 : decode cL_looks 169 = .ok (.imul, 1) := by decide +kernel
theorem dL_looks_170 : decode cL_looks 170 = .ok (.aload_n 0, 1) := by decide +kernel
theorem dL_looks_171 : decode cL_looks 171 = .ok (.iload_n 2, 1) := by decide +kernel
theorem dL_looks_172 : decode cL_looks 172 = .ok (.invokevirtual 148, 3) := by decide +kernel
theorem dL_looks_175 : decode cL_looks 175 = .ok (.iadd, 1) := by decide +kernel
theorem dL_looks_176 : decode cL_looks 176 = .ok (.imul, 1) := by decide +kernel
theorem dL_looks_177 : decode cL_looks 177 = .ok (.aload_n 0, 1) := by decide +kernel
theorem dL_looks_178 : decode cL_looks 178 = .ok (.iload_n 2, 1) := by decide +kernel
theorem dL_looks_179 : decode cL_looks 179 = .ok (.invokevirtual 152, 3) := by decide +kernel
theorem dL_looks_182 : decode cL_looks 182 = .ok (.iadd, 1) := by decide +kernel
theorem dL_looks_183 : decode cL_looks 183 = .ok (.imul, 1) := by decide +kernel
theorem dL_looks_184 : decode cL_looks 184 = .ok (.aload_n 0, 1) := by decide +kernel
theorem dL_looks_185 : decode cL_looks 185 = .ok (.iload_n 2, 1) := by decide +kernel
theorem dL_looks_186 : decode cL_looks 186 = .ok (.invokevirtual 78, 3) := by decide +kernel
theorem dL_looks_189 : decode cL_looks 189 = .ok (.iadd, 1) := by decide +kernel
theorem dL_looks_190 : decode cL_looks 190 = .ok (.imul, 1) := by decide +kernel
theorem dL_looks_191 : decode cL_looks 191 = .ok (.aload_n 0, 1) := by decide +kernel
theorem dL_looks_192 : decode cL_looks 192 = .ok (.iload_n 2, 1) := by decide +kernel
theorem dL_looks_193 : decode cL_looks 193 = .ok (.invokevirtual 155, 3) := by decide +kernel
theorem dL_looks_196 : decode cL_looks 196 = .ok (.iadd, 1) := by decide +kernel
theorem dL_looks_197 : decode cL_looks 197 = .ok (.istore_n 1, 1) := by decide +kernel
theorem dL_looks_198 : decode cL_looks 198 = .ok (.iinc 2 1, 3) := by decide +kernel
theorem dL_looks_201 : decode cL_looks 201 = .ok (.goto (-49), 3) := by decide +kernel
theorem dL_looks_204 : decode cL_looks 204 = .ok (.iload_n 1, 1) := by decide +kernel
theorem dL_looks_205 : decode cL_looks 205 = .ok (.ireturn, 1) := by decide +kernel
theorem dL_isLakeRight_0 : decode cL_isLakeRight 0 = .ok (.aload_n 0, 1) := by decide +kernel
theorem dL_isLakeRight_1 : decode cL_isLakeRight 1 = .ok (.iload_n 1, 1) := by decide +kernel
theorem dL_isLakeRight_2 : decode cL_isLakeRight 2 = .ok (.invokevirtual 133, 3) := by decide +kernel
theorem dL_isLakeRight_5 : decode cL_isLakeRight 5 = .ok (.istore_n 2, 1) := by decide +kernel
theorem dL_isLakeRight_6 : decode cL_isLakeRight 6 = .ok (.iconst 0, 1) := by decide +kernel
theorem dL_isLakeRight_7 : decode cL_isLakeRight 7 = .ok (.istore_n 3, 1) := by decide +kernel
theorem dL_isLakeRight_8 : decode cL_isLakeRight 8 = .ok (.iconst 0, 1) := by decide +kernel
theorem dL_isLakeRight_9 : decode cL_isLakeRight 9 = .ok (.istore 4, 2) := by decide +kernel
theorem dL_isLakeRight_11 : decode cL_isLakeRight 11 = .ok (.ldc 158, 2) := by decide +kernel
theorem dL_isLakeRight_13 : decode cL_isLakeRight 13 = .ok (.astore 5, 2) := by decide +kernel
theorem dL_isLakeRight_15 : decode cL_isLakeRight 15 = .ok (.iload_n 2, 1) := by decide +kernel
theorem dL_isLakeRight_16 : decode cL_isLakeRight 16 = .ok (.bipush 8, 2) := by decide +kernel
theorem dL_isLakeRight_18 : decode cL_isLakeRight 18 = .ok (.if_icmp .gt 60, 3) := by decide +kernel
theorem dL_isLakeRight_21 : decode cL_isLakeRight 21 = .ok (.aload_n 0, 1) := by decide +kernel
theorem dL_isLakeRight_22 : decode cL_isLakeRight 22 = .ok (.iconst 1, 1) := by decide +kernel
theorem dL_isLakeRight_23 : decode cL_isLakeRight 23 = .ok (.iload_n 1, 1) := by decide +kernel
theorem dL_isLakeRight_24 : decode cL_isLakeRight 24 = .ok (.iload_n 2, 1) := by decide +kernel
theorem dL_isLakeRight_25 : decode cL_isLakeRight 25 = .ok (.invokestatic 160, 3) := by decide +kernel
theorem dL_isLakeRight_28 : decode cL_isLakeRight 28 = .ok (.sipush (-2002), 3) := by decide +kernel
theorem dL_isLakeRight_31 : decode cL_isLakeRight 31 = .ok (.if_icmp .ne 47, 3) := by decide +kernel
theorem dL_isLakeRight_34 : decode cL_isLakeRight 34 = .ok (.aload_n 0, 1) := by decide +kernel
theorem dL_isLakeRight_35 : decode cL_isLakeRight 35 = .ok (.iconst 1, 1) := by decide +kernel
theorem dL_isLakeRight_36 : decode cL_isLakeRight 36 = .ok (.iload_n 1, 1) := by decide +kernel
theorem dL_isLakeRight_37 : decode cL_isLakeRight 37 = .ok (.iconst (-1), 1) := by decide +kernel
theorem dL_isLakeRight_38 : decode cL_isLakeRight 38 = .ok (.invokestatic 160, 3) := by decide +kernel
theorem dL_isLakeRight_41 : decode cL_isLakeRight 41 = .ok (.sipush (-2002), 3) := by decide +kernel
theorem dL_isLakeRight_44 : decode cL_isLakeRight 44 = .ok (.if_icmp .ne 34, 3) := by decide +kernel
theorem dL_isLakeRight_47 : decode cL_isLakeRight 47 = .ok (.aload_n 0, 1) := by decide +kernel
theorem dL_isLakeRight_48 : decode cL_isLakeRight 48 = .ok (.iconst 2, 1) := by decide +kernel
theorem dL_isLakeRight_49 : decode cL_isLakeRight 49 = .ok (.iload_n 1, 1) := by decide +kernel
theorem dL_isLakeRight_50 : decode cL_isLakeRight 50 = .ok (.iconst (-1), 1) := by decide +kernel
theorem dL_isLakeRight_51 : decode cL_isLakeRight 51 = .ok (.invokestatic 160, 3) := by decide +kernel
theorem dL_isLakeRight_54 : decode cL_isLakeRight 54 = .ok (.sipush (-2004), 3) := by decide +kernel
theorem dL_isLakeRight_57 : decode cL_isLakeRight 57 = .ok (.if_icmp .ne 21, 3) := by decide +kernel
theorem dL_isLakeRight_60 : decode cL_isLakeRight 60 = .ok (.aload_n 0, 1) := by decide +kernel
theorem dL_isLakeRight_61 : decode cL_isLakeRight 61 = .ok (.bipush 6, 2) := by decide +kernel
theorem dL_isLakeRight_63 : decode cL_isLakeRight 63 = .ok (.iload_n 1, 1) := by decide +kernel
theorem dL_isLakeRight_64 : decode cL_isLakeRight 64 = .ok (.iload_n 2, 1) := by decide +kernel
theorem dL_isLakeRight_65 : decode cL_isLakeRight 65 = .ok (.invokestatic 160, 3) := by decide +kernel
theorem dL_isLakeRight_68 : decode cL_isLakeRight 68 = .ok (.sipush (-2002), 3) := by decide +kernel
theorem dL_isLakeRight_71 : decode cL_isLakeRight 71 = .ok (.if_icmp .ne 7, 3) := by decide +kernel
theorem dL_isLakeRight_74 : decode cL_isLakeRight 74 = .ok (.iconst 1, 1) := by decide +kernel
theorem dL_isLakeRight_75 : decode cL_isLakeRight 75 = .ok (.goto 4, 3) := by decide +kernel
theorem dL_isLakeRight_78 : decode cL_isLakeRight 78 = .ok (.iconst 0, 1) := by decide +kernel
theorem dL_isLakeRight_79 : decode cL_isLakeRight 79 = .ok (.istore 6, 2) := by decide +kernel
theorem dL_isLakeRight_81 : decode cL_isLakeRight 81 = .ok (.iconst 0, 1) := by decide +kernel
theorem dL_isLakeRight_82 : decode cL_isLakeRight 82 = .ok (.istore 7, 2) := by decide +kernel
theorem dL_isLakeRight_84 : decode cL_isLakeRight 84 = .ok (.iload 7, 2) := by decide +kernel
theorem dL_isLakeRight_86 : decode cL_isLakeRight 86 = .ok (.iload_n 2, 1) := by decide +kernel
theorem dL_isLakeRight_87 : decode cL_isLakeRight 87 = .ok (.if_icmp .ge 210, 3) := by decide +kernel
theorem dL_isLakeRight_90 : decode cL_isLakeRight 90 = .ok (.aload_n 0, 1) := by decide +kernel
theorem dL_isLakeRight_91 : decode cL_isLakeRight 91 = .ok (.iload_n 1, 1) := by decide +kernel
theorem dL_isLakeRight_92 : decode cL_isLakeRight 92 = .ok (.iload 7, 2) := by decide +kernel
theorem dL_isLakeRight_94 : decode cL_isLakeRight 94 = .ok (.invokevirtual 136, 3) := by decide +kernel
theorem dL_isLakeRight_97 : decode cL_isLakeRight 97 = .ok (.istore 8, 2) := by decide +kernel
theorem dL_isLakeRight_99 : decode cL_isLakeRight 99 = .ok (.aload_n 0, 1) := by decide +kernel
theorem dL_isLakeRight_100 : decode cL_isLakeRight 100 = .ok (.iload_n 1, 1) := by decide +kernel
theorem dL_isLakeRight_101 : decode cL_isLakeRight 101 = .ok (.iload 7, 2) := by decide +kernel
theorem dL_isLakeRight_103 : decode cL_isLakeRight 103 = .ok (.invokevirtual 60, 3) := by decide +kernel
theorem dL_isLakeRight_106 : decode cL_isLakeRight 106 = .ok (.istore 9, 2) := by decide +kernel
theorem dL_isLakeRight_108 : decode cL_isLakeRight 108 = .ok (.iload 6, 2) := by decide +kernel
theorem dL_isLakeRight_110 : decode cL_isLakeRight 110 = .ok (.ifCond .eq 54, 3) := by decide +kernel
theorem dL_isLakeRight_113 : decode cL_isLakeRight 113 = .ok (.aload_n 0, 1) := by decide +kernel
theorem dL_isLakeRight_114 : decode cL_isLakeRight 114 = .ok (.iload_n 1, 1) := by decide +kernel
theorem dL_isLakeRight_115 : decode cL_isLakeRight 115 = .ok (.iload_n 3, 1) := by decide +kernel
theorem dL_isLakeRight_116 : decode cL_isLakeRight 116 = .ok (.invokevirtual 63, 3) := by decide +kernel
theorem dL_isLakeRight_119 : decode cL_isLakeRight 119 = .ok (.iload 7, 2) := by decide +kernel
theorem dL_isLakeRight_121 : decode cL_isLakeRight 121 = .ok (.if_icmp .ne 43, 3) := by decide +kernel
theorem dL_isLakeRight_124 : decode cL_isLakeRight 124 = .ok (.aload_n 0, 1) := by decide +kernel
theorem dL_isLakeRight_125 : decode cL_isLakeRight 125 = .ok (.iload_n 1, 1) := by decide +kernel
theorem dL_isLakeRight_126 : decode cL_isLakeRight 126 = .ok (.iload_n 3, 1) := by decide +kernel
theorem dL_isLakeRight_127 : decode cL_isLakeRight 127 = .ok (.iload 8, 2) := by decide +kernel
theorem dL_isLakeRight_129 : decode cL_isLakeRight 129 = .ok (.iadd, 1) := by decide +kernel
theorem dL_isLakeRight_130 : decode cL_isLakeRight 130 = .ok (.iconst 1, 1) := by decide +kernel
theorem dL_isLakeRight_131 : decode cL_isLakeRight 131 = .ok (.isub, 1) := by decide +kernel
theorem dL_isLakeRight_132 : decode cL_isLakeRight 132 = .ok (.invokevirtual 63, 3) := by decide +kernel
theorem dL_isLakeRight_135 : decode cL_isLakeRight 135 = .ok (.iload 7, 2) := by decide +kernel
theorem dL_isLakeRight_137 : decode cL_isLakeRight 137 = .ok (.if_icmp .ne 27, 3) := by decide +kernel
theorem dL_isLakeRight_140 : decode cL_isLakeRight 140 = .ok (.iload 8, 2) := by decide +kernel
theorem dL_isLakeRight_142 : decode cL_isLakeRight 142 = .ok (.ifCond .le 22, 3) := by decide +kernel
theorem dL_isLakeRight_145 : decode cL_isLakeRight 145 = .ok (.iload 9, 2) := by decide +kernel
theorem dL_isLakeRight_147 : decode cL_isLakeRight 147 = .ok (.ifCond .gt 17, 3) := by decide +kernel
theorem dL_isLakeRight_150 : decode cL_isLakeRight 150 = .ok (.aload_n 0, 1) := by decide +kernel
theorem dL_isLakeRight_151 : decode cL_isLakeRight 151 = .ok (.iload_n 1, 1) := by decide +kernel
theorem dL_isLakeRight_152 : decode cL_isLakeRight 152 = .ok (.iload 7, 2) := by decide +kernel
theorem dL_isLakeRight_154 : decode cL_isLakeRight 154 = .ok (.invokevirtual 139, 3) := by decide +kernel
theorem dL_isLakeRight_157 : decode cL_isLakeRight 157 = .ok (.ifCond .lt 7, 3) := by decide +kernel
theorem dL_isLakeRight_160 : decode cL_isLakeRight 160 = .ok (.iconst 1, 1) := by decide +kernel
theorem dL_isLakeRight_161 : decode cL_isLakeRight 161 = .ok (.goto 4, 3) := by decide +kernel
theorem dL_isLakeRight_164 : decode cL_isLakeRight 164 = .ok (.iconst 0, 1) := by decide +kernel
theorem dL_isLakeRight_165 : decode cL_isLakeRight 165 = .ok (.istore 6, 2) := by decide +kernel
theorem dL_isLakeRight_167 : decode cL_isLakeRight 167 = .ok (.iload 6, 2) := by decide +kernel
theorem dL_isLakeRight_169 : decode cL_isLakeRight 169 = .ok (.ifCond .eq 38, 3) := by decide +kernel
theorem dL_isLakeRight_172 : decode cL_isLakeRight 172 = .ok (.aload_n 0, 1) := by decide +kernel
theorem dL_isLakeRight_173 : decode cL_isLakeRight 173 = .ok (.bipush 6, 2) := by decide +kernel
theorem dL_isLakeRight_175 : decode cL_isLakeRight 175 = .ok (.iload_n 1, 1) := by decide +kernel
theorem dL_isLakeRight_176 : decode cL_isLakeRight 176 = .ok (.iload 7, 2) := by decide +kernel
theorem dL_isLakeRight_178 : decode cL_isLakeRight 178 = .ok (.invokestatic 160, 3) := by decide +kernel
theorem dL_isLakeRight_181 : decode cL_isLakeRight 181 = .ok (.iload 9, 2) := by decide +kernel
theorem dL_isLakeRight_183 : decode cL_isLakeRight 183 = .ok (.ifCond .ne 9, 3) := by decide +kernel
theorem dL_isLakeRight_186 : decode cL_isLakeRight 186 = .ok (.sipush (-2001), 3) := by decide +kernel
theorem dL_isLakeRight_189 : decode cL_isLakeRight 189 = .ok (.goto 11, 3) := by decide +kernel
theorem dL_isLakeRight_192 : decode cL_isLakeRight 192 = .ok (.bipush 100, 2) := by decide +kernel
theorem dL_isLakeRight_194 : decode cL_isLakeRight 194 = .ok (.iload 8, 2) := by decide +kernel
theorem dL_isLakeRight_196 : decode cL_isLakeRight 196 = .ok (.idiv, 1) := by decide +kernel
theorem dL_isLakeRight_197 : decode cL_isLakeRight 197 = .ok (.iload 9, 2) := by decide +kernel
theorem dL_isLakeRight_199 : decode cL_isLakeRight 199 = .ok (.isub, 1) := by decide +kernel
theorem dL_isLakeRight_200 : decode cL_isLakeRight 200 = .ok (.if_icmp .ne 7, 3) := by decide +kernel
theorem dL_isLakeRight_203 : decode cL_isLakeRight 203 = .ok (.iconst 1, 1) := by decide +kernel
theorem dL_isLakeRight_204 : decode cL_isLakeRight 204 = .ok (.goto 4, 3) := by decide +kernel
theorem dL_isLakeRight_207 : decode cL_isLakeRight 207 = .ok (.iconst 0, 1) := by decide +kernel
theorem dL_isLakeRight_208 : decode cL_isLakeRight 208 = .ok (.istore 6, 2) := by decide +kernel
theorem dL_isLakeRight_210 : decode cL_isLakeRight 210 = .ok (.iload_n 3, 1) := by decide +kernel
theorem dL_isLakeRight_211 : decode cL_isLakeRight 211 = .ok (.iload 8, 2) := by decide +kernel
theorem dL_isLakeRight_213 : decode cL_isLakeRight 213 = .ok (.iadd, 1) := by decide +kernel
theorem dL_isLakeRight_214 : decode cL_isLakeRight 214 = .ok (.istore_n 3, 1) := by decide +kernel
theorem dL_isLakeRight_215 : decode cL_isLakeRight 215 = .ok (.iload 4, 2) := by decide +kernel
theorem dL_isLakeRight_217 : decode cL_isLakeRight 217 = .ok (.iload 9, 2) := by decide +kernel
theorem dL_isLakeRight_219 : decode cL_isLakeRight 219 = .ok (.iadd, 1) := by decide +kernel
theorem dL_isLakeRight_220 : decode cL_isLakeRight 220 = .ok (.istore 4, 2) := by decide +kernel
theorem dL_isLakeRight_222 : decode cL_isLakeRight 222 = .ok (.new 163, 3) := by decide +kernel
theorem dL_isLakeRight_225 : decode cL_isLakeRight 225 = .ok (.dup, 1) := by decide +kernel
theorem dL_isLakeRight_226 : decode cL_isLakeRight 226 = .ok (.invokespecial 165, 3) := by decide +kernel
theorem dL_isLakeRight_229 : decode cL_isLakeRight 229 = .ok (.aload 5, 2) := by decide +kernel
theorem dL_isLakeRight_231 : decode cL_isLakeRight 231 = .ok (.invokevirtual 166, 3) := by decide +kernel
theorem dL_isLakeRight_234 : decode cL_isLakeRight 234 = .ok (.iload 7, 2) := by decide +kernel
theorem dL_isLakeRight_236 : decode cL_isLakeRight 236 = .ok (.ifCond .ne 8, 3) := by decide +kernel
theorem dL_isLakeRight_239 : decode cL_isLakeRight 239 = .ok (.ldc 158, 2) := by decide +kernel
theorem dL_isLakeRight_241 : decode cL_isLakeRight 241 = .ok (.goto 5, 3) := by decide +kernel
theorem dL_isLakeRight_244 : decode cL_isLakeRight 244 = .ok (.ldc 170, 2) := by decide +kernel
theorem dL_isLakeRight_246 : decode cL_isLakeRight 246 = .ok (.invokevirtual 166, 3) := by decide +kernel
theorem dL_isLakeRight_249 : decode cL_isLakeRight 249 = .ok (.iload 8, 2) := by decide +kernel
theorem dL_isLakeRight_251 : decode cL_isLakeRight 251 = .ok (.invokevirtual 172, 3) := by decide +kernel
theorem dL_isLakeRight_254 : decode cL_isLakeRight 254 = .ok (.ldc 175, 2) := by decide +kernel
theorem dL_isLakeRight_256 : decode cL_isLakeRight 256 = .ok (.invokevirtual 166, 3) := by decide +kernel
theorem dL_isLakeRight_259 : decode cL_isLakeRight 259 = .ok (.iload 9, 2) := by decide +kernel
theorem dL_isLakeRight_261 : decode cL_isLakeRight 261 = .ok (.invokevirtual 172, 3) := by decide +kernel
theorem dL_isLakeRight_264 : decode cL_isLakeRight 264 = .ok (.aload_n 0, 1) := by decide +kernel
theorem dL_isLakeRight_265 : decode cL_isLakeRight 265 = .ok (.iload_n 1, 1) := by decide +kernel
theorem dL_isLakeRight_266 : decode cL_isLakeRight 266 = .ok (.iload 7, 2) := by decide +kernel
theorem dL_isLakeRight_268 : decode cL_isLakeRight 268 = .ok (.invokevirtual 139, 3) := by decide +kernel
theorem dL_isLakeRight_271 : decode cL_isLakeRight 271 = .ok (.bipush 9, 2) := by decide +kernel
theorem dL_isLakeRight_273 : decode cL_isLakeRight 273 = .ok (.if_icmp .le 8, 3) := by decide +kernel
theorem dL_isLakeRight_276 : decode cL_isLakeRight 276 = .ok (.ldc 177, 2) := by decide +kernel
theorem dL_isLakeRight_278 : decode cL_isLakeRight 278 = .ok (.goto 5, 3) := by decide +kernel
theorem dL_isLakeRight_281 : decode cL_isLakeRight 281 = .ok (.ldc 158, 2) := by decide +kernel
theorem dL_isLakeRight_283 : decode cL_isLakeRight 283 = .ok (.invokevirtual 166, 3) := by decide +kernel
theorem dL_isLakeRight_286 : decode cL_isLakeRight 286 = .ok (.invokevirtual 179, 3) := by decide +kernel
theorem dL_isLakeRight_289 : decode cL_isLakeRight 289 = .ok (.astore 5, 2) := by decide +kernel
theorem dL_isLakeRight_291 : decode cL_isLakeRight 291 = .ok (.iinc 7 1, 3) := by decide +kernel
theorem dL_isLakeRight_294 : decode cL_isLakeRight 294 = .ok (.goto (-210), 3) := by decide +kernel
theorem dL_isLakeRight_297 : decode cL_isLakeRight 297 = .ok (.iload 6, 2) := by decide +kernel
theorem dL_isLakeRight_299 : decode cL_isLakeRight 299 = .ok (.ifCond .eq 49, 3) := by decide +kernel
theorem dL_isLakeRight_302 : decode cL_isLakeRight 302 = .ok (.aload_n 0, 1) := by decide +kernel
theorem dL_isLakeRight_303 : decode cL_isLakeRight 303 = .ok (.iconst 2, 1) := by decide +kernel
theorem dL_isLakeRight_304 : decode cL_isLakeRight 304 = .ok (.iload_n 1, 1) := by decide +kernel
theorem dL_isLakeRight_305 : decode cL_isLakeRight 305 = .ok (.iload_n 3, 1) := by decide +kernel
theorem dL_isLakeRight_306 : decode cL_isLakeRight 306 = .ok (.invokestatic 160, 3) := by decide +kernel
theorem dL_isLakeRight_309 : decode cL_isLakeRight 309 = .ok (.sipush (-2004), 3) := by decide +kernel
theorem dL_isLakeRight_312 : decode cL_isLakeRight 312 = .ok (.if_icmp .ne 36, 3) := by decide +kernel
theorem dL_isLakeRight_315 : decode cL_isLakeRight 315 = .ok (.aload_n 0, 1) := by decide +kernel
theorem dL_isLakeRight_316 : decode cL_isLakeRight 316 = .ok (.iload_n 1, 1) := by decide +kernel
theorem dL_isLakeRight_317 : decode cL_isLakeRight 317 = .ok (.invokevirtual 183, 3) := by decide +kernel
theorem dL_isLakeRight_320 : decode cL_isLakeRight 320 = .ok (.iload_n 3, 1) := by decide +kernel
theorem dL_isLakeRight_321 : decode cL_isLakeRight 321 = .ok (.if_icmp .ne 27, 3) := by decide +kernel
theorem dL_isLakeRight_324 : decode cL_isLakeRight 324 = .ok (.aload_n 0, 1) := by decide +kernel
theorem dL_isLakeRight_325 : decode cL_isLakeRight 325 = .ok (.iload_n 1, 1) := by decide +kernel
theorem dL_isLakeRight_326 : decode cL_isLakeRight 326 = .ok (.invokevirtual 186, 3) := by decide +kernel
theorem dL_isLakeRight_329 : decode cL_isLakeRight 329 = .ok (.iload_n 3, 1) := by decide +kernel
theorem dL_isLakeRight_330 : decode cL_isLakeRight 330 = .ok (.if_icmp .ne 18, 3) := by decide +kernel
theorem dL_isLakeRight_333 : decode cL_isLakeRight 333 = .ok (.iconst 2, 1) := by decide +kernel
theorem dL_isLakeRight_334 : decode cL_isLakeRight 334 = .ok (.iload_n 3, 1) := by decide +kernel
theorem dL_isLakeRight_335 : decode cL_isLakeRight 335 = .ok (.imul, 1) := by decide +kernel
theorem dL_isLakeRight_336 : decode cL_isLakeRight 336 = .ok (.aload_n 0, 1) := by decide +kernel
theorem dL_isLakeRight_337 : decode cL_isLakeRight 337 = .ok (.iload_n 1, 1) := by decide +kernel
theorem dL_isLakeRight_338 : decode cL_isLakeRight 338 = .ok (.invokevirtual 57, 3) := by decide +kernel
theorem dL_isLakeRight_341 : decode cL_isLakeRight 341 = .ok (.if_icmp .gt 7, 3) := by decide +kernel
theorem dL_isLakeRight_344 : decode cL_isLakeRight 344 = .ok (.iconst 1, 1) := by decide +kernel
theorem dL_isLakeRight_345 : decode cL_isLakeRight 345 = .ok (.goto 4, 3) := by decide +kernel
theorem dL_isLakeRight_348 : decode cL_isLakeRight 348 = .ok (.iconst 0, 1) := by decide +kernel
theorem dL_isLakeRight_349 : decode cL_isLakeRight 349 = .ok (.istore 6, 2) := by decide +kernel
theorem dL_isLakeRight_351 : decode cL_isLakeRight 351 = .ok (.iload 6, 2) := by decide +kernel
theorem dL_isLakeRight_353 : decode cL_isLakeRight 353 = .ok (.ifCond .eq 57, 3) := by decide +kernel
theorem dL_isLakeRight_356 : decode cL_isLakeRight 356 = .ok (.aload_n 0, 1) := by decide +kernel
theorem dL_isLakeRight_357 : decode cL_isLakeRight 357 = .ok (.iload_n 1, 1) := by decide +kernel
theorem dL_isLakeRight_358 : decode cL_isLakeRight 358 = .ok (.invokevirtual 189, 3) := by decide +kernel
theorem dL_isLakeRight_361 : decode cL_isLakeRight 361 = .ok (.iload_n 3, 1) := by decide +kernel
theorem dL_isLakeRight_362 : decode cL_isLakeRight 362 = .ok (.i2f, 1) := by decide +kernel
theorem dL_isLakeRight_363 : decode cL_isLakeRight 363 = .ok (.aload_n 0, 1) := by decide +kernel
theorem dL_isLakeRight_364 : decode cL_isLakeRight 364 = .ok (.iload_n 1, 1) := by decide +kernel
theorem dL_isLakeRight_365 : decode cL_isLakeRight 365 = .ok (.invokevirtual 57, 3) := by decide +kernel
theorem dL_isLakeRight_368 : decode cL_isLakeRight 368 = .ok (.i2f, 1) := by decide +kernel
theorem dL_isLakeRight_369 : decode cL_isLakeRight 369 = .ok (.fdiv, 1) := by decide +kernel
theorem dL_isLakeRight_370 : decode cL_isLakeRight 370 = .ok (.fcmp .l, 1) := by decide +kernel
theorem dL_isLakeRight_371 : decode cL_isLakeRight 371 = .ok (.ifCond .ne 39, 3) := by decide +kernel
theorem dL_isLakeRight_374 : decode cL_isLakeRight 374 = .ok (.iload_n 2, 1) := by decide +kernel
theorem dL_isLakeRight_375 : decode cL_isLakeRight 375 = .ok (.ifCond .eq 18, 3) := by decide +kernel
theorem dL_isLakeRight_378 : decode cL_isLakeRight 378 = .ok (.aload_n 0, 1) := by decide +kernel
theorem dL_isLakeRight_379 : decode cL_isLakeRight 379 = .ok (.iload_n 1, 1) := by decide +kernel
theorem dL_isLakeRight_380 : decode cL_isLakeRight 380 = .ok (.invokevirtual 193, 3) := by decide +kernel
theorem dL_isLakeRight_383 : decode cL_isLakeRight 383 = .ok (.iload 4, 2) := by decide +kernel
theorem dL_isLakeRight_385 : decode cL_isLakeRight 385 = .ok (.i2d, 1) := by decide +kernel
theorem dL_isLakeRight_386 : decode cL_isLakeRight 386 = .ok (.iload_n 2, 1) := by decide +kernel
theorem dL_isLakeRight_387 : decode cL_isLakeRight 387 = .ok (.i2d, 1) := by decide +kernel
theorem dL_isLakeRight_388 : decode cL_isLakeRight 388 = .ok (.ddiv, 1) := by decide +kernel
theorem dL_isLakeRight_389 : decode cL_isLakeRight 389 = .ok (.dcmp .l, 1) := by decide +kernel
theorem dL_isLakeRight_390 : decode cL_isLakeRight 390 = .ok (.ifCond .ne 20, 3) := by decide +kernel
theorem dL_isLakeRight_393 : decode cL_isLakeRight 393 = .ok (.aload_n 0, 1) := by decide +kernel
theorem dL_isLakeRight_394 : decode cL_isLakeRight 394 = .ok (.iload_n 1, 1) := by decide +kernel
theorem dL_isLakeRight_395 : decode cL_isLakeRight 395 = .ok (.invokevirtual 197, 3) := by decide +kernel
theorem dL_isLakeRight_398 : decode cL_isLakeRight 398 = .ok (.aload 5, 2) := by decide +kernel
theorem dL_isLakeRight_400 : decode cL_isLakeRight 400 = .ok (.invokevirtual 200, 3) := by decide +kernel
theorem dL_isLakeRight_403 : decode cL_isLakeRight 403 = .ok (.if_icmp .ne 7, 3) := by decide +kernel
theorem dL_isLakeRight_406 : decode cL_isLakeRight 406 = .ok (.iconst 1, 1) := by decide +kernel
theorem dL_isLakeRight_407 : decode cL_isLakeRight 407 = .ok (.goto 4, 3) := by decide +kernel
theorem dL_isLakeRight_410 : decode cL_isLakeRight 410 = .ok (.iconst 0, 1) := by decide +kernel
theorem dL_isLakeRight_411 : decode cL_isLakeRight 411 = .ok (.istore 6, 2) := by decide +kernel
theorem dL_isLakeRight_413 : decode cL_isLakeRight 413 = .ok (.iconst 0, 1) := by decide +kernel
theorem dL_isLakeRight_414 : decode cL_isLakeRight 414 = .ok (.istore 7, 2) := by decide +kernel
theorem dL_isLakeRight_416 : decode cL_isLakeRight 416 = .ok (.iload 7, 2) := by decide +kernel
theorem dL_isLakeRight_418 : decode cL_isLakeRight 418 = .ok (.aload 5, 2) := by decide +kernel
theorem dL_isLakeRight_420 : decode cL_isLakeRight 420 = .ok (.invokevirtual 200, 3) := by decide +kernel
theorem dL_isLakeRight_423 : decode cL_isLakeRight 423 = .ok (.if_icmp .ge 37, 3) := by decide +kernel
theorem dL_isLakeRight_426 : decode cL_isLakeRight 426 = .ok (.iload 6, 2) := by decide +kernel
theorem dL_isLakeRight_428 : decode cL_isLakeRight 428 = .ok (.ifCond .eq 32, 3) := by decide +kernel
theorem dL_isLakeRight_431 : decode cL_isLakeRight 431 = .ok (.aload_n 0, 1) := by decide +kernel
theorem dL_isLakeRight_432 : decode cL_isLakeRight 432 = .ok (.iload 7, 2) := by decide +kernel
theorem dL_isLakeRight_434 : decode cL_isLakeRight 434 = .ok (.invokevirtual 205, 3) := by decide +kernel
theorem dL_isLakeRight_437 : decode cL_isLakeRight 437 = .ok (.aload 5, 2) := by decide +kernel
theorem dL_isLakeRight_439 : decode cL_isLakeRight 439 = .ok (.iload 7, 2) := by decide +kernel
theorem dL_isLakeRight_441 : decode cL_isLakeRight 441 = .ok (.invokevirtual 208, 3) := by decide +kernel
theorem dL_isLakeRight_444 : decode cL_isLakeRight 444 = .ok (.if_icmp .ne 7, 3) := by decide +kernel
theorem dL_isLakeRight_447 : decode cL_isLakeRight 447 = .ok (.iconst 1, 1) := by decide +kernel
theorem dL_isLakeRight_448 : decode cL_isLakeRight 448 = .ok (.goto 4, 3) := by decide +kernel
theorem dL_isLakeRight_451 : decode cL_isLakeRight 451 = .ok (.iconst 0, 1) := by decide +kernel
theorem dL_isLakeRight_452 : decode cL_isLakeRight 452 = .ok (.istore 6, 2) := by decide +kernel
theorem dL_isLakeRight_454 : decode cL_isLakeRight 454 = .ok (.iinc 7 1, 3) := by decide +kernel
theorem dL_isLakeRight_457 : decode cL_isLakeRight 457 = .ok (.goto (-41), 3) := by decide +kernel
theorem dL_isLakeRight_460 : decode cL_isLakeRight 460 = .ok (.iload 6, 2) := by decide +kernel
theorem dL_isLakeRight_462 : decode cL_isLakeRight 462 = .ok (.ireturn, 1) := by decide +kernel
theorem dL_areLakesRight_0 : decode cL_areLakesRight 0 = .ok (.aload_n 0, 1) := by decide +kernel
theorem dL_areLakesRight_1 : decode cL_areLakesRight 1 = .ok (.invokevirtual 107, 3) := by decide +kernel
theorem dL_areLakesRight_4 : decode cL_areLakesRight 4 = .ok (.istore_n 1, 1) := by decide +kernel
theorem dL_areLakesRight_5 : decode cL_areLakesRight 5 = .ok (.iconst 0, 1) := by decide +kernel
theorem dL_areLakesRight_6 : decode cL_areLakesRight 6 = .ok (.istore_n 2, 1) := by decide +kernel
theorem dL_areLakesRight_7 : decode cL_areLakesRight 7 = .ok (.iconst 0, 1) := by decide +kernel
theorem dL_areLakesRight_8 : decode cL_areLakesRight 8 = .ok (.istore_n 3, 1) := by decide +kernel
theorem dL_areLakesRight_9 : decode cL_areLakesRight 9 = .ok (.aload_n 0, 1) := by decide +kernel
theorem dL_areLakesRight_10 : decode cL_areLakesRight 10 = .ok (.iconst 0, 1) := by decide +kernel
theorem dL_areLakesRight_11 : decode cL_areLakesRight 11 = .ok (.iload_n 1, 1) := by decide +kernel
theorem dL_areLakesRight_12 : decode cL_areLakesRight 12 = .ok (.iconst 0, 1) := by decide +kernel
theorem dL_areLakesRight_13 : decode cL_areLakesRight 13 = .ok (.invokestatic 160, 3) := by decide +kernel
theorem dL_areLakesRight_16 : decode cL_areLakesRight 16 = .ok (.sipush (-2002), 3) := by decide +kernel
theorem dL_areLakesRight_19 : decode cL_areLakesRight 19 = .ok (.if_icmp .ne 74, 3) := by decide +kernel
theorem dL_areLakesRight_22 : decode cL_areLakesRight 22 = .ok (.aload_n 0, 1) := by decide +kernel
theorem dL_areLakesRight_23 : decode cL_areLakesRight 23 = .ok (.iconst 0, 1) := by decide +kernel
theorem dL_areLakesRight_24 : decode cL_areLakesRight 24 = .ok (.iconst (-1), 1) := by decide +kernel
theorem dL_areLakesRight_25 : decode cL_areLakesRight 25 = .ok (.iconst 0, 1) := by decide +kernel
theorem dL_areLakesRight_26 : decode cL_areLakesRight 26 = .ok (.invokestatic 160, 3) := by decide +kernel
theorem dL_areLakesRight_29 : decode cL_areLakesRight 29 = .ok (.sipush (-2002), 3) := by decide +kernel
theorem dL_areLakesRight_32 : decode cL_areLakesRight 32 = .ok (.if_icmp .ne 61, 3) := by decide +kernel
theorem dL_areLakesRight_35 : decode cL_areLakesRight 35 = .ok (.aload_n 0, 1) := by decide +kernel
theorem dL_areLakesRight_36 : decode cL_areLakesRight 36 = .ok (.iconst 2, 1) := by decide +kernel
theorem dL_areLakesRight_37 : decode cL_areLakesRight 37 = .ok (.iload_n 1, 1) := by decide +kernel
theorem dL_areLakesRight_38 : decode cL_areLakesRight 38 = .ok (.iconst 0, 1) := by decide +kernel
theorem dL_areLakesRight_39 : decode cL_areLakesRight 39 = .ok (.invokestatic 160, 3) := by decide +kernel
theorem dL_areLakesRight_42 : decode cL_areLakesRight 42 = .ok (.sipush (-2002), 3) := by decide +kernel
theorem dL_areLakesRight_45 : decode cL_areLakesRight 45 = .ok (.if_icmp .ne 48, 3) := by decide +kernel
theorem dL_areLakesRight_48 : decode cL_areLakesRight 48 = .ok (.aload_n 0, 1) := by decide +kernel
theorem dL_areLakesRight_49 : decode cL_areLakesRight 49 = .ok (.iconst 4, 1) := by decide +kernel
theorem dL_areLakesRight_50 : decode cL_areLakesRight 50 = .ok (.iload_n 1, 1) := by decide +kernel
theorem dL_areLakesRight_51 : decode cL_areLakesRight 51 = .ok (.iconst 0, 1) := by decide +kernel
theorem dL_areLakesRight_52 : decode cL_areLakesRight 52 = .ok (.invokestatic 160, 3) := by decide +kernel
theorem dL_areLakesRight_55 : decode cL_areLakesRight 55 = .ok (.sipush (-2002), 3) := by decide +kernel
theorem dL_areLakesRight_58 : decode cL_areLakesRight 58 = .ok (.if_icmp .ne 35, 3) := by decide +kernel
theorem dL_areLakesRight_61 : decode cL_areLakesRight 61 = .ok (.aload_n 0, 1) := by decide +kernel
theorem dL_areLakesRight_62 : decode cL_areLakesRight 62 = .ok (.bipush 8, 2) := by decide +kernel
theorem dL_areLakesRight_64 : decode cL_areLakesRight 64 = .ok (.iload_n 1, 1) := by decide +kernel
theorem dL_areLakesRight_65 : decode cL_areLakesRight 65 = .ok (.iconst 0, 1) := by decide +kernel
theorem dL_areLakesRight_66 : decode cL_areLakesRight 66 = .ok (.invokestatic 160, 3) := by decide +kernel
theorem dL_areLakesRight_69 : decode cL_areLakesRight 69 = .ok (.sipush (-2004), 3) := by decide +kernel
theorem dL_areLakesRight_72 : decode cL_areLakesRight 72 = .ok (.if_icmp .ne 21, 3) := by decide +kernel
theorem dL_areLakesRight_75 : decode cL_areLakesRight 75 = .ok (.aload_n 0, 1) := by decide +kernel
theorem dL_areLakesRight_76 : decode cL_areLakesRight 76 = .ok (.bipush 8, 2) := by decide +kernel
theorem dL_areLakesRight_78 : decode cL_areLakesRight 78 = .ok (.iconst (-1), 1) := by decide +kernel
theorem dL_areLakesRight_79 : decode cL_areLakesRight 79 = .ok (.iconst 0, 1) := by decide +kernel
theorem dL_areLakesRight_80 : decode cL_areLakesRight 80 = .ok (.invokestatic 160, 3) := by decide +kernel
theorem dL_areLakesRight_83 : decode cL_areLakesRight 83 = .ok (.sipush (-2004), 3) := by decide +kernel
theorem dL_areLakesRight_86 : decode cL_areLakesRight 86 = .ok (.if_icmp .ne 7, 3) := by decide +kernel
theorem dL_areLakesRight_89 : decode cL_areLakesRight 89 = .ok (.iconst 1, 1) := by decide +kernel
theorem dL_areLakesRight_90 : decode cL_areLakesRight 90 = .ok (.goto 4, 3) := by decide +kernel
theorem dL_areLakesRight_93 : decode cL_areLakesRight 93 = .ok (.iconst 0, 1) := by decide +kernel
theorem dL_areLakesRight_94 : decode cL_areLakesRight 94 = .ok (.istore 4, 2) := by decide +kernel
theorem dL_areLakesRight_96 : decode cL_areLakesRight 96 = .ok (.iconst 0, 1) := by decide +kernel
theorem dL_areLakesRight_97 : decode cL_areLakesRight 97 = .ok (.istore 5, 2) := by decide +kernel
theorem dL_areLakesRight_99 : decode cL_areLakesRight 99 = .ok (.iload 5, 2) := by decide +kernel
theorem dL_areLakesRight_101 : decode cL_areLakesRight 101 = .ok (.iload_n 1, 1) := by decide +kernel
theorem dL_areLakesRight_102 : decode cL_areLakesRight 102 = .ok (.if_icmp .ge 48, 3) := by decide +kernel
theorem dL_areLakesRight_105 : decode cL_areLakesRight 105 = .ok (.iload_n 2, 1) := by decide +kernel
theorem dL_areLakesRight_106 : decode cL_areLakesRight 106 = .ok (.aload_n 0, 1) := by decide +kernel
theorem dL_areLakesRight_107 : decode cL_areLakesRight 107 = .ok (.iload 5, 2) := by decide +kernel
theorem dL_areLakesRight_109 : decode cL_areLakesRight 109 = .ok (.invokevirtual 183, 3) := by decide +kernel
theorem dL_areLakesRight_112 : decode cL_areLakesRight 112 = .ok (.iadd, 1) := by decide +kernel
theorem dL_areLakesRight_113 : decode cL_areLakesRight 113 = .ok (.istore_n 2, 1) := by decide +kernel
theorem dL_areLakesRight_114 : decode cL_areLakesRight 114 = .ok (.iload_n 3, 1) := by decide +kernel
theorem dL_areLakesRight_115 : decode cL_areLakesRight 115 = .ok (.aload_n 0, 1) := by decide +kernel
theorem dL_areLakesRight_116 : decode cL_areLakesRight 116 = .ok (.iload 5, 2) := by decide +kernel
theorem dL_areLakesRight_118 : decode cL_areLakesRight 118 = .ok (.invokevirtual 130, 3) := by decide +kernel
theorem dL_areLakesRight_121 : decode cL_areLakesRight 121 = .ok (.iadd, 1) := by decide +kernel
theorem dL_areLakesRight_122 : decode cL_areLakesRight 122 = .ok (.istore_n 3, 1) := by decide +kernel
theorem dL_areLakesRight_123 : decode cL_areLakesRight 123 = .ok (.iload 4, 2) := by decide +kernel
theorem dL_areLakesRight_125 : decode cL_areLakesRight 125 = .ok (.ifCond .eq 16, 3) := by decide +kernel
theorem dL_areLakesRight_128 : decode cL_areLakesRight 128 = .ok (.aload_n 0, 1) := by decide +kernel
theorem dL_areLakesRight_129 : decode cL_areLakesRight 129 = .ok (.iload 5, 2) := by decide +kernel
theorem dL_areLakesRight_131 : decode cL_areLakesRight 131 = .ok (.invokestatic 211, 3) := by decide +kernel
theorem dL_areLakesRight_134 : decode cL_areLakesRight 134 = .ok (.ifCond .eq 7, 3) := by decide +kernel
theorem dL_areLakesRight_137 : decode cL_areLakesRight 137 = .ok (.iconst 1, 1) := by decide +kernel
theorem dL_areLakesRight_138 : decode cL_areLakesRight 138 = .ok (.goto 4, 3) := by decide +kernel
theorem dL_areLakesRight_141 : decode cL_areLakesRight 141 = .ok (.iconst 0, 1) := by decide +kernel
theorem dL_areLakesRight_142 : decode cL_areLakesRight 142 = .ok (.istore 4, 2) := by decide +kernel
theorem dL_areLakesRight_144 : decode cL_areLakesRight 144 = .ok (.iinc 5 1, 3) := by decide +kernel
theorem dL_areLakesRight_147 : decode cL_areLakesRight 147 = .ok (.goto (-48), 3) := by decide +kernel
theorem dL_areLakesRight_150 : decode cL_areLakesRight 150 = .ok (.iconst 0, 1) := by decide +kernel
theorem dL_areLakesRight_151 : decode cL_areLakesRight 151 = .ok (.istore 5, 2) := by decide +kernel
theorem dL_areLakesRight_153 : decode cL_areLakesRight 153 = .ok (.iload 5, 2) := by decide +kernel
theorem dL_areLakesRight_155 : decode cL_areLakesRight 155 = .ok (.iconst 1, 1) := by decide +kernel
theorem dL_areLakesRight_156 : decode cL_areLakesRight 156 = .ok (.iadd, 1) := by decide +kernel
theorem dL_areLakesRight_157 : decode cL_areLakesRight 157 = .ok (.iload_n 1, 1) := by decide +kernel
theorem dL_areLakesRight_158 : decode cL_areLakesRight 158 = .ok (.if_icmp .ge 96, 3) := by decide +kernel
theorem dL_areLakesRight_161 : decode cL_areLakesRight 161 = .ok (.aload_n 0, 1) := by decide +kernel
theorem dL_areLakesRight_162 : decode cL_areLakesRight 162 = .ok (.iload 5, 2) := by decide +kernel
theorem dL_areLakesRight_164 : decode cL_areLakesRight 164 = .ok (.invokevirtual 81, 3) := by decide +kernel
theorem dL_areLakesRight_167 : decode cL_areLakesRight 167 = .ok (.istore 6, 2) := by decide +kernel
theorem dL_areLakesRight_169 : decode cL_areLakesRight 169 = .ok (.aload_n 0, 1) := by decide +kernel
theorem dL_areLakesRight_170 : decode cL_areLakesRight 170 = .ok (.iload 5, 2) := by decide +kernel
theorem dL_areLakesRight_172 : decode cL_areLakesRight 172 = .ok (.iconst 1, 1) := by decide +kernel
theorem dL_areLakesRight_173 : decode cL_areLakesRight 173 = .ok (.iadd, 1) := by decide +kernel
theorem dL_areLakesRight_174 : decode cL_areLakesRight 174 = .ok (.invokevirtual 81, 3) := by decide +kernel
theorem dL_areLakesRight_177 : decode cL_areLakesRight 177 = .ok (.istore 7, 2) := by decide +kernel
theorem dL_areLakesRight_179 : decode cL_areLakesRight 179 = .ok (.aload_n 0, 1) := by decide +kernel
theorem dL_areLakesRight_180 : decode cL_areLakesRight 180 = .ok (.iload 6, 2) := by decide +kernel
theorem dL_areLakesRight_182 : decode cL_areLakesRight 182 = .ok (.invokevirtual 183, 3) := by decide +kernel
theorem dL_areLakesRight_185 : decode cL_areLakesRight 185 = .ok (.aload_n 0, 1) := by decide +kernel
theorem dL_areLakesRight_186 : decode cL_areLakesRight 186 = .ok (.iload 7, 2) := by decide +kernel
theorem dL_areLakesRight_188 : decode cL_areLakesRight 188 = .ok (.invokevirtual 183, 3) := by decide +kernel
theorem dL_areLakesRight_191 : decode cL_areLakesRight 191 = .ok (.isub, 1) := by decide +kernel
theorem dL_areLakesRight_192 : decode cL_areLakesRight 192 = .ok (.istore 8, 2) := by decide +kernel
theorem dL_areLakesRight_194 : decode cL_areLakesRight 194 = .ok (.aload_n 0, 1) := by decide +kernel
theorem dL_areLakesRight_195 : decode cL_areLakesRight 195 = .ok (.iload 6, 2) := by decide +kernel
theorem dL_areLakesRight_197 : decode cL_areLakesRight 197 = .ok (.invokevirtual 130, 3) := by decide +kernel
theorem dL_areLakesRight_200 : decode cL_areLakesRight 200 = .ok (.aload_n 0, 1) := by decide +kernel
theorem dL_areLakesRight_201 : decode cL_areLakesRight 201 = .ok (.iload 7, 2) := by decide +kernel
theorem dL_areLakesRight_203 : decode cL_areLakesRight 203 = .ok (.invokevirtual 130, 3) := by decide +kernel
theorem dL_areLakesRight_206 : decode cL_areLakesRight 206 = .ok (.isub, 1) := by decide +kernel
theorem dL_areLakesRight_207 : decode cL_areLakesRight 207 = .ok (.istore 9, 2) := by decide +kernel
theorem dL_areLakesRight_209 : decode cL_areLakesRight 209 = .ok (.iload 4, 2) := by decide +kernel
theorem dL_areLakesRight_211 : decode cL_areLakesRight 211 = .ok (.ifCond .eq 34, 3) := by decide +kernel
theorem dL_areLakesRight_214 : decode cL_areLakesRight 214 = .ok (.iload 8, 2) := by decide +kernel
theorem dL_areLakesRight_216 : decode cL_areLakesRight 216 = .ok (.ifCond .gt 25, 3) := by decide +kernel
theorem dL_areLakesRight_219 : decode cL_areLakesRight 219 = .ok (.iload 8, 2) := by decide +kernel
theorem dL_areLakesRight_221 : decode cL_areLakesRight 221 = .ok (.ifCond .ne 24, 3) := by decide +kernel
theorem dL_areLakesRight_224 : decode cL_areLakesRight 224 = .ok (.iload 9, 2) := by decide +kernel
theorem dL_areLakesRight_226 : decode cL_areLakesRight 226 = .ok (.ifCond .gt 15, 3) := by decide +kernel
theorem dL_areLakesRight_229 : decode cL_areLakesRight 229 = .ok (.iload 9, 2) := by decide +kernel
theorem dL_areLakesRight_231 : decode cL_areLakesRight 231 = .ok (.ifCond .ne 14, 3) := by decide +kernel
theorem dL_areLakesRight_234 : decode cL_areLakesRight 234 = .ok (.iload 6, 2) := by decide +kernel
theorem dL_areLakesRight_236 : decode cL_areLakesRight 236 = .ok (.iload 7, 2) := by decide +kernel
theorem dL_areLakesRight_238 : decode cL_areLakesRight 238 = .ok (.if_icmp .ge 7, 3) := by decide +kernel
theorem dL_areLakesRight_241 : decode cL_areLakesRight 241 = .ok (.iconst 1, 1) := by decide +kernel
theorem dL_areLakesRight_242 : decode cL_areLakesRight 242 = .ok (.goto 4, 3) := by decide +kernel
theorem dL_areLakesRight_245 : decode cL_areLakesRight 245 = .ok (.iconst 0, 1) := by decide +kernel
theorem dL_areLakesRight_246 : decode cL_areLakesRight 246 = .ok (.istore 4, 2) := by decide +kernel
theorem dL_areLakesRight_248 : decode cL_areLakesRight 248 = .ok (.iinc 5 1, 3) := by decide +kernel
theorem dL_areLakesRight_251 : decode cL_areLakesRight 251 = .ok (.goto (-98), 3) := by decide +kernel
theorem dL_areLakesRight_254 : decode cL_areLakesRight 254 = .ok (.iload 4, 2) := by decide +kernel
theorem dL_areLakesRight_256 : decode cL_areLakesRight 256 = .ok (.ifCond .eq 35, 3) := by decide +kernel
theorem dL_areLakesRight_259 : decode cL_areLakesRight 259 = .ok (.aload_n 0, 1) := by decide +kernel
theorem dL_areLakesRight_260 : decode cL_areLakesRight 260 = .ok (.invokevirtual 215, 3) := by decide +kernel
theorem dL_areLakesRight_263 : decode cL_areLakesRight 263 = .ok (.iload_n 3, 1) := by decide +kernel
theorem dL_areLakesRight_264 : decode cL_areLakesRight 264 = .ok (.if_icmp .ne 27, 3) := by decide +kernel
theorem dL_areLakesRight_267 : decode cL_areLakesRight 267 = .ok (.aload_n 0, 1) := by decide +kernel
theorem dL_areLakesRight_268 : decode cL_areLakesRight 268 = .ok (.invokevirtual 124, 3) := by decide +kernel
theorem dL_areLakesRight_271 : decode cL_areLakesRight 271 = .ok (.aload_n 0, 1) := by decide +kernel
theorem dL_areLakesRight_272 : decode cL_areLakesRight 272 = .ok (.invokevirtual 127, 3) := by decide +kernel
theorem dL_areLakesRight_275 : decode cL_areLakesRight 275 = .ok (.isub, 1) := by decide +kernel
theorem dL_areLakesRight_276 : decode cL_areLakesRight 276 = .ok (.iload_n 2, 1) := by decide +kernel
theorem dL_areLakesRight_277 : decode cL_areLakesRight 277 = .ok (.if_icmp .ne 14, 3) := by decide +kernel
theorem dL_areLakesRight_280 : decode cL_areLakesRight 280 = .ok (.aload_n 0, 1) := by decide +kernel
theorem dL_areLakesRight_281 : decode cL_areLakesRight 281 = .ok (.invokevirtual 218, 3) := by decide +kernel
theorem dL_areLakesRight_284 : decode cL_areLakesRight 284 = .ok (.ifCond .eq 7, 3) := by decide +kernel
theorem dL_areLakesRight_287 : decode cL_areLakesRight 287 = .ok (.iconst 1, 1) := by decide +kernel
theorem dL_areLakesRight_288 : decode cL_areLakesRight 288 = .ok (.goto 4, 3) := by decide +kernel
theorem dL_areLakesRight_291 : decode cL_areLakesRight 291 = .ok (.iconst 0, 1) := by decide +kernel
theorem dL_areLakesRight_292 : decode cL_areLakesRight 292 = .ok (.ireturn, 1) := by decide +kernel
theorem dL_arePealsRight_0 : decode cL_arePealsRight 0 = .ok (.aload_n 0, 1) := by decide +kernel
theorem dL_arePealsRight_1 : decode cL_arePealsRight 1 = .ok (.invokevirtual 145, 3) := by decide +kernel
theorem dL_arePealsRight_4 : decode cL_arePealsRight 4 = .ok (.istore_n 1, 1) := by decide +kernel
theorem dL_arePealsRight_5 : decode cL_arePealsRight 5 = .ok (.iconst 0, 1) := by decide +kernel
theorem dL_arePealsRight_6 : decode cL_arePealsRight 6 = .ok (.istore_n 2, 1) := by decide +kernel
theorem dL_arePealsRight_7 : decode cL_arePealsRight 7 = .ok (.iconst 0, 1) := by decide +kernel
theorem dL_arePealsRight_8 : decode cL_arePealsRight 8 = .ok (.istore_n 3, 1) := by decide +kernel
theorem dL_arePealsRight_9 : decode cL_arePealsRight 9 = .ok (.iload_n 1, 1) := by decide +kernel
theorem dL_arePealsRight_10 : decode cL_arePealsRight 10 = .ok (.bipush 16, 2) := by decide +kernel
theorem dL_arePealsRight_12 : decode cL_arePealsRight 12 = .ok (.if_icmp .gt 35, 3) := by decide +kernel
theorem dL_arePealsRight_15 : decode cL_arePealsRight 15 = .ok (.aload_n 0, 1) := by decide +kernel
theorem dL_arePealsRight_16 : decode cL_arePealsRight 16 = .ok (.bipush 7, 2) := by decide +kernel
theorem dL_arePealsRight_18 : decode cL_arePealsRight 18 = .ok (.iload_n 1, 1) := by decide +kernel
theorem dL_arePealsRight_19 : decode cL_arePealsRight 19 = .ok (.iconst 0, 1) := by decide +kernel
theorem dL_arePealsRight_20 : decode cL_arePealsRight 20 = .ok (.invokestatic 160, 3) := by decide +kernel
theorem dL_arePealsRight_23 : decode cL_arePealsRight 23 = .ok (.sipush (-2004), 3) := by decide +kernel
theorem dL_arePealsRight_26 : decode cL_arePealsRight 26 = .ok (.if_icmp .ne 21, 3) := by decide +kernel
theorem dL_arePealsRight_29 : decode cL_arePealsRight 29 = .ok (.aload_n 0, 1) := by decide +kernel
theorem dL_arePealsRight_30 : decode cL_arePealsRight 30 = .ok (.bipush 7, 2) := by decide +kernel
theorem dL_arePealsRight_32 : decode cL_arePealsRight 32 = .ok (.iconst (-1), 1) := by decide +kernel
theorem dL_arePealsRight_33 : decode cL_arePealsRight 33 = .ok (.iconst 0, 1) := by decide +kernel
theorem dL_arePealsRight_34 : decode cL_arePealsRight 34 = .ok (.invokestatic 160, 3) := by decide +kernel
theorem dL_arePealsRight_37 : decode cL_arePealsRight 37 = .ok (.sipush (-2004), 3) := by decide +kernel
theorem dL_arePealsRight_40 : decode cL_arePealsRight 40 = .ok (.if_icmp .ne 7, 3) := by decide +kernel
theorem dL_arePealsRight_43 : decode cL_arePealsRight 43 = .ok (.iconst 1, 1) := by decide +kernel
theorem dL_arePealsRight_44 : decode cL_arePealsRight 44 = .ok (.goto 4, 3) := by decide +kernel
theorem dL_arePealsRight_47 : decode cL_arePealsRight 47 = .ok (.iconst 0, 1) := by decide +kernel
theorem dL_arePealsRight_48 : decode cL_arePealsRight 48 = .ok (.istore 4, 2) := by decide +kernel
theorem dL_arePealsRight_50 : decode cL_arePealsRight 50 = .ok (.iconst 0, 1) := by decide +kernel
theorem dL_arePealsRight_51 : decode cL_arePealsRight 51 = .ok (.istore 5, 2) := by decide +kernel
theorem dL_arePealsRight_53 : decode cL_arePealsRight 53 = .ok (.iload 5, 2) := by decide +kernel
theorem dL_arePealsRight_55 : decode cL_arePealsRight 55 = .ok (.iload_n 1, 1) := by decide +kernel
theorem dL_arePealsRight_56 : decode cL_arePealsRight 56 = .ok (.if_icmp .ge 180, 3) := by decide +kernel
theorem dL_arePealsRight_59 : decode cL_arePealsRight 59 = .ok (.iconst 0, 1) := by decide +kernel
theorem dL_arePealsRight_60 : decode cL_arePealsRight 60 = .ok (.istore 6, 2) := by decide +kernel
theorem dL_arePealsRight_62 : decode cL_arePealsRight 62 = .ok (.iconst 0, 1) := by decide +kernel
theorem dL_arePealsRight_63 : decode cL_arePealsRight 63 = .ok (.istore 7, 2) := by decide +kernel
theorem dL_arePealsRight_65 : decode cL_arePealsRight 65 = .ok (.iload 7, 2) := by decide +kernel
theorem dL_arePealsRight_67 : decode cL_arePealsRight 67 = .ok (.iload 5, 2) := by decide +kernel
theorem dL_arePealsRight_69 : decode cL_arePealsRight 69 = .ok (.if_icmp .ge 37, 3) := by decide +kernel
theorem dL_arePealsRight_72 : decode cL_arePealsRight 72 = .ok (.iload 6, 2) := by decide +kernel
theorem dL_arePealsRight_74 : decode cL_arePealsRight 74 = .ok (.aload_n 0, 1) := by decide +kernel
theorem dL_arePealsRight_75 : decode cL_arePealsRight 75 = .ok (.iload 7, 2) := by decide +kernel
theorem dL_arePealsRight_77 : decode cL_arePealsRight 77 = .ok (.invokevirtual 78, 3) := by decide +kernel
theorem dL_arePealsRight_80 : decode cL_arePealsRight 80 = .ok (.aload_n 0, 1) := by decide +kernel
theorem dL_arePealsRight_81 : decode cL_arePealsRight 81 = .ok (.iload 5, 2) := by decide +kernel
theorem dL_arePealsRight_83 : decode cL_arePealsRight 83 = .ok (.invokevirtual 78, 3) := by decide +kernel
theorem dL_arePealsRight_86 : decode cL_arePealsRight 86 = .ok (.if_icmp .ne 7, 3) := by decide +kernel
theorem dL_arePealsRight_89 : decode cL_arePealsRight 89 = .ok (.iconst 1, 1) := by decide +kernel
theorem dL_arePealsRight_90 : decode cL_arePealsRight 90 = .ok (.goto 4, 3) := by decide +kernel
theorem dL_arePealsRight_93 : decode cL_arePealsRight 93 = .ok (.iconst 0, 1) := by decide +kernel
theorem dL_arePealsRight_94 : decode cL_arePealsRight 94 = .ok (.invokestatic 222, 3) := by decide +kernel
theorem dL_arePealsRight_97 : decode cL_arePealsRight 97 = .ok (.iadd, 1) := by decide +kernel
theorem dL_arePealsRight_98 : decode cL_arePealsRight 98 = .ok (.istore 6, 2) := by decide +kernel
theorem dL_arePealsRight_100 : decode cL_arePealsRight 100 = .ok (.iinc 7 1, 3) := by decide +kernel
theorem dL_arePealsRight_103 : decode cL_arePealsRight 103 = .ok (.goto (-38), 3) := by decide +kernel
theorem dL_arePealsRight_106 : decode cL_arePealsRight 106 = .ok (.iload_n 2, 1) := by decide +kernel
theorem dL_arePealsRight_107 : decode cL_arePealsRight 107 = .ok (.iload 6, 2) := by decide +kernel
theorem dL_arePealsRight_109 : decode cL_arePealsRight 109 = .ok (.iadd, 1) := by decide +kernel
theorem dL_arePealsRight_110 : decode cL_arePealsRight 110 = .ok (.istore_n 2, 1) := by decide +kernel
theorem dL_arePealsRight_111 : decode cL_arePealsRight 111 = .ok (.iload_n 3, 1) := by decide +kernel
theorem dL_arePealsRight_112 : decode cL_arePealsRight 112 = .ok (.iload 6, 2) := by decide +kernel
theorem dL_arePealsRight_114 : decode cL_arePealsRight 114 = .ok (.ifCond .ne 7, 3) := by decide +kernel
theorem dL_arePealsRight_117 : decode cL_arePealsRight 117 = .ok (.iconst 1, 1) := by decide +kernel
theorem dL_arePealsRight_118 : decode cL_arePealsRight 118 = .ok (.goto 4, 3) := by decide +kernel
theorem dL_arePealsRight_121 : decode cL_arePealsRight 121 = .ok (.iconst 0, 1) := by decide +kernel
theorem dL_arePealsRight_122 : decode cL_arePealsRight 122 = .ok (.invokestatic 222, 3) := by decide +kernel
theorem dL_arePealsRight_125 : decode cL_arePealsRight 125 = .ok (.iadd, 1) := by decide +kernel
theorem dL_arePealsRight_126 : decode cL_arePealsRight 126 = .ok (.istore_n 3, 1) := by decide +kernel
theorem dL_arePealsRight_127 : decode cL_arePealsRight 127 = .ok (.aload_n 0, 1) := by decide +kernel
theorem dL_arePealsRight_128 : decode cL_arePealsRight 128 = .ok (.iload 5, 2) := by decide +kernel
theorem dL_arePealsRight_130 : decode cL_arePealsRight 130 = .ok (.invokevirtual 148, 3) := by decide +kernel
theorem dL_arePealsRight_133 : decode cL_arePealsRight 133 = .ok (.bipush 99, 2) := by decide +kernel
theorem dL_arePealsRight_135 : decode cL_arePealsRight 135 = .ok (.if_icmp .eq 23, 3) := by decide +kernel
theorem dL_arePealsRight_138 : decode cL_arePealsRight 138 = .ok (.aload_n 0, 1) := by decide +kernel
theorem dL_arePealsRight_139 : decode cL_arePealsRight 139 = .ok (.iload 5, 2) := by decide +kernel
theorem dL_arePealsRight_141 : decode cL_arePealsRight 141 = .ok (.invokevirtual 148, 3) := by decide +kernel
theorem dL_arePealsRight_144 : decode cL_arePealsRight 144 = .ok (.bipush 115, 2) := by decide +kernel
theorem dL_arePealsRight_146 : decode cL_arePealsRight 146 = .ok (.if_icmp .ne 16, 3) := by decide +kernel
theorem dL_arePealsRight_149 : decode cL_arePealsRight 149 = .ok (.aload_n 0, 1) := by decide +kernel
theorem dL_arePealsRight_150 : decode cL_arePealsRight 150 = .ok (.iload 5, 2) := by decide +kernel
theorem dL_arePealsRight_152 : decode cL_arePealsRight 152 = .ok (.invokevirtual 78, 3) := by decide +kernel
theorem dL_arePealsRight_155 : decode cL_arePealsRight 155 = .ok (.ifCond .le 7, 3) := by decide +kernel
theorem dL_arePealsRight_158 : decode cL_arePealsRight 158 = .ok (.iconst 1, 1) := by decide +kernel
theorem dL_arePealsRight_159 : decode cL_arePealsRight 159 = .ok (.goto 4, 3) := by decide +kernel
theorem dL_arePealsRight_162 : decode cL_arePealsRight 162 = .ok (.iconst 0, 1) := by decide +kernel
theorem dL_arePealsRight_163 : decode cL_arePealsRight 163 = .ok (.istore 7, 2) := by decide +kernel
theorem dL_arePealsRight_165 : decode cL_arePealsRight 165 = .ok (.iload 4, 2) := by decide +kernel
theorem dL_arePealsRight_167 : decode cL_arePealsRight 167 = .ok (.ifCond .eq 60, 3) := by decide +kernel
theorem dL_arePealsRight_170 : decode cL_arePealsRight 170 = .ok (.iload 7, 2) := by decide +kernel
theorem dL_arePealsRight_172 : decode cL_arePealsRight 172 = .ok (.ifCond .eq 55, 3) := by decide +kernel
theorem dL_arePealsRight_175 : decode cL_arePealsRight 175 = .ok (.aload_n 0, 1) := by decide +kernel
theorem dL_arePealsRight_176 : decode cL_arePealsRight 176 = .ok (.iload 5, 2) := by decide +kernel
theorem dL_arePealsRight_178 : decode cL_arePealsRight 178 = .ok (.invokevirtual 152, 3) := by decide +kernel
theorem dL_arePealsRight_181 : decode cL_arePealsRight 181 = .ok (.aload_n 0, 1) := by decide +kernel
theorem dL_arePealsRight_182 : decode cL_arePealsRight 182 = .ok (.invokevirtual 107, 3) := by decide +kernel
theorem dL_arePealsRight_185 : decode cL_arePealsRight 185 = .ok (.if_icmp .ge 42, 3) := by decide +kernel
theorem dL_arePealsRight_188 : decode cL_arePealsRight 188 = .ok (.aload_n 0, 1) := by decide +kernel
theorem dL_arePealsRight_189 : decode cL_arePealsRight 189 = .ok (.iload 5, 2) := by decide +kernel
theorem dL_arePealsRight_191 : decode cL_arePealsRight 191 = .ok (.invokevirtual 155, 3) := by decide +kernel
theorem dL_arePealsRight_194 : decode cL_arePealsRight 194 = .ok (.aload_n 0, 1) := by decide +kernel
theorem dL_arePealsRight_195 : decode cL_arePealsRight 195 = .ok (.invokevirtual 115, 3) := by decide +kernel
theorem dL_arePealsRight_198 : decode cL_arePealsRight 198 = .ok (.if_icmp .gt 29, 3) := by decide +kernel
theorem dL_arePealsRight_201 : decode cL_arePealsRight 201 = .ok (.iload 5, 2) := by decide +kernel
theorem dL_arePealsRight_203 : decode cL_arePealsRight 203 = .ok (.ifCond .eq 20, 3) := by decide +kernel
theorem dL_arePealsRight_206 : decode cL_arePealsRight 206 = .ok (.aload_n 0, 1) := by decide +kernel
theorem dL_arePealsRight_207 : decode cL_arePealsRight 207 = .ok (.iload 5, 2) := by decide +kernel
theorem dL_arePealsRight_209 : decode cL_arePealsRight 209 = .ok (.iconst 1, 1) := by decide +kernel
theorem dL_arePealsRight_210 : decode cL_arePealsRight 210 = .ok (.isub, 1) := by decide +kernel
theorem dL_arePealsRight_211 : decode cL_arePealsRight 211 = .ok (.invokevirtual 155, 3) := by decide +kernel
theorem dL_arePealsRight_214 : decode cL_arePealsRight 214 = .ok (.aload_n 0, 1) := by decide +kernel
theorem dL_arePealsRight_215 : decode cL_arePealsRight 215 = .ok (.iload 5, 2) := by decide +kernel
theorem dL_arePealsRight_217 : decode cL_arePealsRight 217 = .ok (.invokevirtual 155, 3) := by decide +kernel
theorem dL_arePealsRight_220 : decode cL_arePealsRight 220 = .ok (.if_icmp .lt 7, 3) := by decide +kernel
theorem dL_arePealsRight_223 : decode cL_arePealsRight 223 = .ok (.iconst 1, 1) := by decide +kernel
theorem dL_arePealsRight_224 : decode cL_arePealsRight 224 = .ok (.goto 4, 3) := by decide +kernel
theorem dL_arePealsRight_227 : decode cL_arePealsRight 227 = .ok (.iconst 0, 1) := by decide +kernel
theorem dL_arePealsRight_228 : decode cL_arePealsRight 228 = .ok (.istore 4, 2) := by decide +kernel
theorem dL_arePealsRight_230 : decode cL_arePealsRight 230 = .ok (.iinc 5 1, 3) := by decide +kernel
theorem dL_arePealsRight_233 : decode cL_arePealsRight 233 = .ok (.goto (-180), 3) := by decide +kernel
theorem dL_arePealsRight_236 : decode cL_arePealsRight 236 = .ok (.iload 4, 2) := by decide +kernel
theorem dL_arePealsRight_238 : decode cL_arePealsRight 238 = .ok (.ifCond .eq 31, 3) := by decide +kernel
theorem dL_arePealsRight_241 : decode cL_arePealsRight 241 = .ok (.aload_n 0, 1) := by decide +kernel
theorem dL_arePealsRight_242 : decode cL_arePealsRight 242 = .ok (.invokevirtual 226, 3) := by decide +kernel
theorem dL_arePealsRight_245 : decode cL_arePealsRight 245 = .ok (.iload_n 2, 1) := by decide +kernel
theorem dL_arePealsRight_246 : decode cL_arePealsRight 246 = .ok (.if_icmp .ne 23, 3) := by decide +kernel
theorem dL_arePealsRight_249 : decode cL_arePealsRight 249 = .ok (.aload_n 0, 1) := by decide +kernel
theorem dL_arePealsRight_250 : decode cL_arePealsRight 250 = .ok (.invokevirtual 229, 3) := by decide +kernel
theorem dL_arePealsRight_253 : decode cL_arePealsRight 253 = .ok (.iload_n 2, 1) := by decide +kernel
theorem dL_arePealsRight_254 : decode cL_arePealsRight 254 = .ok (.if_icmp .ne 15, 3) := by decide +kernel
theorem dL_arePealsRight_257 : decode cL_arePealsRight 257 = .ok (.aload_n 0, 1) := by decide +kernel
theorem dL_arePealsRight_258 : decode cL_arePealsRight 258 = .ok (.invokevirtual 232, 3) := by decide +kernel
theorem dL_arePealsRight_261 : decode cL_arePealsRight 261 = .ok (.iload_n 3, 1) := by decide +kernel
theorem dL_arePealsRight_262 : decode cL_arePealsRight 262 = .ok (.if_icmp .ne 7, 3) := by decide +kernel
theorem dL_arePealsRight_265 : decode cL_arePealsRight 265 = .ok (.iconst 1, 1) := by decide +kernel
theorem dL_arePealsRight_266 : decode cL_arePealsRight 266 = .ok (.goto 4, 3) := by decide +kernel
theorem dL_arePealsRight_269 : decode cL_arePealsRight 269 = .ok (.iconst 0, 1) := by decide +kernel
theorem dL_arePealsRight_270 : decode cL_arePealsRight 270 = .ok (.ireturn, 1) := by decide +kernel
theorem dL_areWindowsRight_0 : decode cL_areWindowsRight 0 = .ok (.aload_n 0, 1) := by decide +kernel
theorem dL_areWindowsRight_1 : decode cL_areWindowsRight 1 = .ok (.invokevirtual 118, 3) := by decide +kernel
theorem dL_areWindowsRight_4 : decode cL_areWindowsRight 4 = .ok (.istore_n 2, 1) := by decide +kernel
theorem dL_areWindowsRight_5 : decode cL_areWindowsRight 5 = .ok (.iconst 0, 1) := by decide +kernel
theorem dL_areWindowsRight_6 : decode cL_areWindowsRight 6 = .ok (.istore_n 3, 1) := by decide +kernel
theorem dL_areWindowsRight_7 : decode cL_areWindowsRight 7 = .ok (.iload_n 2, 1) := by decide +kernel
theorem dL_areWindowsRight_8 : decode cL_areWindowsRight 8 = .ok (.bipush 6, 2) := by decide +kernel
theorem dL_areWindowsRight_10 : decode cL_areWindowsRight 10 = .ok (.if_icmp .gt 33, 3) := by decide +kernel
theorem dL_areWindowsRight_13 : decode cL_areWindowsRight 13 = .ok (.aload_n 0, 1) := by decide +kernel
theorem dL_areWindowsRight_14 : decode cL_areWindowsRight 14 = .ok (.iconst 5, 1) := by decide +kernel
theorem dL_areWindowsRight_15 : decode cL_areWindowsRight 15 = .ok (.iload_n 2, 1) := by decide +kernel
theorem dL_areWindowsRight_16 : decode cL_areWindowsRight 16 = .ok (.iconst 0, 1) := by decide +kernel
theorem dL_areWindowsRight_17 : decode cL_areWindowsRight 17 = .ok (.invokestatic 160, 3) := by decide +kernel
theorem dL_areWindowsRight_20 : decode cL_areWindowsRight 20 = .ok (.sipush (-2002), 3) := by decide +kernel
theorem dL_areWindowsRight_23 : decode cL_areWindowsRight 23 = .ok (.if_icmp .ne 20, 3) := by decide +kernel
theorem dL_areWindowsRight_26 : decode cL_areWindowsRight 26 = .ok (.aload_n 0, 1) := by decide +kernel
theorem dL_areWindowsRight_27 : decode cL_areWindowsRight 27 = .ok (.iconst 5, 1) := by decide +kernel
theorem dL_areWindowsRight_28 : decode cL_areWindowsRight 28 = .ok (.iconst (-1), 1) := by decide +kernel
theorem dL_areWindowsRight_29 : decode cL_areWindowsRight 29 = .ok (.iconst 0, 1) := by decide +kernel
theorem dL_areWindowsRight_30 : decode cL_areWindowsRight 30 = .ok (.invokestatic 160, 3) := by decide +kernel
theorem dL_areWindowsRight_33 : decode cL_areWindowsRight 33 = .ok (.sipush (-2002), 3) := by decide +kernel
theorem dL_areWindowsRight_36 : decode cL_areWindowsRight 36 = .ok (.if_icmp .ne 7, 3) := by decide +kernel
theorem dL_areWindowsRight_39 : decode cL_areWindowsRight 39 = .ok (.iconst 1, 1) := by decide +kernel
theorem dL_areWindowsRight_40 : decode cL_areWindowsRight 40 = .ok (.goto 4, 3) := by decide +kernel
theorem dL_areWindowsRight_43 : decode cL_areWindowsRight 43 = .ok (.iconst 0, 1) := by decide +kernel
theorem dL_areWindowsRight_44 : decode cL_areWindowsRight 44 = .ok (.istore 4, 2) := by decide +kernel
theorem dL_areWindowsRight_46 : decode cL_areWindowsRight 46 = .ok (.iconst 0, 1) := by decide +kernel
theorem dL_areWindowsRight_47 : decode cL_areWindowsRight 47 = .ok (.istore 5, 2) := by decide +kernel
theorem dL_areWindowsRight_49 : decode cL_areWindowsRight 49 = .ok (.iload 5, 2) := by decide +kernel
theorem dL_areWindowsRight_51 : decode cL_areWindowsRight 51 = .ok (.iload_n 2, 1) := by decide +kernel
theorem dL_areWindowsRight_52 : decode cL_areWindowsRight 52 = .ok (.if_icmp .ge 88, 3) := by decide +kernel
theorem dL_areWindowsRight_55 : decode cL_areWindowsRight 55 = .ok (.iload_n 3, 1) := by decide +kernel
theorem dL_areWindowsRight_56 : decode cL_areWindowsRight 56 = .ok (.ifCond .ne 23, 3) := by decide +kernel
theorem dL_areWindowsRight_59 : decode cL_areWindowsRight 59 = .ok (.iload_n 1, 1) := by decide +kernel
theorem dL_areWindowsRight_60 : decode cL_areWindowsRight 60 = .ok (.aload_n 0, 1) := by decide +kernel
theorem dL_areWindowsRight_61 : decode cL_areWindowsRight 61 = .ok (.iload 5, 2) := by decide +kernel
theorem dL_areWindowsRight_63 : decode cL_areWindowsRight 63 = .ok (.invokevirtual 72, 3) := by decide +kernel
theorem dL_areWindowsRight_66 : decode cL_areWindowsRight 66 = .ok (.if_icmp .lt 17, 3) := by decide +kernel
theorem dL_areWindowsRight_69 : decode cL_areWindowsRight 69 = .ok (.iload_n 1, 1) := by decide +kernel
theorem dL_areWindowsRight_70 : decode cL_areWindowsRight 70 = .ok (.aload_n 0, 1) := by decide +kernel
theorem dL_areWindowsRight_71 : decode cL_areWindowsRight 71 = .ok (.iload 5, 2) := by decide +kernel
theorem dL_areWindowsRight_73 : decode cL_areWindowsRight 73 = .ok (.invokevirtual 142, 3) := by decide +kernel
theorem dL_areWindowsRight_76 : decode cL_areWindowsRight 76 = .ok (.if_icmp .gt 7, 3) := by decide +kernel
theorem dL_areWindowsRight_79 : decode cL_areWindowsRight 79 = .ok (.iconst 1, 1) := by decide +kernel
theorem dL_areWindowsRight_80 : decode cL_areWindowsRight 80 = .ok (.goto 4, 3) := by decide +kernel
theorem dL_areWindowsRight_83 : decode cL_areWindowsRight 83 = .ok (.iconst 0, 1) := by decide +kernel
theorem dL_areWindowsRight_84 : decode cL_areWindowsRight 84 = .ok (.istore_n 3, 1) := by decide +kernel
theorem dL_areWindowsRight_85 : decode cL_areWindowsRight 85 = .ok (.iload 4, 2) := by decide +kernel
theorem dL_areWindowsRight_87 : decode cL_areWindowsRight 87 = .ok (.ifCond .eq 44, 3) := by decide +kernel
theorem dL_areWindowsRight_90 : decode cL_areWindowsRight 90 = .ok (.aload_n 0, 1) := by decide +kernel
theorem dL_areWindowsRight_91 : decode cL_areWindowsRight 91 = .ok (.iload 5, 2) := by decide +kernel
theorem dL_areWindowsRight_93 : decode cL_areWindowsRight 93 = .ok (.invokevirtual 72, 3) := by decide +kernel
theorem dL_areWindowsRight_96 : decode cL_areWindowsRight 96 = .ok (.aload_n 0, 1) := by decide +kernel
theorem dL_areWindowsRight_97 : decode cL_areWindowsRight 97 = .ok (.iload 5, 2) := by decide +kernel
theorem dL_areWindowsRight_99 : decode cL_areWindowsRight 99 = .ok (.invokevirtual 142, 3) := by decide +kernel
theorem dL_areWindowsRight_102 : decode cL_areWindowsRight 102 = .ok (.if_icmp .gt 29, 3) := by decide +kernel
theorem dL_areWindowsRight_105 : decode cL_areWindowsRight 105 = .ok (.iload 5, 2) := by decide +kernel
theorem dL_areWindowsRight_107 : decode cL_areWindowsRight 107 = .ok (.ifCond .eq 20, 3) := by decide +kernel
theorem dL_areWindowsRight_110 : decode cL_areWindowsRight 110 = .ok (.aload_n 0, 1) := by decide +kernel
theorem dL_areWindowsRight_111 : decode cL_areWindowsRight 111 = .ok (.iload 5, 2) := by decide +kernel
theorem dL_areWindowsRight_113 : decode cL_areWindowsRight 113 = .ok (.iconst 1, 1) := by decide +kernel
theorem dL_areWindowsRight_114 : decode cL_areWindowsRight 114 = .ok (.isub, 1) := by decide +kernel
theorem dL_areWindowsRight_115 : decode cL_areWindowsRight 115 = .ok (.invokevirtual 142, 3) := by decide +kernel
theorem dL_areWindowsRight_118 : decode cL_areWindowsRight 118 = .ok (.aload_n 0, 1) := by decide +kernel
theorem dL_areWindowsRight_119 : decode cL_areWindowsRight 119 = .ok (.iload 5, 2) := by decide +kernel
theorem dL_areWindowsRight_121 : decode cL_areWindowsRight 121 = .ok (.invokevirtual 72, 3) := by decide +kernel
theorem dL_areWindowsRight_124 : decode cL_areWindowsRight 124 = .ok (.if_icmp .ge 7, 3) := by decide +kernel
theorem dL_areWindowsRight_127 : decode cL_areWindowsRight 127 = .ok (.iconst 1, 1) := by decide +kernel
theorem dL_areWindowsRight_128 : decode cL_areWindowsRight 128 = .ok (.goto 4, 3) := by decide +kernel
theorem dL_areWindowsRight_131 : decode cL_areWindowsRight 131 = .ok (.iconst 0, 1) := by decide +kernel
theorem dL_areWindowsRight_132 : decode cL_areWindowsRight 132 = .ok (.istore 4, 2) := by decide +kernel
theorem dL_areWindowsRight_134 : decode cL_areWindowsRight 134 = .ok (.iinc 5 1, 3) := by decide +kernel
theorem dL_areWindowsRight_137 : decode cL_areWindowsRight 137 = .ok (.goto (-88), 3) := by decide +kernel
theorem dL_areWindowsRight_140 : decode cL_areWindowsRight 140 = .ok (.iload 4, 2) := by decide +kernel
theorem dL_areWindowsRight_142 : decode cL_areWindowsRight 142 = .ok (.ifCond .eq 16, 3) := by decide +kernel
theorem dL_areWindowsRight_145 : decode cL_areWindowsRight 145 = .ok (.aload_n 0, 1) := by decide +kernel
theorem dL_areWindowsRight_146 : decode cL_areWindowsRight 146 = .ok (.iload_n 1, 1) := by decide +kernel
theorem dL_areWindowsRight_147 : decode cL_areWindowsRight 147 = .ok (.invokevirtual 235, 3) := by decide +kernel
theorem dL_areWindowsRight_150 : decode cL_areWindowsRight 150 = .ok (.iload_n 3, 1) := by decide +kernel
theorem dL_areWindowsRight_151 : decode cL_areWindowsRight 151 = .ok (.if_icmp .ne 7, 3) := by decide +kernel
theorem dL_areWindowsRight_154 : decode cL_areWindowsRight 154 = .ok (.iconst 1, 1) := by decide +kernel
theorem dL_areWindowsRight_155 : decode cL_areWindowsRight 155 = .ok (.goto 4, 3) := by decide +kernel
theorem dL_areWindowsRight_158 : decode cL_areWindowsRight 158 = .ok (.iconst 0, 1) := by decide +kernel
theorem dL_areWindowsRight_159 : decode cL_areWindowsRight 159 = .ok (.ireturn, 1) := by decide +kernel
theorem dL_areHoursRight_0 : decode cL_areHoursRight 0 = .ok (.aload_n 0, 1) := by decide +kernel
theorem dL_areHoursRight_1 : decode cL_areHoursRight 1 = .ok (.invokestatic 239, 3) := by decide +kernel
theorem dL_areHoursRight_4 : decode cL_areHoursRight 4 = .ok (.istore_n 2, 1) := by decide +kernel
theorem dL_areHoursRight_5 : decode cL_areHoursRight 5 = .ok (.aload_n 0, 1) := by decide +kernel
theorem dL_areHoursRight_6 : decode cL_areHoursRight 6 = .ok (.iconst 3, 1) := by decide +kernel
theorem dL_areHoursRight_7 : decode cL_areHoursRight 7 = .ok (.iconst 0, 1) := by decide +kernel
theorem dL_areHoursRight_8 : decode cL_areHoursRight 8 = .ok (.iconst 0, 1) := by decide +kernel
theorem dL_areHoursRight_9 : decode cL_areHoursRight 9 = .ok (.invokestatic 160, 3) := by decide +kernel
theorem dL_areHoursRight_12 : decode cL_areHoursRight 12 = .ok (.istore_n 3, 1) := by decide +kernel
theorem dL_areHoursRight_13 : decode cL_areHoursRight 13 = .ok (.iload_n 1, 1) := by decide +kernel
theorem dL_areHoursRight_14 : decode cL_areHoursRight 14 = .ok (.aload_n 0, 1) := by decide +kernel
theorem dL_areHoursRight_15 : decode cL_areHoursRight 15 = .ok (.invokevirtual 107, 3) := by decide +kernel
theorem dL_areHoursRight_18 : decode cL_areHoursRight 18 = .ok (.if_icmp .ge 13, 3) := by decide +kernel
theorem dL_areHoursRight_21 : decode cL_areHoursRight 21 = .ok (.aload_n 0, 1) := by decide +kernel
theorem dL_areHoursRight_22 : decode cL_areHoursRight 22 = .ok (.iconst 4, 1) := by decide +kernel
theorem dL_areHoursRight_23 : decode cL_areHoursRight 23 = .ok (.iload_n 1, 1) := by decide +kernel
theorem dL_areHoursRight_24 : decode cL_areHoursRight 24 = .ok (.iconst 0, 1) := by decide +kernel
theorem dL_areHoursRight_25 : decode cL_areHoursRight 25 = .ok (.invokestatic 160, 3) := by decide +kernel
theorem dL_areHoursRight_28 : decode cL_areHoursRight 28 = .ok (.goto 6, 3) := by decide +kernel
theorem dL_areHoursRight_31 : decode cL_areHoursRight 31 = .ok (.sipush (-2004), 3) := by decide +kernel
theorem dL_areHoursRight_34 : decode cL_areHoursRight 34 = .ok (.istore 4, 2) := by decide +kernel
theorem dL_areHoursRight_36 : decode cL_areHoursRight 36 = .ok (.aload_n 0, 1) := by decide +kernel
theorem dL_areHoursRight_37 : decode cL_areHoursRight 37 = .ok (.invokevirtual 243, 3) := by decide +kernel
theorem dL_areHoursRight_40 : decode cL_areHoursRight 40 = .ok (.istore 5, 2) := by decide +kernel
theorem dL_areHoursRight_42 : decode cL_areHoursRight 42 = .ok (.sipush (-2004), 3) := by decide +kernel
theorem dL_areHoursRight_45 : decode cL_areHoursRight 45 = .ok (.istore 6, 2) := by decide +kernel
theorem dL_areHoursRight_47 : decode cL_areHoursRight 47 = .ok (.iload_n 1, 1) := by decide +kernel
theorem dL_areHoursRight_48 : decode cL_areHoursRight 48 = .ok (.aload_n 0, 1) := by decide +kernel
theorem dL_areHoursRight_49 : decode cL_areHoursRight 49 = .ok (.invokevirtual 107, 3) := by decide +kernel
theorem dL_areHoursRight_52 : decode cL_areHoursRight 52 = .ok (.if_icmp .ge 15, 3) := by decide +kernel
theorem dL_areHoursRight_55 : decode cL_areHoursRight 55 = .ok (.aload_n 0, 1) := by decide +kernel
theorem dL_areHoursRight_56 : decode cL_areHoursRight 56 = .ok (.iload_n 1, 1) := by decide +kernel
theorem dL_areHoursRight_57 : decode cL_areHoursRight 57 = .ok (.invokevirtual 133, 3) := by decide +kernel
theorem dL_areHoursRight_60 : decode cL_areHoursRight 60 = .ok (.ifCond .ne 7, 3) := by decide +kernel
theorem dL_areHoursRight_63 : decode cL_areHoursRight 63 = .ok (.iconst 0, 1) := by decide +kernel
theorem dL_areHoursRight_64 : decode cL_areHoursRight 64 = .ok (.goto 6, 3) := by decide +kernel
theorem dL_areHoursRight_67 : decode cL_areHoursRight 67 = .ok (.sipush (-2004), 3) := by decide +kernel
theorem dL_areHoursRight_70 : decode cL_areHoursRight 70 = .ok (.istore 7, 2) := by decide +kernel
theorem dL_areHoursRight_72 : decode cL_areHoursRight 72 = .ok (.iconst 1, 1) := by decide +kernel
theorem dL_areHoursRight_73 : decode cL_areHoursRight 73 = .ok (.istore 8, 2) := by decide +kernel
theorem dL_areHoursRight_75 : decode cL_areHoursRight 75 = .ok (.iload 8, 2) := by decide +kernel
theorem dL_areHoursRight_77 : decode cL_areHoursRight 77 = .ok (.bipush 96, 2) := by decide +kernel
theorem dL_areHoursRight_79 : decode cL_areHoursRight 79 = .ok (.if_icmp .gt 65, 3) := by decide +kernel
theorem dL_areHoursRight_82 : decode cL_areHoursRight 82 = .ok (.aload_n 0, 1) := by decide +kernel
theorem dL_areHoursRight_83 : decode cL_areHoursRight 83 = .ok (.iconst 1, 1) := by decide +kernel
theorem dL_areHoursRight_84 : decode cL_areHoursRight 84 = .ok (.invokevirtual 28, 3) := by decide +kernel
theorem dL_areHoursRight_87 : decode cL_areHoursRight 87 = .ok (.istore 9, 2) := by decide +kernel
theorem dL_areHoursRight_89 : decode cL_areHoursRight 89 = .ok (.iload 6, 2) := by decide +kernel
theorem dL_areHoursRight_91 : decode cL_areHoursRight 91 = .ok (.ifCond .ge 13, 3) := by decide +kernel
theorem dL_areHoursRight_94 : decode cL_areHoursRight 94 = .ok (.iload 9, 2) := by decide +kernel
theorem dL_areHoursRight_96 : decode cL_areHoursRight 96 = .ok (.ifCond .le 8, 3) := by decide +kernel
theorem dL_areHoursRight_99 : decode cL_areHoursRight 99 = .ok (.iload 8, 2) := by decide +kernel
theorem dL_areHoursRight_101 : decode cL_areHoursRight 101 = .ok (.goto 5, 3) := by decide +kernel
theorem dL_areHoursRight_104 : decode cL_areHoursRight 104 = .ok (.iload 6, 2) := by decide +kernel
theorem dL_areHoursRight_106 : decode cL_areHoursRight 106 = .ok (.istore 6, 2) := by decide +kernel
theorem dL_areHoursRight_108 : decode cL_areHoursRight 108 = .ok (.iload 7, 2) := by decide +kernel
theorem dL_areHoursRight_110 : decode cL_areHoursRight 110 = .ok (.ifCond .ge 24, 3) := by decide +kernel
theorem dL_areHoursRight_113 : decode cL_areHoursRight 113 = .ok (.iload_n 1, 1) := by decide +kernel
theorem dL_areHoursRight_114 : decode cL_areHoursRight 114 = .ok (.aload_n 0, 1) := by decide +kernel
theorem dL_areHoursRight_115 : decode cL_areHoursRight 115 = .ok (.invokevirtual 107, 3) := by decide +kernel
theorem dL_areHoursRight_118 : decode cL_areHoursRight 118 = .ok (.if_icmp .ge 16, 3) := by decide +kernel
theorem dL_areHoursRight_121 : decode cL_areHoursRight 121 = .ok (.aload_n 0, 1) := by decide +kernel
theorem dL_areHoursRight_122 : decode cL_areHoursRight 122 = .ok (.iload_n 1, 1) := by decide +kernel
theorem dL_areHoursRight_123 : decode cL_areHoursRight 123 = .ok (.invokevirtual 133, 3) := by decide +kernel
theorem dL_areHoursRight_126 : decode cL_areHoursRight 126 = .ok (.ifCond .ne 8, 3) := by decide +kernel
theorem dL_areHoursRight_129 : decode cL_areHoursRight 129 = .ok (.iload 8, 2) := by decide +kernel
theorem dL_areHoursRight_131 : decode cL_areHoursRight 131 = .ok (.goto 5, 3) := by decide +kernel
theorem dL_areHoursRight_134 : decode cL_areHoursRight 134 = .ok (.iload 7, 2) := by decide +kernel
theorem dL_areHoursRight_136 : decode cL_areHoursRight 136 = .ok (.istore 7, 2) := by decide +kernel
theorem dL_areHoursRight_138 : decode cL_areHoursRight 138 = .ok (.iinc 8 1, 3) := by decide +kernel
theorem dL_areHoursRight_141 : decode cL_areHoursRight 141 = .ok (.goto (-66), 3) := by decide +kernel
theorem dL_areHoursRight_144 : decode cL_areHoursRight 144 = .ok (.aload_n 0, 1) := by decide +kernel
theorem dL_areHoursRight_145 : decode cL_areHoursRight 145 = .ok (.invokevirtual 246, 3) := by decide +kernel
theorem dL_areHoursRight_148 : decode cL_areHoursRight 148 = .ok (.istore 5, 2) := by decide +kernel
theorem dL_areHoursRight_150 : decode cL_areHoursRight 150 = .ok (.iload_n 3, 1) := by decide +kernel
theorem dL_areHoursRight_151 : decode cL_areHoursRight 151 = .ok (.iload 6, 2) := by decide +kernel
theorem dL_areHoursRight_153 : decode cL_areHoursRight 153 = .ok (.if_icmp .ne 22, 3) := by decide +kernel
theorem dL_areHoursRight_156 : decode cL_areHoursRight 156 = .ok (.iload 4, 2) := by decide +kernel
theorem dL_areHoursRight_158 : decode cL_areHoursRight 158 = .ok (.iload 7, 2) := by decide +kernel
theorem dL_areHoursRight_160 : decode cL_areHoursRight 160 = .ok (.if_icmp .ne 15, 3) := by decide +kernel
theorem dL_areHoursRight_163 : decode cL_areHoursRight 163 = .ok (.aload_n 0, 1) := by decide +kernel
theorem dL_areHoursRight_164 : decode cL_areHoursRight 164 = .ok (.invokestatic 239, 3) := by decide +kernel
theorem dL_areHoursRight_167 : decode cL_areHoursRight 167 = .ok (.iload_n 2, 1) := by decide +kernel
theorem dL_areHoursRight_168 : decode cL_areHoursRight 168 = .ok (.if_icmp .ne 7, 3) := by decide +kernel
theorem dL_areHoursRight_171 : decode cL_areHoursRight 171 = .ok (.iconst 1, 1) := by decide +kernel
theorem dL_areHoursRight_172 : decode cL_areHoursRight 172 = .ok (.goto 4, 3) := by decide +kernel
theorem dL_areHoursRight_175 : decode cL_areHoursRight 175 = .ok (.iconst 0, 1) := by decide +kernel
theorem dL_areHoursRight_176 : decode cL_areHoursRight 176 = .ok (.ireturn, 1) := by decide +kernel
theorem dL_law_0 : decode cL_law 0 = .ok (.new 16, 3) := by decide +kernel
theorem dL_law_3 : decode cL_law 3 = .ok (.dup, 1) := by decide +kernel
theorem dL_law_4 : decode cL_law 4 = .ok (.invokespecial 249, 3) := by decide +kernel
theorem dL_law_7 : decode cL_law 7 = .ok (.astore_n 1, 1) := by decide +kernel
theorem dL_law_8 : decode cL_law 8 = .ok (.aload_n 1, 1) := by decide +kernel
theorem dL_law_9 : decode cL_law 9 = .ok (.aload_n 0, 1) := by decide +kernel
theorem dL_law_10 : decode cL_law 10 = .ok (.invokestatic 250, 3) := by decide +kernel
theorem dL_law_13 : decode cL_law 13 = .ok (.iconst 0, 1) := by decide +kernel
theorem dL_law_14 : decode cL_law 14 = .ok (.istore_n 2, 1) := by decide +kernel
theorem dL_law_15 : decode cL_law 15 = .ok (.iload_n 2, 1) := by decide +kernel
theorem dL_law_16 : decode cL_law 16 = .ok (.bipush 12, 2) := by decide +kernel
theorem dL_law_18 : decode cL_law 18 = .ok (.if_icmp .ge 82, 3) := by decide +kernel
theorem dL_law_21 : decode cL_law 21 = .ok (.aload_n 1, 1) := by decide +kernel
theorem dL_law_22 : decode cL_law 22 = .ok (.aload_n 0, 1) := by decide +kernel
theorem dL_law_23 : decode cL_law 23 = .ok (.sipush 210, 3) := by decide +kernel
theorem dL_law_26 : decode cL_law 26 = .ok (.bipush 6, 2) := by decide +kernel
theorem dL_law_28 : decode cL_law 28 = .ok (.iload_n 2, 1) := by decide +kernel
theorem dL_law_29 : decode cL_law 29 = .ok (.imul, 1) := by decide +kernel
theorem dL_law_30 : decode cL_law 30 = .ok (.iadd, 1) := by decide +kernel
theorem dL_law_31 : decode cL_law 31 = .ok (.invokestatic 254, 3) := by decide +kernel
theorem dL_law_34 : decode cL_law 34 = .ok (.istore_n 3, 1) := by decide +kernel
theorem dL_law_35 : decode cL_law 35 = .ok (.aload_n 1, 1) := by decide +kernel
theorem dL_law_36 : decode cL_law 36 = .ok (.invokestatic 258, 3) := by decide +kernel
theorem dL_law_39 : decode cL_law 39 = .ok (.ifCond .eq 53, 3) := by decide +kernel
theorem dL_law_42 : decode cL_law 42 = .ok (.aload_n 1, 1) := by decide +kernel
theorem dL_law_43 : decode cL_law 43 = .ok (.invokestatic 262, 3) := by decide +kernel
theorem dL_law_46 : decode cL_law 46 = .ok (.ifCond .eq 46, 3) := by decide +kernel
theorem dL_law_49 : decode cL_law 49 = .ok (.aload_n 1, 1) := by decide +kernel
theorem dL_law_50 : decode cL_law 50 = .ok (.aload_n 1, 1) := by decide +kernel
theorem dL_law_51 : decode cL_law 51 = .ok (.invokevirtual 115, 3) := by decide +kernel
theorem dL_law_54 : decode cL_law 54 = .ok (.aload_n 0, 1) := by decide +kernel
theorem dL_law_55 : decode cL_law 55 = .ok (.sipush 300, 3) := by decide +kernel
theorem dL_law_58 : decode cL_law 58 = .ok (.iload_n 2, 1) := by decide +kernel
theorem dL_law_59 : decode cL_law 59 = .ok (.iadd, 1) := by decide +kernel
theorem dL_law_60 : decode cL_law 60 = .ok (.bipush 40, 2) := by decide +kernel
theorem dL_law_62 : decode cL_law 62 = .ok (.invokestatic 100, 3) := by decide +kernel
theorem dL_law_65 : decode cL_law 65 = .ok (.iadd, 1) := by decide +kernel
theorem dL_law_66 : decode cL_law 66 = .ok (.bipush 10, 2) := by decide +kernel
theorem dL_law_68 : decode cL_law 68 = .ok (.isub, 1) := by decide +kernel
theorem dL_law_69 : decode cL_law 69 = .ok (.invokestatic 265, 3) := by decide +kernel
theorem dL_law_72 : decode cL_law 72 = .ok (.ifCond .eq 20, 3) := by decide +kernel
theorem dL_law_75 : decode cL_law 75 = .ok (.aload_n 1, 1) := by decide +kernel
theorem dL_law_76 : decode cL_law 76 = .ok (.aload_n 0, 1) := by decide +kernel
theorem dL_law_77 : decode cL_law 77 = .ok (.sipush 320, 3) := by decide +kernel
theorem dL_law_80 : decode cL_law 80 = .ok (.iload_n 2, 1) := by decide +kernel
theorem dL_law_81 : decode cL_law 81 = .ok (.iadd, 1) := by decide +kernel
theorem dL_law_82 : decode cL_law 82 = .ok (.iconst 5, 1) := by decide +kernel
theorem dL_law_83 : decode cL_law 83 = .ok (.invokestatic 100, 3) := by decide +kernel
theorem dL_law_86 : decode cL_law 86 = .ok (.invokestatic 268, 3) := by decide +kernel
theorem dL_law_89 : decode cL_law 89 = .ok (.ifCond .ne 5, 3) := by decide +kernel
theorem dL_law_92 : decode cL_law 92 = .ok (.iconst 0, 1) := by decide +kernel
theorem dL_law_93 : decode cL_law 93 = .ok (.ireturn, 1) := by decide +kernel
theorem dL_law_94 : decode cL_law 94 = .ok (.iinc 2 1, 3) := by decide +kernel
theorem dL_law_97 : decode cL_law 97 = .ok (.goto (-82), 3) := by decide +kernel
theorem dL_law_100 : decode cL_law 100 = .ok (.iconst 1, 1) := by decide +kernel
theorem dL_law_101 : decode cL_law 101 = .ok (.ireturn, 1) := by decide +kernel
