theorem dX10_init_0 : decode cX10_init 0 = .ok (.aload_n 0, 1) := by decide +kernel
theorem dX10_init_1 : decode cX10_init 1 = .ok (.invokespecial 3, 3) := by decide +kernel
theorem dX10_init_4 : decode cX10_init 4 = .ok (.aload_n 0, 1) := by decide +kernel
theorem dX10_init_5 : decode cX10_init 5 = .ok (.sipush 218, 3) := by decide +kernel
theorem dX10_init_8 : decode cX10_init 8 = .ok (.newarray .int, 2) := by decide +kernel
theorem dX10_init_10 : decode cX10_init 10 = .ok (.putfield 9, 3) := by decide +kernel
theorem dX10_init_13 : decode cX10_init 13 = .ok (.aload_n 0, 1) := by decide +kernel
theorem dX10_init_14 : decode cX10_init 14 = .ok (.sipush 218, 3) := by decide +kernel
theorem dX10_init_17 : decode cX10_init 17 = .ok (.newarray .int, 2) := by decide +kernel
theorem dX10_init_19 : decode cX10_init 19 = .ok (.putfield 13, 3) := by decide +kernel
theorem dX10_init_22 : decode cX10_init 22 = .ok (.aload_n 0, 1) := by decide +kernel
theorem dX10_init_23 : decode cX10_init 23 = .ok (.sipush 218, 3) := by decide +kernel
theorem dX10_init_26 : decode cX10_init 26 = .ok (.newarray .int, 2) := by decide +kernel
theorem dX10_init_28 : decode cX10_init 28 = .ok (.putfield 16, 3) := by decide +kernel
theorem dX10_init_31 : decode cX10_init 31 = .ok (.aload_n 0, 1) := by decide +kernel
theorem dX10_init_32 : decode cX10_init 32 = .ok (.sipush 218, 3) := by decide +kernel
theorem dX10_init_35 : decode cX10_init 35 = .ok (.newarray .int, 2) := by decide +kernel
theorem dX10_init_37 : decode cX10_init 37 = .ok (.putfield 19, 3) := by decide +kernel
theorem dX10_init_40 : decode cX10_init 40 = .ok (.aload_n 0, 1) := by decide +kernel
theorem dX10_init_41 : decode cX10_init 41 = .ok (.sipush 1744, 3) := by decide +kernel
theorem dX10_init_44 : decode cX10_init 44 = .ok (.newarray .int, 2) := by decide +kernel
theorem dX10_init_46 : decode cX10_init 46 = .ok (.putfield 22, 3) := by decide +kernel
theorem dX10_init_49 : decode cX10_init 49 = .ok (.aload_n 0, 1) := by decide +kernel
theorem dX10_init_50 : decode cX10_init 50 = .ok (.iconst (-1), 1) := by decide +kernel
theorem dX10_init_51 : decode cX10_init 51 = .ok (.putfield 25, 3) := by decide +kernel
theorem dX10_init_54 : decode cX10_init 54 = .ok (.aload_n 0, 1) := by decide +kernel
theorem dX10_init_55 : decode cX10_init 55 = .ok (.iconst (-1), 1) := by decide +kernel
theorem dX10_init_56 : decode cX10_init 56 = .ok (.putfield 29, 3) := by decide +kernel
theorem dX10_init_59 : decode cX10_init 59 = .ok (.aload_n 0, 1) := by decide +kernel
theorem dX10_init_60 : decode cX10_init 60 = .ok (.bipush 8, 2) := by decide +kernel
theorem dX10_init_62 : decode cX10_init 62 = .ok (.newarray .int, 2) := by decide +kernel
theorem dX10_init_64 : decode cX10_init 64 = .ok (.putfield 32, 3) := by decide +kernel
theorem dX10_init_67 : decode cX10_init 67 = .ok (.aload_n 0, 1) := by decide +kernel
theorem dX10_init_68 : decode cX10_init 68 = .ok (.bipush 60, 2) := by decide +kernel
theorem dX10_init_70 : decode cX10_init 70 = .ok (.newarray .int, 2) := by decide +kernel
theorem dX10_init_72 : decode cX10_init 72 = .ok (.putfield 35, 3) := by decide +kernel
theorem dX10_init_75 : decode cX10_init 75 = .ok (.aload_n 0, 1) := by decide +kernel
theorem dX10_init_76 : decode cX10_init 76 = .ok (.bipush 80, 2) := by decide +kernel
theorem dX10_init_78 : decode cX10_init 78 = .ok (.newarray .int, 2) := by decide +kernel
theorem dX10_init_80 : decode cX10_init 80 = .ok (.putfield 38, 3) := by decide +kernel
theorem dX10_init_83 : decode cX10_init 83 = .ok (.aload_n 0, 1) := by decide +kernel
theorem dX10_init_84 : decode cX10_init 84 = .ok (.bipush 120, 2) := by decide +kernel
theorem dX10_init_86 : decode cX10_init 86 = .ok (.newarray .int, 2) := by decide +kernel
theorem dX10_init_88 : decode cX10_init 88 = .ok (.putfield 41, 3) := by decide +kernel
theorem dX10_init_91 : decode cX10_init 91 = .ok (.return_, 1) := by decide +kernel
theorem dX10_thrown_0 : decode cX10_thrown 0 = .ok (.aload_n 0, 1) := by decide +kernel
theorem dX10_thrown_1 : decode cX10_thrown 1 = .ok (.getfield 44, 3) := by decide +kernel
theorem dX10_thrown_4 : decode cX10_thrown 4 = .ok (.ireturn, 1) := by decide +kernel
theorem dX10_isIn_0 : decode cX10_isIn 0 = .ok (.iload_n 0, 1) := by decide +kernel
theorem dX10_isIn_1 : decode cX10_isIn 1 = .ok (.iload_n 1, 1) := by decide +kernel
theorem dX10_isIn_2 : decode cX10_isIn 2 = .ok (.if_icmp .lt 12, 3) := by decide +kernel
theorem dX10_isIn_5 : decode cX10_isIn 5 = .ok (.iload_n 0, 1) := by decide +kernel
theorem dX10_isIn_6 : decode cX10_isIn 6 = .ok (.iload_n 2, 1) := by decide +kernel
theorem dX10_isIn_7 : decode cX10_isIn 7 = .ok (.if_icmp .gt 7, 3) := by decide +kernel
theorem dX10_isIn_10 : decode cX10_isIn 10 = .ok (.iconst 1, 1) := by decide +kernel
theorem dX10_isIn_11 : decode cX10_isIn 11 = .ok (.goto 4, 3) := by decide +kernel
theorem dX10_isIn_14 : decode cX10_isIn 14 = .ok (.iconst 0, 1) := by decide +kernel
theorem dX10_isIn_15 : decode cX10_isIn 15 = .ok (.ireturn, 1) := by decide +kernel
theorem dX10_copies_0 : decode cX10_copies 0 = .ok (.iconst 0, 1) := by decide +kernel
theorem dX10_copies_1 : decode cX10_copies 1 = .ok (.istore 4, 2) := by decide +kernel
theorem dX10_copies_3 : decode cX10_copies 3 = .ok (.iload 4, 2) := by decide +kernel
theorem dX10_copies_5 : decode cX10_copies 5 = .ok (.sipush 218, 3) := by decide +kernel
theorem dX10_copies_8 : decode cX10_copies 8 = .ok (.if_icmp .ge 21, 3) := by decide +kernel
theorem dX10_copies_11 : decode cX10_copies 11 = .ok (.aload_n 2, 1) := by decide +kernel
theorem dX10_copies_12 : decode cX10_copies 12 = .ok (.iload_n 3, 1) := by decide +kernel
theorem dX10_copies_13 : decode cX10_copies 13 = .ok (.iload 4, 2) := by decide +kernel
theorem dX10_copies_15 : decode cX10_copies 15 = .ok (.iadd, 1) := by decide +kernel
theorem dX10_copies_16 : decode cX10_copies 16 = .ok (.aload_n 0, 1) := by decide +kernel
theorem dX10_copies_17 : decode cX10_copies 17 = .ok (.iload_n 1, 1) := by decide +kernel
theorem dX10_copies_18 : decode cX10_copies 18 = .ok (.iload 4, 2) := by decide +kernel
theorem dX10_copies_20 : decode cX10_copies 20 = .ok (.iadd, 1) := by decide +kernel
theorem dX10_copies_21 : decode cX10_copies 21 = .ok (.iaload, 1) := by decide +kernel
theorem dX10_copies_22 : decode cX10_copies 22 = .ok (.iastore, 1) := by decide +kernel
theorem dX10_copies_23 : decode cX10_copies 23 = .ok (.iinc 4 1, 3) := by decide +kernel
theorem dX10_copies_26 : decode cX10_copies 26 = .ok (.goto (-23), 3) := by decide +kernel
theorem dX10_copies_29 : decode cX10_copies 29 = .ok (.return_, 1) := by decide +kernel
theorem dX10_holds_0 : decode cX10_holds 0 = .ok (.aload_n 0, 1) := by decide +kernel
theorem dX10_holds_1 : decode cX10_holds 1 = .ok (.iload_n 1, 1) := by decide +kernel
theorem dX10_holds_2 : decode cX10_holds 2 = .ok (.ifCond .ne 7, 3) := by decide +kernel
theorem dX10_holds_5 : decode cX10_holds 5 = .ok (.iconst 1, 1) := by decide +kernel
theorem dX10_holds_6 : decode cX10_holds 6 = .ok (.goto 29, 3) := by decide +kernel
theorem dX10_holds_9 : decode cX10_holds 9 = .ok (.iload_n 2, 1) := by decide +kernel
theorem dX10_holds_10 : decode cX10_holds 10 = .ok (.ifCond .ne 7, 3) := by decide +kernel
theorem dX10_holds_13 : decode cX10_holds 13 = .ok (.iconst 2, 1) := by decide +kernel
theorem dX10_holds_14 : decode cX10_holds 14 = .ok (.goto 21, 3) := by decide +kernel
theorem dX10_holds_17 : decode cX10_holds 17 = .ok (.iload_n 3, 1) := by decide +kernel
theorem dX10_holds_18 : decode cX10_holds 18 = .ok (.ifCond .ne 7, 3) := by decide +kernel
theorem dX10_holds_21 : decode cX10_holds 21 = .ok (.iconst 3, 1) := by decide +kernel
theorem dX10_holds_22 : decode cX10_holds 22 = .ok (.goto 13, 3) := by decide +kernel
theorem dX10_holds_25 : decode cX10_holds 25 = .ok (.iload 4, 2) := by decide +kernel
theorem dX10_holds_27 : decode cX10_holds 27 = .ok (.ifCond .ne 7, 3) := by decide +kernel
theorem dX10_holds_30 : decode cX10_holds 30 = .ok (.iconst 4, 1) := by decide +kernel
theorem dX10_holds_31 : decode cX10_holds 31 = .ok (.goto 4, 3) := by decide +kernel
theorem dX10_holds_34 : decode cX10_holds 34 = .ok (.iconst 0, 1) := by decide +kernel
theorem dX10_holds_35 : decode cX10_holds 35 = .ok (.putfield 44, 3) := by decide +kernel
theorem dX10_holds_38 : decode cX10_holds 38 = .ok (.aload_n 0, 1) := by decide +kernel
theorem dX10_holds_39 : decode cX10_holds 39 = .ok (.getfield 44, 3) := by decide +kernel
theorem dX10_holds_42 : decode cX10_holds 42 = .ok (.ifCond .ne 7, 3) := by decide +kernel
theorem dX10_holds_45 : decode cX10_holds 45 = .ok (.iconst 1, 1) := by decide +kernel
theorem dX10_holds_46 : decode cX10_holds 46 = .ok (.goto 4, 3) := by decide +kernel
theorem dX10_holds_49 : decode cX10_holds 49 = .ok (.iconst 0, 1) := by decide +kernel
theorem dX10_holds_50 : decode cX10_holds 50 = .ok (.ireturn, 1) := by decide +kernel
theorem dX10_goes_0 : decode cX10_goes 0 = .ok (.aload_n 0, 1) := by decide +kernel
theorem dX10_goes_1 : decode cX10_goes 1 = .ok (.iload_n 1, 1) := by decide +kernel
theorem dX10_goes_2 : decode cX10_goes 2 = .ok (.iconst 1, 1) := by decide +kernel
theorem dX10_goes_3 : decode cX10_goes 3 = .ok (.iconst 1, 1) := by decide +kernel
theorem dX10_goes_4 : decode cX10_goes 4 = .ok (.iconst 1, 1) := by decide +kernel
theorem dX10_goes_5 : decode cX10_goes 5 = .ok (.invokevirtual 47, 3) := by decide +kernel
theorem dX10_goes_8 : decode cX10_goes 8 = .ok (.ireturn, 1) := by decide +kernel
theorem dX10_begins_0 : decode cX10_begins 0 = .ok (.aload_n 0, 1) := by decide +kernel
theorem dX10_begins_1 : decode cX10_begins 1 = .ok (.getfield 9, 3) := by decide +kernel
theorem dX10_begins_4 : decode cX10_begins 4 = .ok (.iconst 0, 1) := by decide +kernel
theorem dX10_begins_5 : decode cX10_begins 5 = .ok (.aload_n 0, 1) := by decide +kernel
theorem dX10_begins_6 : decode cX10_begins 6 = .ok (.getfield 13, 3) := by decide +kernel
theorem dX10_begins_9 : decode cX10_begins 9 = .ok (.iconst 0, 1) := by decide +kernel
theorem dX10_begins_10 : decode cX10_begins 10 = .ok (.invokestatic 51, 3) := by decide +kernel
theorem dX10_begins_13 : decode cX10_begins 13 = .ok (.return_, 1) := by decide +kernel
theorem dX10_remembers_0 : decode cX10_remembers 0 = .ok (.aload_n 0, 1) := by decide +kernel
theorem dX10_remembers_1 : decode cX10_remembers 1 = .ok (.getfield 55, 3) := by decide +kernel
theorem dX10_remembers_4 : decode cX10_remembers 4 = .ok (.bipush 8, 2) := by decide +kernel
theorem dX10_remembers_6 : decode cX10_remembers 6 = .ok (.if_icmp .ne 44, 3) := by decide +kernel
theorem dX10_remembers_9 : decode cX10_remembers 9 = .ok (.iconst 0, 1) := by decide +kernel
theorem dX10_remembers_10 : decode cX10_remembers 10 = .ok (.istore_n 1, 1) := by decide +kernel
theorem dX10_remembers_11 : decode cX10_remembers 11 = .ok (.iload_n 1, 1) := by decide +kernel
theorem dX10_remembers_12 : decode cX10_remembers 12 = .ok (.sipush 1526, 3) := by decide +kernel
theorem dX10_remembers_15 : decode cX10_remembers 15 = .ok (.if_icmp .ge 25, 3) := by decide +kernel
theorem dX10_remembers_18 : decode cX10_remembers 18 = .ok (.aload_n 0, 1) := by decide +kernel
theorem dX10_remembers_19 : decode cX10_remembers 19 = .ok (.getfield 22, 3) := by decide +kernel
theorem dX10_remembers_22 : decode cX10_remembers 22 = .ok (.iload_n 1, 1) := by decide +kernel
theorem dX10_remembers_23 : decode cX10_remembers 23 = .ok (.aload_n 0, 1) := by decide +kernel
theorem dX10_remembers_24 : decode cX10_remembers 24 = .ok (.getfield 22, 3) := by decide +kernel
theorem dX10_remembers_27 : decode cX10_remembers 27 = .ok (.iload_n 1, 1) := by decide +kernel
theorem dX10_remembers_28 : decode cX10_remembers 28 = .ok (.sipush 218, 3) := by decide +kernel
theorem dX10_remembers_31 : decode cX10_remembers 31 = .ok (.iadd, 1) := by decide +kernel
theorem dX10_remembers_32 : decode cX10_remembers 32 = .ok (.iaload, 1) := by decide +kernel
theorem dX10_remembers_33 : decode cX10_remembers 33 = .ok (.iastore, 1) := by decide +kernel
theorem dX10_remembers_34 : decode cX10_remembers 34 = .ok (.iinc 1 1, 3) := by decide +kernel
theorem dX10_remembers_37 : decode cX10_remembers 37 = .ok (.goto (-26), 3) := by decide +kernel
theorem dX10_remembers_40 : decode cX10_remembers 40 = .ok (.aload_n 0, 1) := by decide +kernel
theorem dX10_remembers_41 : decode cX10_remembers 41 = .ok (.dup, 1) := by decide +kernel
theorem dX10_remembers_42 : decode cX10_remembers 42 = .ok (.getfield 55, 3) := by decide +kernel
theorem dX10_remembers_45 : decode cX10_remembers 45 = .ok (.iconst 1, 1) := by decide +kernel
theorem dX10_remembers_46 : decode cX10_remembers 46 = .ok (.isub, 1) := by decide +kernel
theorem dX10_remembers_47 : decode cX10_remembers 47 = .ok (.putfield 55, 3) := by decide +kernel
theorem dX10_remembers_50 : decode cX10_remembers 50 = .ok (.aload_n 0, 1) := by decide +kernel
theorem dX10_remembers_51 : decode cX10_remembers 51 = .ok (.getfield 13, 3) := by decide +kernel
theorem dX10_remembers_54 : decode cX10_remembers 54 = .ok (.iconst 0, 1) := by decide +kernel
theorem dX10_remembers_55 : decode cX10_remembers 55 = .ok (.aload_n 0, 1) := by decide +kernel
theorem dX10_remembers_56 : decode cX10_remembers 56 = .ok (.getfield 22, 3) := by decide +kernel
theorem dX10_remembers_59 : decode cX10_remembers 59 = .ok (.aload_n 0, 1) := by decide +kernel
theorem dX10_remembers_60 : decode cX10_remembers 60 = .ok (.getfield 55, 3) := by decide +kernel
theorem dX10_remembers_63 : decode cX10_remembers 63 = .ok (.sipush 218, 3) := by decide +kernel
theorem dX10_remembers_66 : decode cX10_remembers 66 = .ok (.imul, 1) := by decide +kernel
theorem dX10_remembers_67 : decode cX10_remembers 67 = .ok (.invokestatic 51, 3) := by decide +kernel
theorem dX10_remembers_70 : decode cX10_remembers 70 = .ok (.aload_n 0, 1) := by decide +kernel
theorem dX10_remembers_71 : decode cX10_remembers 71 = .ok (.dup, 1) := by decide +kernel
theorem dX10_remembers_72 : decode cX10_remembers 72 = .ok (.getfield 55, 3) := by decide +kernel
theorem dX10_remembers_75 : decode cX10_remembers 75 = .ok (.iconst 1, 1) := by decide +kernel
theorem dX10_remembers_76 : decode cX10_remembers 76 = .ok (.iadd, 1) := by decide +kernel
theorem dX10_remembers_77 : decode cX10_remembers 77 = .ok (.putfield 55, 3) := by decide +kernel
theorem dX10_remembers_80 : decode cX10_remembers 80 = .ok (.return_, 1) := by decide +kernel
theorem dX10_ends_0 : decode cX10_ends 0 = .ok (.aload_n 0, 1) := by decide +kernel
theorem dX10_ends_1 : decode cX10_ends 1 = .ok (.getfield 44, 3) := by decide +kernel
theorem dX10_ends_4 : decode cX10_ends 4 = .ok (.ifCond .eq 18, 3) := by decide +kernel
theorem dX10_ends_7 : decode cX10_ends 7 = .ok (.aload_n 0, 1) := by decide +kernel
theorem dX10_ends_8 : decode cX10_ends 8 = .ok (.getfield 13, 3) := by decide +kernel
theorem dX10_ends_11 : decode cX10_ends 11 = .ok (.iconst 0, 1) := by decide +kernel
theorem dX10_ends_12 : decode cX10_ends 12 = .ok (.aload_n 0, 1) := by decide +kernel
theorem dX10_ends_13 : decode cX10_ends 13 = .ok (.getfield 9, 3) := by decide +kernel
theorem dX10_ends_16 : decode cX10_ends 16 = .ok (.iconst 0, 1) := by decide +kernel
theorem dX10_ends_17 : decode cX10_ends 17 = .ok (.invokestatic 51, 3) := by decide +kernel
theorem dX10_ends_20 : decode cX10_ends 20 = .ok (.iconst 0, 1) := by decide +kernel
theorem dX10_ends_21 : decode cX10_ends 21 = .ok (.ireturn, 1) := by decide +kernel
theorem dX10_ends_22 : decode cX10_ends 22 = .ok (.aload_n 0, 1) := by decide +kernel
theorem dX10_ends_23 : decode cX10_ends 23 = .ok (.invokevirtual 58, 3) := by decide +kernel
theorem dX10_ends_26 : decode cX10_ends 26 = .ok (.iload_n 1, 1) := by decide +kernel
theorem dX10_ends_27 : decode cX10_ends 27 = .ok (.ireturn, 1) := by decide +kernel
theorem dX10_undo_0 : decode cX10_undo 0 = .ok (.aload_n 0, 1) := by decide +kernel
theorem dX10_undo_1 : decode cX10_undo 1 = .ok (.aload_n 0, 1) := by decide +kernel
theorem dX10_undo_2 : decode cX10_undo 2 = .ok (.getfield 55, 3) := by decide +kernel
theorem dX10_undo_5 : decode cX10_undo 5 = .ok (.ifCond .le 7, 3) := by decide +kernel
theorem dX10_undo_8 : decode cX10_undo 8 = .ok (.iconst 1, 1) := by decide +kernel
theorem dX10_undo_9 : decode cX10_undo 9 = .ok (.goto 4, 3) := by decide +kernel
theorem dX10_undo_12 : decode cX10_undo 12 = .ok (.iconst 0, 1) := by decide +kernel
theorem dX10_undo_13 : decode cX10_undo 13 = .ok (.invokevirtual 61, 3) := by decide +kernel
theorem dX10_undo_16 : decode cX10_undo 16 = .ok (.ifCond .ne 5, 3) := by decide +kernel
theorem dX10_undo_19 : decode cX10_undo 19 = .ok (.iconst 0, 1) := by decide +kernel
theorem dX10_undo_20 : decode cX10_undo 20 = .ok (.ireturn, 1) := by decide +kernel
theorem dX10_undo_21 : decode cX10_undo 21 = .ok (.aload_n 0, 1) := by decide +kernel
theorem dX10_undo_22 : decode cX10_undo 22 = .ok (.dup, 1) := by decide +kernel
theorem dX10_undo_23 : decode cX10_undo 23 = .ok (.getfield 55, 3) := by decide +kernel
theorem dX10_undo_26 : decode cX10_undo 26 = .ok (.iconst 1, 1) := by decide +kernel
theorem dX10_undo_27 : decode cX10_undo 27 = .ok (.isub, 1) := by decide +kernel
theorem dX10_undo_28 : decode cX10_undo 28 = .ok (.putfield 55, 3) := by decide +kernel
theorem dX10_undo_31 : decode cX10_undo 31 = .ok (.aload_n 0, 1) := by decide +kernel
theorem dX10_undo_32 : decode cX10_undo 32 = .ok (.getfield 22, 3) := by decide +kernel
theorem dX10_undo_35 : decode cX10_undo 35 = .ok (.aload_n 0, 1) := by decide +kernel
theorem dX10_undo_36 : decode cX10_undo 36 = .ok (.getfield 55, 3) := by decide +kernel
theorem dX10_undo_39 : decode cX10_undo 39 = .ok (.sipush 218, 3) := by decide +kernel
theorem dX10_undo_42 : decode cX10_undo 42 = .ok (.imul, 1) := by decide +kernel
theorem dX10_undo_43 : decode cX10_undo 43 = .ok (.aload_n 0, 1) := by decide +kernel
theorem dX10_undo_44 : decode cX10_undo 44 = .ok (.getfield 9, 3) := by decide +kernel
theorem dX10_undo_47 : decode cX10_undo 47 = .ok (.iconst 0, 1) := by decide +kernel
theorem dX10_undo_48 : decode cX10_undo 48 = .ok (.invokestatic 51, 3) := by decide +kernel
theorem dX10_undo_51 : decode cX10_undo 51 = .ok (.aload_n 0, 1) := by decide +kernel
theorem dX10_undo_52 : decode cX10_undo 52 = .ok (.getfield 55, 3) := by decide +kernel
theorem dX10_undo_55 : decode cX10_undo 55 = .ok (.ireturn, 1) := by decide +kernel
theorem dX10_save_0 : decode cX10_save 0 = .ok (.aload_n 0, 1) := by decide +kernel
theorem dX10_save_1 : decode cX10_save 1 = .ok (.iconst 0, 1) := by decide +kernel
theorem dX10_save_2 : decode cX10_save 2 = .ok (.putfield 44, 3) := by decide +kernel
theorem dX10_save_5 : decode cX10_save 5 = .ok (.aload_n 0, 1) := by decide +kernel
theorem dX10_save_6 : decode cX10_save 6 = .ok (.getfield 9, 3) := by decide +kernel
theorem dX10_save_9 : decode cX10_save 9 = .ok (.iconst 0, 1) := by decide +kernel
theorem dX10_save_10 : decode cX10_save 10 = .ok (.aload_n 0, 1) := by decide +kernel
theorem dX10_save_11 : decode cX10_save 11 = .ok (.getfield 19, 3) := by decide +kernel
theorem dX10_save_14 : decode cX10_save 14 = .ok (.iconst 0, 1) := by decide +kernel
theorem dX10_save_15 : decode cX10_save 15 = .ok (.invokestatic 51, 3) := by decide +kernel
theorem dX10_save_18 : decode cX10_save 18 = .ok (.aload_n 0, 1) := by decide +kernel
theorem dX10_save_19 : decode cX10_save 19 = .ok (.iconst 1, 1) := by decide +kernel
theorem dX10_save_20 : decode cX10_save 20 = .ok (.putfield 65, 3) := by decide +kernel
theorem dX10_save_23 : decode cX10_save 23 = .ok (.aload_n 0, 1) := by decide +kernel
theorem dX10_save_24 : decode cX10_save 24 = .ok (.getfield 9, 3) := by decide +kernel
theorem dX10_save_27 : decode cX10_save 27 = .ok (.iconst 2, 1) := by decide +kernel
theorem dX10_save_28 : decode cX10_save 28 = .ok (.iaload, 1) := by decide +kernel
theorem dX10_save_29 : decode cX10_save 29 = .ok (.ireturn, 1) := by decide +kernel
theorem dX10_restore_0 : decode cX10_restore 0 = .ok (.aload_n 0, 1) := by decide +kernel
theorem dX10_restore_1 : decode cX10_restore 1 = .ok (.aload_n 0, 1) := by decide +kernel
theorem dX10_restore_2 : decode cX10_restore 2 = .ok (.getfield 65, 3) := by decide +kernel
theorem dX10_restore_5 : decode cX10_restore 5 = .ok (.invokevirtual 61, 3) := by decide +kernel
theorem dX10_restore_8 : decode cX10_restore 8 = .ok (.ifCond .ne 5, 3) := by decide +kernel
theorem dX10_restore_11 : decode cX10_restore 11 = .ok (.iconst 0, 1) := by decide +kernel
theorem dX10_restore_12 : decode cX10_restore 12 = .ok (.ireturn, 1) := by decide +kernel
theorem dX10_restore_13 : decode cX10_restore 13 = .ok (.aload_n 0, 1) := by decide +kernel
theorem dX10_restore_14 : decode cX10_restore 14 = .ok (.getfield 19, 3) := by decide +kernel
theorem dX10_restore_17 : decode cX10_restore 17 = .ok (.iconst 0, 1) := by decide +kernel
theorem dX10_restore_18 : decode cX10_restore 18 = .ok (.aload_n 0, 1) := by decide +kernel
theorem dX10_restore_19 : decode cX10_restore 19 = .ok (.getfield 9, 3) := by decide +kernel
theorem dX10_restore_22 : decode cX10_restore 22 = .ok (.iconst 0, 1) := by decide +kernel
theorem dX10_restore_23 : decode cX10_restore 23 = .ok (.invokestatic 51, 3) := by decide +kernel
theorem dX10_restore_26 : decode cX10_restore 26 = .ok (.aload_n 0, 1) := by decide +kernel
theorem dX10_restore_27 : decode cX10_restore 27 = .ok (.iconst 0, 1) := by decide +kernel
theorem dX10_restore_28 : decode cX10_restore 28 = .ok (.putfield 55, 3) := by decide +kernel
theorem dX10_restore_31 : decode cX10_restore 31 = .ok (.aload_n 0, 1) := by decide +kernel
theorem dX10_restore_32 : decode cX10_restore 32 = .ok (.getfield 9, 3) := by decide +kernel
theorem dX10_restore_35 : decode cX10_restore 35 = .ok (.iconst 2, 1) := by decide +kernel
theorem dX10_restore_36 : decode cX10_restore 36 = .ok (.iaload, 1) := by decide +kernel
theorem dX10_restore_37 : decode cX10_restore 37 = .ok (.ireturn, 1) := by decide +kernel
theorem dX10_isLake_0 : decode cX10_isLake 0 = .ok (.iload_n 1, 1) := by decide +kernel
theorem dX10_isLake_1 : decode cX10_isLake 1 = .ok (.iconst 0, 1) := by decide +kernel
theorem dX10_isLake_2 : decode cX10_isLake 2 = .ok (.aload_n 0, 1) := by decide +kernel
theorem dX10_isLake_3 : decode cX10_isLake 3 = .ok (.getfield 9, 3) := by decide +kernel
theorem dX10_isLake_6 : decode cX10_isLake 6 = .ok (.iconst 2, 1) := by decide +kernel
theorem dX10_isLake_7 : decode cX10_isLake 7 = .ok (.iaload, 1) := by decide +kernel
theorem dX10_isLake_8 : decode cX10_isLake 8 = .ok (.iconst 1, 1) := by decide +kernel
theorem dX10_isLake_9 : decode cX10_isLake 9 = .ok (.isub, 1) := by decide +kernel
theorem dX10_isLake_10 : decode cX10_isLake 10 = .ok (.invokestatic 69, 3) := by decide +kernel
theorem dX10_isLake_13 : decode cX10_isLake 13 = .ok (.ireturn, 1) := by decide +kernel
theorem dX10_of_0 : decode cX10_of 0 = .ok (.aload_n 0, 1) := by decide +kernel
theorem dX10_of_1 : decode cX10_of 1 = .ok (.getfield 9, 3) := by decide +kernel
theorem dX10_of_4 : decode cX10_of 4 = .ok (.bipush 7, 2) := by decide +kernel
theorem dX10_of_6 : decode cX10_of 6 = .ok (.bipush 27, 2) := by decide +kernel
theorem dX10_of_8 : decode cX10_of 8 = .ok (.aload_n 0, 1) := by decide +kernel
theorem dX10_of_9 : decode cX10_of 9 = .ok (.iload_n 1, 1) := by decide +kernel
theorem dX10_of_10 : decode cX10_of 10 = .ok (.invokevirtual 73, 3) := by decide +kernel
theorem dX10_of_13 : decode cX10_of 13 = .ok (.ifCond .eq 7, 3) := by decide +kernel
theorem dX10_of_16 : decode cX10_of 16 = .ok (.iload_n 1, 1) := by decide +kernel
theorem dX10_of_17 : decode cX10_of 17 = .ok (.goto 4, 3) := by decide +kernel
theorem dX10_of_20 : decode cX10_of 20 = .ok (.iconst 0, 1) := by decide +kernel
theorem dX10_of_21 : decode cX10_of 21 = .ok (.imul, 1) := by decide +kernel
theorem dX10_of_22 : decode cX10_of 22 = .ok (.iadd, 1) := by decide +kernel
theorem dX10_of_23 : decode cX10_of 23 = .ok (.iload_n 2, 1) := by decide +kernel
theorem dX10_of_24 : decode cX10_of 24 = .ok (.iadd, 1) := by decide +kernel
theorem dX10_of_25 : decode cX10_of 25 = .ok (.iaload, 1) := by decide +kernel
theorem dX10_of_26 : decode cX10_of 26 = .ok (.ireturn, 1) := by decide +kernel
theorem dX10_isLayer_0 : decode cX10_isLayer 0 = .ok (.aload_n 0, 1) := by decide +kernel
theorem dX10_isLayer_1 : decode cX10_isLayer 1 = .ok (.iload_n 1, 1) := by decide +kernel
theorem dX10_isLayer_2 : decode cX10_isLayer 2 = .ok (.invokevirtual 73, 3) := by decide +kernel
theorem dX10_isLayer_5 : decode cX10_isLayer 5 = .ok (.ifCond .eq 23, 3) := by decide +kernel
theorem dX10_isLayer_8 : decode cX10_isLayer 8 = .ok (.iload_n 2, 1) := by decide +kernel
theorem dX10_isLayer_9 : decode cX10_isLayer 9 = .ok (.iconst 0, 1) := by decide +kernel
theorem dX10_isLayer_10 : decode cX10_isLayer 10 = .ok (.aload_n 0, 1) := by decide +kernel
theorem dX10_isLayer_11 : decode cX10_isLayer 11 = .ok (.iload_n 1, 1) := by decide +kernel
theorem dX10_isLayer_12 : decode cX10_isLayer 12 = .ok (.iconst 2, 1) := by decide +kernel
theorem dX10_isLayer_13 : decode cX10_isLayer 13 = .ok (.invokevirtual 77, 3) := by decide +kernel
theorem dX10_isLayer_16 : decode cX10_isLayer 16 = .ok (.iconst 1, 1) := by decide +kernel
theorem dX10_isLayer_17 : decode cX10_isLayer 17 = .ok (.isub, 1) := by decide +kernel
theorem dX10_isLayer_18 : decode cX10_isLayer 18 = .ok (.invokestatic 69, 3) := by decide +kernel
theorem dX10_isLayer_21 : decode cX10_isLayer 21 = .ok (.ifCond .eq 7, 3) := by decide +kernel
theorem dX10_isLayer_24 : decode cX10_isLayer 24 = .ok (.iconst 1, 1) := by decide +kernel
theorem dX10_isLayer_25 : decode cX10_isLayer 25 = .ok (.goto 4, 3) := by decide +kernel
theorem dX10_isLayer_28 : decode cX10_isLayer 28 = .ok (.iconst 0, 1) := by decide +kernel
theorem dX10_isLayer_29 : decode cX10_isLayer 29 = .ok (.ireturn, 1) := by decide +kernel
theorem dX10_layerPlace_0 : decode cX10_layerPlace 0 = .ok (.bipush 7, 2) := by decide +kernel
theorem dX10_layerPlace_2 : decode cX10_layerPlace 2 = .ok (.bipush 27, 2) := by decide +kernel
theorem dX10_layerPlace_4 : decode cX10_layerPlace 4 = .ok (.iload_n 0, 1) := by decide +kernel
theorem dX10_layerPlace_5 : decode cX10_layerPlace 5 = .ok (.imul, 1) := by decide +kernel
theorem dX10_layerPlace_6 : decode cX10_layerPlace 6 = .ok (.iadd, 1) := by decide +kernel
theorem dX10_layerPlace_7 : decode cX10_layerPlace 7 = .ok (.iconst 3, 1) := by decide +kernel
theorem dX10_layerPlace_8 : decode cX10_layerPlace 8 = .ok (.iadd, 1) := by decide +kernel
theorem dX10_layerPlace_9 : decode cX10_layerPlace 9 = .ok (.iconst 3, 1) := by decide +kernel
theorem dX10_layerPlace_10 : decode cX10_layerPlace 10 = .ok (.iload_n 1, 1) := by decide +kernel
theorem dX10_layerPlace_11 : decode cX10_layerPlace 11 = .ok (.imul, 1) := by decide +kernel
theorem dX10_layerPlace_12 : decode cX10_layerPlace 12 = .ok (.iadd, 1) := by decide +kernel
theorem dX10_layerPlace_13 : decode cX10_layerPlace 13 = .ok (.ireturn, 1) := by decide +kernel
theorem dX10_ofLayer_0 : decode cX10_ofLayer 0 = .ok (.aload_n 0, 1) := by decide +kernel
theorem dX10_ofLayer_1 : decode cX10_ofLayer 1 = .ok (.getfield 9, 3) := by decide +kernel
theorem dX10_ofLayer_4 : decode cX10_ofLayer 4 = .ok (.aload_n 0, 1) := by decide +kernel
theorem dX10_ofLayer_5 : decode cX10_ofLayer 5 = .ok (.iload_n 1, 1) := by decide +kernel
theorem dX10_ofLayer_6 : decode cX10_ofLayer 6 = .ok (.iload_n 2, 1) := by decide +kernel
theorem dX10_ofLayer_7 : decode cX10_ofLayer 7 = .ok (.invokevirtual 81, 3) := by decide +kernel
theorem dX10_ofLayer_10 : decode cX10_ofLayer 10 = .ok (.ifCond .eq 11, 3) := by decide +kernel
theorem dX10_ofLayer_13 : decode cX10_ofLayer 13 = .ok (.iload_n 1, 1) := by decide +kernel
theorem dX10_ofLayer_14 : decode cX10_ofLayer 14 = .ok (.iload_n 2, 1) := by decide +kernel
theorem dX10_ofLayer_15 : decode cX10_ofLayer 15 = .ok (.invokestatic 85, 3) := by decide +kernel
theorem dX10_ofLayer_18 : decode cX10_ofLayer 18 = .ok (.goto 8, 3) := by decide +kernel
theorem dX10_ofLayer_21 : decode cX10_ofLayer 21 = .ok (.iconst 0, 1) := by decide +kernel
theorem dX10_ofLayer_22 : decode cX10_ofLayer 22 = .ok (.iconst 0, 1) := by decide +kernel
theorem dX10_ofLayer_23 : decode cX10_ofLayer 23 = .ok (.invokestatic 85, 3) := by decide +kernel
theorem dX10_ofLayer_26 : decode cX10_ofLayer 26 = .ok (.iload_n 3, 1) := by decide +kernel
theorem dX10_ofLayer_27 : decode cX10_ofLayer 27 = .ok (.iadd, 1) := by decide +kernel
theorem dX10_ofLayer_28 : decode cX10_ofLayer 28 = .ok (.iaload, 1) := by decide +kernel
theorem dX10_ofLayer_29 : decode cX10_ofLayer 29 = .ok (.ireturn, 1) := by decide +kernel
theorem dX10_iceOf_0 : decode cX10_iceOf 0 = .ok (.iconst 0, 1) := by decide +kernel
theorem dX10_iceOf_1 : decode cX10_iceOf 1 = .ok (.istore_n 2, 1) := by decide +kernel
theorem dX10_iceOf_2 : decode cX10_iceOf 2 = .ok (.iconst 0, 1) := by decide +kernel
theorem dX10_iceOf_3 : decode cX10_iceOf 3 = .ok (.istore_n 3, 1) := by decide +kernel
theorem dX10_iceOf_4 : decode cX10_iceOf 4 = .ok (.iload_n 3, 1) := by decide +kernel
theorem dX10_iceOf_5 : decode cX10_iceOf 5 = .ok (.aload_n 0, 1) := by decide +kernel
theorem dX10_iceOf_6 : decode cX10_iceOf 6 = .ok (.iload_n 1, 1) := by decide +kernel
theorem dX10_iceOf_7 : decode cX10_iceOf 7 = .ok (.iconst 2, 1) := by decide +kernel
theorem dX10_iceOf_8 : decode cX10_iceOf 8 = .ok (.invokevirtual 77, 3) := by decide +kernel
theorem dX10_iceOf_11 : decode cX10_iceOf 11 = .ok (.if_icmp .ge 19, 3) := by decide +kernel
theorem dX10_iceOf_14 : decode cX10_iceOf 14 = .ok (.iload_n 2, 1) := by decide +kernel
theorem dX10_iceOf_15 : decode cX10_iceOf 15 = .ok (.aload_n 0, 1) := by decide +kernel
theorem dX10_iceOf_16 : decode cX10_iceOf 16 = .ok (.iload_n 1, 1) := by decide +kernel
theorem dX10_iceOf_17 : decode cX10_iceOf 17 = .ok (.iload_n 3, 1) := by decide +kernel
theorem dX10_iceOf_18 : decode cX10_iceOf 18 = .ok (.iconst 0, 1) := by decide +kernel
theorem dX10_iceOf_19 : decode cX10_iceOf 19 = .ok (.invokevirtual 88, 3) := by decide +kernel
theorem dX10_iceOf_22 : decode cX10_iceOf 22 = .ok (.iadd, 1) := by decide +kernel
theorem dX10_iceOf_23 : decode cX10_iceOf 23 = .ok (.istore_n 2, 1) := by decide +kernel
theorem dX10_iceOf_24 : decode cX10_iceOf 24 = .ok (.iinc 3 1, 3) := by decide +kernel
theorem dX10_iceOf_27 : decode cX10_iceOf 27 = .ok (.goto (-23), 3) := by decide +kernel
theorem dX10_iceOf_30 : decode cX10_iceOf 30 = .ok (.iload_n 2, 1) := by decide +kernel
theorem dX10_iceOf_31 : decode cX10_iceOf 31 = .ok (.ireturn, 1) := by decide +kernel
theorem dX10_pitchOf_0 : decode cX10_pitchOf 0 = .ok (.bipush 100, 2) := by decide +kernel
theorem dX10_pitchOf_2 : decode cX10_pitchOf 2 = .ok (.aload_n 0, 1) := by decide +kernel
theorem dX10_pitchOf_3 : decode cX10_pitchOf 3 = .ok (.iload_n 1, 1) := by decide +kernel
theorem dX10_pitchOf_4 : decode cX10_pitchOf 4 = .ok (.iload_n 2, 1) := by decide +kernel
theorem dX10_pitchOf_5 : decode cX10_pitchOf 5 = .ok (.iconst 0, 1) := by decide +kernel
theorem dX10_pitchOf_6 : decode cX10_pitchOf 6 = .ok (.invokevirtual 88, 3) := by decide +kernel
theorem dX10_pitchOf_9 : decode cX10_pitchOf 9 = .ok (.idiv, 1) := by decide +kernel
theorem dX10_pitchOf_10 : decode cX10_pitchOf 10 = .ok (.aload_n 0, 1) := by decide +kernel
theorem dX10_pitchOf_11 : decode cX10_pitchOf 11 = .ok (.iload_n 1, 1) := by decide +kernel
theorem dX10_pitchOf_12 : decode cX10_pitchOf 12 = .ok (.iload_n 2, 1) := by decide +kernel
theorem dX10_pitchOf_13 : decode cX10_pitchOf 13 = .ok (.iconst 1, 1) := by decide +kernel
theorem dX10_pitchOf_14 : decode cX10_pitchOf 14 = .ok (.invokevirtual 88, 3) := by decide +kernel
theorem dX10_pitchOf_17 : decode cX10_pitchOf 17 = .ok (.isub, 1) := by decide +kernel
theorem dX10_pitchOf_18 : decode cX10_pitchOf 18 = .ok (.ireturn, 1) := by decide +kernel
theorem dX10_isOpened_0 : decode cX10_isOpened 0 = .ok (.iconst 0, 1) := by decide +kernel
theorem dX10_isOpened_1 : decode cX10_isOpened 1 = .ok (.istore_n 2, 1) := by decide +kernel
theorem dX10_isOpened_2 : decode cX10_isOpened 2 = .ok (.iconst 0, 1) := by decide +kernel
theorem dX10_isOpened_3 : decode cX10_isOpened 3 = .ok (.istore_n 3, 1) := by decide +kernel
theorem dX10_isOpened_4 : decode cX10_isOpened 4 = .ok (.iload_n 3, 1) := by decide +kernel
theorem dX10_isOpened_5 : decode cX10_isOpened 5 = .ok (.aload_n 0, 1) := by decide +kernel
theorem dX10_isOpened_6 : decode cX10_isOpened 6 = .ok (.getfield 9, 3) := by decide +kernel
theorem dX10_isOpened_9 : decode cX10_isOpened 9 = .ok (.iconst 3, 1) := by decide +kernel
theorem dX10_isOpened_10 : decode cX10_isOpened 10 = .ok (.iaload, 1) := by decide +kernel
theorem dX10_isOpened_11 : decode cX10_isOpened 11 = .ok (.if_icmp .ge 54, 3) := by decide +kernel
theorem dX10_isOpened_14 : decode cX10_isOpened 14 = .ok (.iload_n 2, 1) := by decide +kernel
theorem dX10_isOpened_15 : decode cX10_isOpened 15 = .ok (.ifCond .ne 38, 3) := by decide +kernel
theorem dX10_isOpened_18 : decode cX10_isOpened 18 = .ok (.iload_n 1, 1) := by decide +kernel
theorem dX10_isOpened_19 : decode cX10_isOpened 19 = .ok (.aload_n 0, 1) := by decide +kernel
theorem dX10_isOpened_20 : decode cX10_isOpened 20 = .ok (.getfield 9, 3) := by decide +kernel
theorem dX10_isOpened_23 : decode cX10_isOpened 23 = .ok (.sipush 142, 3) := by decide +kernel
theorem dX10_isOpened_26 : decode cX10_isOpened 26 = .ok (.iconst 2, 1) := by decide +kernel
theorem dX10_isOpened_27 : decode cX10_isOpened 27 = .ok (.iload_n 3, 1) := by decide +kernel
theorem dX10_isOpened_28 : decode cX10_isOpened 28 = .ok (.imul, 1) := by decide +kernel
theorem dX10_isOpened_29 : decode cX10_isOpened 29 = .ok (.iadd, 1) := by decide +kernel
theorem dX10_isOpened_30 : decode cX10_isOpened 30 = .ok (.iconst 0, 1) := by decide +kernel
theorem dX10_isOpened_31 : decode cX10_isOpened 31 = .ok (.iadd, 1) := by decide +kernel
theorem dX10_isOpened_32 : decode cX10_isOpened 32 = .ok (.iaload, 1) := by decide +kernel
theorem dX10_isOpened_33 : decode cX10_isOpened 33 = .ok (.aload_n 0, 1) := by decide +kernel
theorem dX10_isOpened_34 : decode cX10_isOpened 34 = .ok (.getfield 9, 3) := by decide +kernel
theorem dX10_isOpened_37 : decode cX10_isOpened 37 = .ok (.sipush 142, 3) := by decide +kernel
theorem dX10_isOpened_40 : decode cX10_isOpened 40 = .ok (.iconst 2, 1) := by decide +kernel
theorem dX10_isOpened_41 : decode cX10_isOpened 41 = .ok (.iload_n 3, 1) := by decide +kernel
theorem dX10_isOpened_42 : decode cX10_isOpened 42 = .ok (.imul, 1) := by decide +kernel
theorem dX10_isOpened_43 : decode cX10_isOpened 43 = .ok (.iadd, 1) := by decide +kernel
theorem dX10_isOpened_44 : decode cX10_isOpened 44 = .ok (.iconst 1, 1) := by decide +kernel
theorem dX10_isOpened_45 : decode cX10_isOpened 45 = .ok (.iadd, 1) := by decide +kernel
theorem dX10_isOpened_46 : decode cX10_isOpened 46 = .ok (.iaload, 1) := by decide +kernel
theorem dX10_isOpened_47 : decode cX10_isOpened 47 = .ok (.invokestatic 69, 3) := by decide +kernel
theorem dX10_isOpened_50 : decode cX10_isOpened 50 = .ok (.ifCond .eq 7, 3) := by decide +kernel
theorem dX10_isOpened_53 : decode cX10_isOpened 53 = .ok (.iconst 1, 1) := by decide +kernel
theorem dX10_isOpened_54 : decode cX10_isOpened 54 = .ok (.goto 4, 3) := by decide +kernel
theorem dX10_isOpened_57 : decode cX10_isOpened 57 = .ok (.iconst 0, 1) := by decide +kernel
theorem dX10_isOpened_58 : decode cX10_isOpened 58 = .ok (.istore_n 2, 1) := by decide +kernel
theorem dX10_isOpened_59 : decode cX10_isOpened 59 = .ok (.iinc 3 1, 3) := by decide +kernel
theorem dX10_isOpened_62 : decode cX10_isOpened 62 = .ok (.goto (-58), 3) := by decide +kernel
theorem dX10_isOpened_65 : decode cX10_isOpened 65 = .ok (.iload_n 2, 1) := by decide +kernel
theorem dX10_isOpened_66 : decode cX10_isOpened 66 = .ok (.ireturn, 1) := by decide +kernel
theorem dX10_rings_0 : decode cX10_rings 0 = .ok (.sipush 217, 3) := by decide +kernel
theorem dX10_rings_3 : decode cX10_rings 3 = .ok (.istore 4, 2) := by decide +kernel
theorem dX10_rings_5 : decode cX10_rings 5 = .ok (.iload 4, 2) := by decide +kernel
theorem dX10_rings_7 : decode cX10_rings 7 = .ok (.sipush 158, 3) := by decide +kernel
theorem dX10_rings_10 : decode cX10_rings 10 = .ok (.if_icmp .lt 25, 3) := by decide +kernel
theorem dX10_rings_13 : decode cX10_rings 13 = .ok (.aload_n 0, 1) := by decide +kernel
theorem dX10_rings_14 : decode cX10_rings 14 = .ok (.getfield 9, 3) := by decide +kernel
theorem dX10_rings_17 : decode cX10_rings 17 = .ok (.iload 4, 2) := by decide +kernel
theorem dX10_rings_19 : decode cX10_rings 19 = .ok (.aload_n 0, 1) := by decide +kernel
theorem dX10_rings_20 : decode cX10_rings 20 = .ok (.getfield 9, 3) := by decide +kernel
theorem dX10_rings_23 : decode cX10_rings 23 = .ok (.iload 4, 2) := by decide +kernel
theorem dX10_rings_25 : decode cX10_rings 25 = .ok (.iconst 4, 1) := by decide +kernel
theorem dX10_rings_26 : decode cX10_rings 26 = .ok (.isub, 1) := by decide +kernel
theorem dX10_rings_27 : decode cX10_rings 27 = .ok (.iaload, 1) := by decide +kernel
theorem dX10_rings_28 : decode cX10_rings 28 = .ok (.iastore, 1) := by decide +kernel
theorem dX10_rings_29 : decode cX10_rings 29 = .ok (.iinc 4 (-1), 3) := by decide +kernel
theorem dX10_rings_32 : decode cX10_rings 32 = .ok (.goto (-27), 3) := by decide +kernel
theorem dX10_rings_35 : decode cX10_rings 35 = .ok (.aload_n 0, 1) := by decide +kernel
theorem dX10_rings_36 : decode cX10_rings 36 = .ok (.getfield 9, 3) := by decide +kernel
theorem dX10_rings_39 : decode cX10_rings 39 = .ok (.sipush 154, 3) := by decide +kernel
theorem dX10_rings_42 : decode cX10_rings 42 = .ok (.iload_n 1, 1) := by decide +kernel
theorem dX10_rings_43 : decode cX10_rings 43 = .ok (.iastore, 1) := by decide +kernel
theorem dX10_rings_44 : decode cX10_rings 44 = .ok (.aload_n 0, 1) := by decide +kernel
theorem dX10_rings_45 : decode cX10_rings 45 = .ok (.getfield 9, 3) := by decide +kernel
theorem dX10_rings_48 : decode cX10_rings 48 = .ok (.sipush 155, 3) := by decide +kernel
theorem dX10_rings_51 : decode cX10_rings 51 = .ok (.iload_n 2, 1) := by decide +kernel
theorem dX10_rings_52 : decode cX10_rings 52 = .ok (.iastore, 1) := by decide +kernel
theorem dX10_rings_53 : decode cX10_rings 53 = .ok (.aload_n 0, 1) := by decide +kernel
theorem dX10_rings_54 : decode cX10_rings 54 = .ok (.getfield 9, 3) := by decide +kernel
theorem dX10_rings_57 : decode cX10_rings 57 = .ok (.sipush 156, 3) := by decide +kernel
theorem dX10_rings_60 : decode cX10_rings 60 = .ok (.iload_n 3, 1) := by decide +kernel
theorem dX10_rings_61 : decode cX10_rings 61 = .ok (.iastore, 1) := by decide +kernel
theorem dX10_rings_62 : decode cX10_rings 62 = .ok (.aload_n 0, 1) := by decide +kernel
theorem dX10_rings_63 : decode cX10_rings 63 = .ok (.getfield 9, 3) := by decide +kernel
theorem dX10_rings_66 : decode cX10_rings 66 = .ok (.sipush 157, 3) := by decide +kernel
theorem dX10_rings_69 : decode cX10_rings 69 = .ok (.aload_n 0, 1) := by decide +kernel
theorem dX10_rings_70 : decode cX10_rings 70 = .ok (.getfield 9, 3) := by decide +kernel
theorem dX10_rings_73 : decode cX10_rings 73 = .ok (.iconst 0, 1) := by decide +kernel
theorem dX10_rings_74 : decode cX10_rings 74 = .ok (.iaload, 1) := by decide +kernel
theorem dX10_rings_75 : decode cX10_rings 75 = .ok (.iastore, 1) := by decide +kernel
theorem dX10_rings_76 : decode cX10_rings 76 = .ok (.aload_n 0, 1) := by decide +kernel
theorem dX10_rings_77 : decode cX10_rings 77 = .ok (.getfield 9, 3) := by decide +kernel
theorem dX10_rings_80 : decode cX10_rings 80 = .ok (.iconst 4, 1) := by decide +kernel
theorem dX10_rings_81 : decode cX10_rings 81 = .ok (.bipush 16, 2) := by decide +kernel
theorem dX10_rings_83 : decode cX10_rings 83 = .ok (.aload_n 0, 1) := by decide +kernel
theorem dX10_rings_84 : decode cX10_rings 84 = .ok (.getfield 9, 3) := by decide +kernel
theorem dX10_rings_87 : decode cX10_rings 87 = .ok (.iconst 4, 1) := by decide +kernel
theorem dX10_rings_88 : decode cX10_rings 88 = .ok (.iaload, 1) := by decide +kernel
theorem dX10_rings_89 : decode cX10_rings 89 = .ok (.iconst 1, 1) := by decide +kernel
theorem dX10_rings_90 : decode cX10_rings 90 = .ok (.iadd, 1) := by decide +kernel
theorem dX10_rings_91 : decode cX10_rings 91 = .ok (.invokestatic 92, 3) := by decide +kernel
theorem dX10_rings_94 : decode cX10_rings 94 = .ok (.iastore, 1) := by decide +kernel
theorem dX10_rings_95 : decode cX10_rings 95 = .ok (.return_, 1) := by decide +kernel
theorem dX10_adds_0 : decode cX10_adds 0 = .ok (.aload_n 0, 1) := by decide +kernel
theorem dX10_adds_1 : decode cX10_adds 1 = .ok (.iload_n 1, 1) := by decide +kernel
theorem dX10_adds_2 : decode cX10_adds 2 = .ok (.bipush 20, 2) := by decide +kernel
theorem dX10_adds_4 : decode cX10_adds 4 = .ok (.sipush 400, 3) := by decide +kernel
theorem dX10_adds_7 : decode cX10_adds 7 = .ok (.invokestatic 69, 3) := by decide +kernel
theorem dX10_adds_10 : decode cX10_adds 10 = .ok (.aload_n 0, 1) := by decide +kernel
theorem dX10_adds_11 : decode cX10_adds 11 = .ok (.getfield 9, 3) := by decide +kernel
theorem dX10_adds_14 : decode cX10_adds 14 = .ok (.iconst 2, 1) := by decide +kernel
theorem dX10_adds_15 : decode cX10_adds 15 = .ok (.iaload, 1) := by decide +kernel
theorem dX10_adds_16 : decode cX10_adds 16 = .ok (.iconst 5, 1) := by decide +kernel
theorem dX10_adds_17 : decode cX10_adds 17 = .ok (.if_icmp .ge 7, 3) := by decide +kernel
theorem dX10_adds_20 : decode cX10_adds 20 = .ok (.iconst 1, 1) := by decide +kernel
theorem dX10_adds_21 : decode cX10_adds 21 = .ok (.goto 4, 3) := by decide +kernel
theorem dX10_adds_24 : decode cX10_adds 24 = .ok (.iconst 0, 1) := by decide +kernel
theorem dX10_adds_25 : decode cX10_adds 25 = .ok (.iconst 1, 1) := by decide +kernel
theorem dX10_adds_26 : decode cX10_adds 26 = .ok (.iconst 1, 1) := by decide +kernel
theorem dX10_adds_27 : decode cX10_adds 27 = .ok (.invokevirtual 47, 3) := by decide +kernel
theorem dX10_adds_30 : decode cX10_adds 30 = .ok (.ifCond .ne 5, 3) := by decide +kernel
theorem dX10_adds_33 : decode cX10_adds 33 = .ok (.iconst 0, 1) := by decide +kernel
theorem dX10_adds_34 : decode cX10_adds 34 = .ok (.ireturn, 1) := by decide +kernel
theorem dX10_adds_35 : decode cX10_adds 35 = .ok (.bipush 7, 2) := by decide +kernel
theorem dX10_adds_37 : decode cX10_adds 37 = .ok (.bipush 27, 2) := by decide +kernel
theorem dX10_adds_39 : decode cX10_adds 39 = .ok (.aload_n 0, 1) := by decide +kernel
theorem dX10_adds_40 : decode cX10_adds 40 = .ok (.getfield 9, 3) := by decide +kernel
theorem dX10_adds_43 : decode cX10_adds 43 = .ok (.iconst 2, 1) := by decide +kernel
theorem dX10_adds_44 : decode cX10_adds 44 = .ok (.iaload, 1) := by decide +kernel
theorem dX10_adds_45 : decode cX10_adds 45 = .ok (.imul, 1) := by decide +kernel
theorem dX10_adds_46 : decode cX10_adds 46 = .ok (.iadd, 1) := by decide +kernel
theorem dX10_adds_47 : decode cX10_adds 47 = .ok (.istore_n 2, 1) := by decide +kernel
theorem dX10_adds_48 : decode cX10_adds 48 = .ok (.aload_n 0, 1) := by decide +kernel
theorem dX10_adds_49 : decode cX10_adds 49 = .ok (.getfield 9, 3) := by decide +kernel
theorem dX10_adds_52 : decode cX10_adds 52 = .ok (.iload_n 2, 1) := by decide +kernel
theorem dX10_adds_53 : decode cX10_adds 53 = .ok (.iconst 0, 1) := by decide +kernel
theorem dX10_adds_54 : decode cX10_adds 54 = .ok (.iadd, 1) := by decide +kernel
theorem dX10_adds_55 : decode cX10_adds 55 = .ok (.iload_n 1, 1) := by decide +kernel
theorem dX10_adds_56 : decode cX10_adds 56 = .ok (.iastore, 1) := by decide +kernel
theorem dX10_adds_57 : decode cX10_adds 57 = .ok (.aload_n 0, 1) := by decide +kernel
theorem dX10_adds_58 : decode cX10_adds 58 = .ok (.getfield 9, 3) := by decide +kernel
theorem dX10_adds_61 : decode cX10_adds 61 = .ok (.iload_n 2, 1) := by decide +kernel
theorem dX10_adds_62 : decode cX10_adds 62 = .ok (.iconst 1, 1) := by decide +kernel
theorem dX10_adds_63 : decode cX10_adds 63 = .ok (.iadd, 1) := by decide +kernel
theorem dX10_adds_64 : decode cX10_adds 64 = .ok (.iconst 0, 1) := by decide +kernel
theorem dX10_adds_65 : decode cX10_adds 65 = .ok (.iastore, 1) := by decide +kernel
theorem dX10_adds_66 : decode cX10_adds 66 = .ok (.aload_n 0, 1) := by decide +kernel
theorem dX10_adds_67 : decode cX10_adds 67 = .ok (.getfield 9, 3) := by decide +kernel
theorem dX10_adds_70 : decode cX10_adds 70 = .ok (.iload_n 2, 1) := by decide +kernel
theorem dX10_adds_71 : decode cX10_adds 71 = .ok (.iconst 2, 1) := by decide +kernel
theorem dX10_adds_72 : decode cX10_adds 72 = .ok (.iadd, 1) := by decide +kernel
theorem dX10_adds_73 : decode cX10_adds 73 = .ok (.iconst 0, 1) := by decide +kernel
theorem dX10_adds_74 : decode cX10_adds 74 = .ok (.iastore, 1) := by decide +kernel
theorem dX10_adds_75 : decode cX10_adds 75 = .ok (.aload_n 0, 1) := by decide +kernel
theorem dX10_adds_76 : decode cX10_adds 76 = .ok (.getfield 9, 3) := by decide +kernel
theorem dX10_adds_79 : decode cX10_adds 79 = .ok (.iconst 2, 1) := by decide +kernel
theorem dX10_adds_80 : decode cX10_adds 80 = .ok (.dup2, 1) := by decide +kernel
theorem dX10_adds_81 : decode cX10_adds 81 = .ok (.iaload, 1) := by decide +kernel
theorem dX10_adds_82 : decode cX10_adds 82 = .ok (.iconst 1, 1) := by decide +kernel
theorem dX10_adds_83 : decode cX10_adds 83 = .ok (.iadd, 1) := by decide +kernel
theorem dX10_adds_84 : decode cX10_adds 84 = .ok (.iastore, 1) := by decide +kernel
theorem dX10_adds_85 : decode cX10_adds 85 = .ok (.aload_n 0, 1) := by decide +kernel
theorem dX10_adds_86 : decode cX10_adds 86 = .ok (.getfield 9, 3) := by decide +kernel
theorem dX10_adds_89 : decode cX10_adds 89 = .ok (.iconst 2, 1) := by decide +kernel
theorem dX10_adds_90 : decode cX10_adds 90 = .ok (.iaload, 1) := by decide +kernel
theorem dX10_adds_91 : decode cX10_adds 91 = .ok (.iconst 1, 1) := by decide +kernel
theorem dX10_adds_92 : decode cX10_adds 92 = .ok (.isub, 1) := by decide +kernel
theorem dX10_adds_93 : decode cX10_adds 93 = .ok (.ireturn, 1) := by decide +kernel
theorem dX10_addLake_0 : decode cX10_addLake 0 = .ok (.aload_n 0, 1) := by decide +kernel
theorem dX10_addLake_1 : decode cX10_addLake 1 = .ok (.invokevirtual 97, 3) := by decide +kernel
theorem dX10_addLake_4 : decode cX10_addLake 4 = .ok (.aload_n 0, 1) := by decide +kernel
theorem dX10_addLake_5 : decode cX10_addLake 5 = .ok (.aload_n 0, 1) := by decide +kernel
theorem dX10_addLake_6 : decode cX10_addLake 6 = .ok (.iload_n 1, 1) := by decide +kernel
theorem dX10_addLake_7 : decode cX10_addLake 7 = .ok (.invokevirtual 100, 3) := by decide +kernel
theorem dX10_addLake_10 : decode cX10_addLake 10 = .ok (.invokevirtual 104, 3) := by decide +kernel
theorem dX10_addLake_13 : decode cX10_addLake 13 = .ok (.ireturn, 1) := by decide +kernel
theorem dX10_freezes_0 : decode cX10_freezes 0 = .ok (.iload_n 2, 1) := by decide +kernel
theorem dX10_freezes_1 : decode cX10_freezes 1 = .ok (.iconst 1, 1) := by decide +kernel
theorem dX10_freezes_2 : decode cX10_freezes 2 = .ok (.bipush 50, 2) := by decide +kernel
theorem dX10_freezes_4 : decode cX10_freezes 4 = .ok (.invokestatic 69, 3) := by decide +kernel
theorem dX10_freezes_7 : decode cX10_freezes 7 = .ok (.ifCond .eq 17, 3) := by decide +kernel
theorem dX10_freezes_10 : decode cX10_freezes 10 = .ok (.iload_n 3, 1) := by decide +kernel
theorem dX10_freezes_11 : decode cX10_freezes 11 = .ok (.bipush (-40), 2) := by decide +kernel
theorem dX10_freezes_13 : decode cX10_freezes 13 = .ok (.iconst 0, 1) := by decide +kernel
theorem dX10_freezes_14 : decode cX10_freezes 14 = .ok (.invokestatic 69, 3) := by decide +kernel
theorem dX10_freezes_17 : decode cX10_freezes 17 = .ok (.ifCond .eq 7, 3) := by decide +kernel
theorem dX10_freezes_20 : decode cX10_freezes 20 = .ok (.iconst 1, 1) := by decide +kernel
theorem dX10_freezes_21 : decode cX10_freezes 21 = .ok (.goto 4, 3) := by decide +kernel
theorem dX10_freezes_24 : decode cX10_freezes 24 = .ok (.iconst 0, 1) := by decide +kernel
theorem dX10_freezes_25 : decode cX10_freezes 25 = .ok (.istore 4, 2) := by decide +kernel
theorem dX10_freezes_27 : decode cX10_freezes 27 = .ok (.aload_n 0, 1) := by decide +kernel
theorem dX10_freezes_28 : decode cX10_freezes 28 = .ok (.iload_n 1, 1) := by decide +kernel
theorem dX10_freezes_29 : decode cX10_freezes 29 = .ok (.iconst 2, 1) := by decide +kernel
theorem dX10_freezes_30 : decode cX10_freezes 30 = .ok (.invokevirtual 77, 3) := by decide +kernel
theorem dX10_freezes_33 : decode cX10_freezes 33 = .ok (.istore 5, 2) := by decide +kernel
theorem dX10_freezes_35 : decode cX10_freezes 35 = .ok (.iload 4, 2) := by decide +kernel
theorem dX10_freezes_37 : decode cX10_freezes 37 = .ok (.ifCond .eq 25, 3) := by decide +kernel
theorem dX10_freezes_40 : decode cX10_freezes 40 = .ok (.iconst 2, 1) := by decide +kernel
theorem dX10_freezes_41 : decode cX10_freezes 41 = .ok (.aload_n 0, 1) := by decide +kernel
theorem dX10_freezes_42 : decode cX10_freezes 42 = .ok (.iload_n 1, 1) := by decide +kernel
theorem dX10_freezes_43 : decode cX10_freezes 43 = .ok (.invokevirtual 107, 3) := by decide +kernel
theorem dX10_freezes_46 : decode cX10_freezes 46 = .ok (.iload_n 2, 1) := by decide +kernel
theorem dX10_freezes_47 : decode cX10_freezes 47 = .ok (.iadd, 1) := by decide +kernel
theorem dX10_freezes_48 : decode cX10_freezes 48 = .ok (.imul, 1) := by decide +kernel
theorem dX10_freezes_49 : decode cX10_freezes 49 = .ok (.aload_n 0, 1) := by decide +kernel
theorem dX10_freezes_50 : decode cX10_freezes 50 = .ok (.iload_n 1, 1) := by decide +kernel
theorem dX10_freezes_51 : decode cX10_freezes 51 = .ok (.iconst 0, 1) := by decide +kernel
theorem dX10_freezes_52 : decode cX10_freezes 52 = .ok (.invokevirtual 77, 3) := by decide +kernel
theorem dX10_freezes_55 : decode cX10_freezes 55 = .ok (.if_icmp .gt 7, 3) := by decide +kernel
theorem dX10_freezes_58 : decode cX10_freezes 58 = .ok (.iconst 1, 1) := by decide +kernel
theorem dX10_freezes_59 : decode cX10_freezes 59 = .ok (.goto 4, 3) := by decide +kernel
theorem dX10_freezes_62 : decode cX10_freezes 62 = .ok (.iconst 0, 1) := by decide +kernel
theorem dX10_freezes_63 : decode cX10_freezes 63 = .ok (.istore 6, 2) := by decide +kernel
theorem dX10_freezes_65 : decode cX10_freezes 65 = .ok (.aload_n 0, 1) := by decide +kernel
theorem dX10_freezes_66 : decode cX10_freezes 66 = .ok (.aload_n 0, 1) := by decide +kernel
theorem dX10_freezes_67 : decode cX10_freezes 67 = .ok (.iload_n 1, 1) := by decide +kernel
theorem dX10_freezes_68 : decode cX10_freezes 68 = .ok (.invokevirtual 73, 3) := by decide +kernel
theorem dX10_freezes_71 : decode cX10_freezes 71 = .ok (.iload 4, 2) := by decide +kernel
theorem dX10_freezes_73 : decode cX10_freezes 73 = .ok (.iload 5, 2) := by decide +kernel
theorem dX10_freezes_75 : decode cX10_freezes 75 = .ok (.bipush 8, 2) := by decide +kernel
theorem dX10_freezes_77 : decode cX10_freezes 77 = .ok (.if_icmp .ge 7, 3) := by decide +kernel
theorem dX10_freezes_80 : decode cX10_freezes 80 = .ok (.iconst 1, 1) := by decide +kernel
theorem dX10_freezes_81 : decode cX10_freezes 81 = .ok (.goto 4, 3) := by decide +kernel
theorem dX10_freezes_84 : decode cX10_freezes 84 = .ok (.iconst 0, 1) := by decide +kernel
theorem dX10_freezes_85 : decode cX10_freezes 85 = .ok (.iload 6, 2) := by decide +kernel
theorem dX10_freezes_87 : decode cX10_freezes 87 = .ok (.invokevirtual 47, 3) := by decide +kernel
theorem dX10_freezes_90 : decode cX10_freezes 90 = .ok (.ifCond .ne 5, 3) := by decide +kernel
theorem dX10_freezes_93 : decode cX10_freezes 93 = .ok (.iconst 0, 1) := by decide +kernel
theorem dX10_freezes_94 : decode cX10_freezes 94 = .ok (.ireturn, 1) := by decide +kernel
theorem dX10_freezes_95 : decode cX10_freezes 95 = .ok (.iload_n 1, 1) := by decide +kernel
theorem dX10_freezes_96 : decode cX10_freezes 96 = .ok (.iload 5, 2) := by decide +kernel
theorem dX10_freezes_98 : decode cX10_freezes 98 = .ok (.invokestatic 85, 3) := by decide +kernel
theorem dX10_freezes_101 : decode cX10_freezes 101 = .ok (.istore 7, 2) := by decide +kernel
theorem dX10_freezes_103 : decode cX10_freezes 103 = .ok (.aload_n 0, 1) := by decide +kernel
theorem dX10_freezes_104 : decode cX10_freezes 104 = .ok (.getfield 9, 3) := by decide +kernel
theorem dX10_freezes_107 : decode cX10_freezes 107 = .ok (.iload 7, 2) := by decide +kernel
theorem dX10_freezes_109 : decode cX10_freezes 109 = .ok (.iconst 0, 1) := by decide +kernel
theorem dX10_freezes_110 : decode cX10_freezes 110 = .ok (.iadd, 1) := by decide +kernel
theorem dX10_freezes_111 : decode cX10_freezes 111 = .ok (.iload_n 2, 1) := by decide +kernel
theorem dX10_freezes_112 : decode cX10_freezes 112 = .ok (.iastore, 1) := by decide +kernel
theorem dX10_freezes_113 : decode cX10_freezes 113 = .ok (.aload_n 0, 1) := by decide +kernel
theorem dX10_freezes_114 : decode cX10_freezes 114 = .ok (.getfield 9, 3) := by decide +kernel
theorem dX10_freezes_117 : decode cX10_freezes 117 = .ok (.iload 7, 2) := by decide +kernel
theorem dX10_freezes_119 : decode cX10_freezes 119 = .ok (.iconst 1, 1) := by decide +kernel
theorem dX10_freezes_120 : decode cX10_freezes 120 = .ok (.iadd, 1) := by decide +kernel
theorem dX10_freezes_121 : decode cX10_freezes 121 = .ok (.iload_n 3, 1) := by decide +kernel
theorem dX10_freezes_122 : decode cX10_freezes 122 = .ok (.iastore, 1) := by decide +kernel
theorem dX10_freezes_123 : decode cX10_freezes 123 = .ok (.aload_n 0, 1) := by decide +kernel
theorem dX10_freezes_124 : decode cX10_freezes 124 = .ok (.getfield 9, 3) := by decide +kernel
theorem dX10_freezes_127 : decode cX10_freezes 127 = .ok (.iload 7, 2) := by decide +kernel
theorem dX10_freezes_129 : decode cX10_freezes 129 = .ok (.iconst 2, 1) := by decide +kernel
theorem dX10_freezes_130 : decode cX10_freezes 130 = .ok (.iadd, 1) := by decide +kernel
theorem dX10_freezes_131 : decode cX10_freezes 131 = .ok (.iconst 0, 1) := by decide +kernel
theorem dX10_freezes_132 : decode cX10_freezes 132 = .ok (.iastore, 1) := by decide +kernel
theorem dX10_freezes_133 : decode cX10_freezes 133 = .ok (.aload_n 0, 1) := by decide +kernel
theorem dX10_freezes_134 : decode cX10_freezes 134 = .ok (.getfield 9, 3) := by decide +kernel
theorem dX10_freezes_137 : decode cX10_freezes 137 = .ok (.bipush 7, 2) := by decide +kernel
theorem dX10_freezes_139 : decode cX10_freezes 139 = .ok (.bipush 27, 2) := by decide +kernel
theorem dX10_freezes_141 : decode cX10_freezes 141 = .ok (.iload_n 1, 1) := by decide +kernel
theorem dX10_freezes_142 : decode cX10_freezes 142 = .ok (.imul, 1) := by decide +kernel
theorem dX10_freezes_143 : decode cX10_freezes 143 = .ok (.iadd, 1) := by decide +kernel
theorem dX10_freezes_144 : decode cX10_freezes 144 = .ok (.iconst 2, 1) := by decide +kernel
theorem dX10_freezes_145 : decode cX10_freezes 145 = .ok (.iadd, 1) := by decide +kernel
theorem dX10_freezes_146 : decode cX10_freezes 146 = .ok (.dup2, 1) := by decide +kernel
theorem dX10_freezes_147 : decode cX10_freezes 147 = .ok (.iaload, 1) := by decide +kernel
theorem dX10_freezes_148 : decode cX10_freezes 148 = .ok (.iconst 1, 1) := by decide +kernel
theorem dX10_freezes_149 : decode cX10_freezes 149 = .ok (.iadd, 1) := by decide +kernel
theorem dX10_freezes_150 : decode cX10_freezes 150 = .ok (.iastore, 1) := by decide +kernel
theorem dX10_freezes_151 : decode cX10_freezes 151 = .ok (.aload_n 0, 1) := by decide +kernel
theorem dX10_freezes_152 : decode cX10_freezes 152 = .ok (.getfield 9, 3) := by decide +kernel
theorem dX10_freezes_155 : decode cX10_freezes 155 = .ok (.iconst 5, 1) := by decide +kernel
theorem dX10_freezes_156 : decode cX10_freezes 156 = .ok (.dup2, 1) := by decide +kernel
theorem dX10_freezes_157 : decode cX10_freezes 157 = .ok (.iaload, 1) := by decide +kernel
theorem dX10_freezes_158 : decode cX10_freezes 158 = .ok (.iload_n 2, 1) := by decide +kernel
theorem dX10_freezes_159 : decode cX10_freezes 159 = .ok (.iadd, 1) := by decide +kernel
theorem dX10_freezes_160 : decode cX10_freezes 160 = .ok (.iastore, 1) := by decide +kernel
theorem dX10_freezes_161 : decode cX10_freezes 161 = .ok (.iload 5, 2) := by decide +kernel
theorem dX10_freezes_163 : decode cX10_freezes 163 = .ok (.iconst 1, 1) := by decide +kernel
theorem dX10_freezes_164 : decode cX10_freezes 164 = .ok (.iadd, 1) := by decide +kernel
theorem dX10_freezes_165 : decode cX10_freezes 165 = .ok (.ireturn, 1) := by decide +kernel
theorem dX10_freeze_0 : decode cX10_freeze 0 = .ok (.aload_n 0, 1) := by decide +kernel
theorem dX10_freeze_1 : decode cX10_freeze 1 = .ok (.invokevirtual 97, 3) := by decide +kernel
theorem dX10_freeze_4 : decode cX10_freeze 4 = .ok (.aload_n 0, 1) := by decide +kernel
theorem dX10_freeze_5 : decode cX10_freeze 5 = .ok (.aload_n 0, 1) := by decide +kernel
theorem dX10_freeze_6 : decode cX10_freeze 6 = .ok (.iload_n 1, 1) := by decide +kernel
theorem dX10_freeze_7 : decode cX10_freeze 7 = .ok (.iload_n 2, 1) := by decide +kernel
theorem dX10_freeze_8 : decode cX10_freeze 8 = .ok (.iload_n 3, 1) := by decide +kernel
theorem dX10_freeze_9 : decode cX10_freeze 9 = .ok (.invokevirtual 110, 3) := by decide +kernel
theorem dX10_freeze_12 : decode cX10_freeze 12 = .ok (.invokevirtual 104, 3) := by decide +kernel
theorem dX10_freeze_15 : decode cX10_freeze 15 = .ok (.ireturn, 1) := by decide +kernel
theorem dX10_airs_0 : decode cX10_airs 0 = .ok (.aload_n 0, 1) := by decide +kernel
theorem dX10_airs_1 : decode cX10_airs 1 = .ok (.getfield 9, 3) := by decide +kernel
theorem dX10_airs_4 : decode cX10_airs 4 = .ok (.iconst 1, 1) := by decide +kernel
theorem dX10_airs_5 : decode cX10_airs 5 = .ok (.iaload, 1) := by decide +kernel
theorem dX10_airs_6 : decode cX10_airs 6 = .ok (.istore_n 2, 1) := by decide +kernel
theorem dX10_airs_7 : decode cX10_airs 7 = .ok (.aload_n 0, 1) := by decide +kernel
theorem dX10_airs_8 : decode cX10_airs 8 = .ok (.iload_n 1, 1) := by decide +kernel
theorem dX10_airs_9 : decode cX10_airs 9 = .ok (.bipush (-40), 2) := by decide +kernel
theorem dX10_airs_11 : decode cX10_airs 11 = .ok (.bipush 20, 2) := by decide +kernel
theorem dX10_airs_13 : decode cX10_airs 13 = .ok (.invokestatic 69, 3) := by decide +kernel
theorem dX10_airs_16 : decode cX10_airs 16 = .ok (.invokevirtual 61, 3) := by decide +kernel
theorem dX10_airs_19 : decode cX10_airs 19 = .ok (.ifCond .eq 10, 3) := by decide +kernel
theorem dX10_airs_22 : decode cX10_airs 22 = .ok (.aload_n 0, 1) := by decide +kernel
theorem dX10_airs_23 : decode cX10_airs 23 = .ok (.getfield 9, 3) := by decide +kernel
theorem dX10_airs_26 : decode cX10_airs 26 = .ok (.iconst 1, 1) := by decide +kernel
theorem dX10_airs_27 : decode cX10_airs 27 = .ok (.iload_n 1, 1) := by decide +kernel
theorem dX10_airs_28 : decode cX10_airs 28 = .ok (.iastore, 1) := by decide +kernel
theorem dX10_airs_29 : decode cX10_airs 29 = .ok (.iload_n 2, 1) := by decide +kernel
theorem dX10_airs_30 : decode cX10_airs 30 = .ok (.ireturn, 1) := by decide +kernel
theorem dX10_setAir_0 : decode cX10_setAir 0 = .ok (.aload_n 0, 1) := by decide +kernel
theorem dX10_setAir_1 : decode cX10_setAir 1 = .ok (.invokevirtual 97, 3) := by decide +kernel
theorem dX10_setAir_4 : decode cX10_setAir 4 = .ok (.aload_n 0, 1) := by decide +kernel
theorem dX10_setAir_5 : decode cX10_setAir 5 = .ok (.aload_n 0, 1) := by decide +kernel
theorem dX10_setAir_6 : decode cX10_setAir 6 = .ok (.iload_n 1, 1) := by decide +kernel
theorem dX10_setAir_7 : decode cX10_setAir 7 = .ok (.invokevirtual 113, 3) := by decide +kernel
theorem dX10_setAir_10 : decode cX10_setAir 10 = .ok (.invokevirtual 104, 3) := by decide +kernel
theorem dX10_setAir_13 : decode cX10_setAir 13 = .ok (.ireturn, 1) := by decide +kernel
theorem dX10_opens_0 : decode cX10_opens 0 = .ok (.iload_n 1, 1) := by decide +kernel
theorem dX10_opens_1 : decode cX10_opens 1 = .ok (.iload_n 2, 1) := by decide +kernel
theorem dX10_opens_2 : decode cX10_opens 2 = .ok (.if_icmp .gt 14, 3) := by decide +kernel
theorem dX10_opens_5 : decode cX10_opens 5 = .ok (.iload_n 1, 1) := by decide +kernel
theorem dX10_opens_6 : decode cX10_opens 6 = .ok (.sipush 9999, 3) := by decide +kernel
theorem dX10_opens_9 : decode cX10_opens 9 = .ok (.if_icmp .gt 7, 3) := by decide +kernel
theorem dX10_opens_12 : decode cX10_opens 12 = .ok (.iconst 1, 1) := by decide +kernel
theorem dX10_opens_13 : decode cX10_opens 13 = .ok (.goto 4, 3) := by decide +kernel
theorem dX10_opens_16 : decode cX10_opens 16 = .ok (.iconst 0, 1) := by decide +kernel
theorem dX10_opens_17 : decode cX10_opens 17 = .ok (.istore_n 3, 1) := by decide +kernel
theorem dX10_opens_18 : decode cX10_opens 18 = .ok (.iconst 1, 1) := by decide +kernel
theorem dX10_opens_19 : decode cX10_opens 19 = .ok (.istore 4, 2) := by decide +kernel
theorem dX10_opens_21 : decode cX10_opens 21 = .ok (.iconst 0, 1) := by decide +kernel
theorem dX10_opens_22 : decode cX10_opens 22 = .ok (.istore 5, 2) := by decide +kernel
theorem dX10_opens_24 : decode cX10_opens 24 = .ok (.iconst 0, 1) := by decide +kernel
theorem dX10_opens_25 : decode cX10_opens 25 = .ok (.istore 6, 2) := by decide +kernel
theorem dX10_opens_27 : decode cX10_opens 27 = .ok (.iload 6, 2) := by decide +kernel
theorem dX10_opens_29 : decode cX10_opens 29 = .ok (.aload_n 0, 1) := by decide +kernel
theorem dX10_opens_30 : decode cX10_opens 30 = .ok (.getfield 9, 3) := by decide +kernel
theorem dX10_opens_33 : decode cX10_opens 33 = .ok (.iconst 3, 1) := by decide +kernel
theorem dX10_opens_34 : decode cX10_opens 34 = .ok (.iaload, 1) := by decide +kernel
theorem dX10_opens_35 : decode cX10_opens 35 = .ok (.if_icmp .ge 80, 3) := by decide +kernel
theorem dX10_opens_38 : decode cX10_opens 38 = .ok (.sipush 142, 3) := by decide +kernel
theorem dX10_opens_41 : decode cX10_opens 41 = .ok (.iconst 2, 1) := by decide +kernel
theorem dX10_opens_42 : decode cX10_opens 42 = .ok (.iload 6, 2) := by decide +kernel
theorem dX10_opens_44 : decode cX10_opens 44 = .ok (.imul, 1) := by decide +kernel
theorem dX10_opens_45 : decode cX10_opens 45 = .ok (.iadd, 1) := by decide +kernel
theorem dX10_opens_46 : decode cX10_opens 46 = .ok (.istore 7, 2) := by decide +kernel
theorem dX10_opens_48 : decode cX10_opens 48 = .ok (.iload 4, 2) := by decide +kernel
theorem dX10_opens_50 : decode cX10_opens 50 = .ok (.ifCond .eq 33, 3) := by decide +kernel
theorem dX10_opens_53 : decode cX10_opens 53 = .ok (.iload_n 2, 1) := by decide +kernel
theorem dX10_opens_54 : decode cX10_opens 54 = .ok (.aload_n 0, 1) := by decide +kernel
theorem dX10_opens_55 : decode cX10_opens 55 = .ok (.getfield 9, 3) := by decide +kernel
theorem dX10_opens_58 : decode cX10_opens 58 = .ok (.iload 7, 2) := by decide +kernel
theorem dX10_opens_60 : decode cX10_opens 60 = .ok (.iconst 0, 1) := by decide +kernel
theorem dX10_opens_61 : decode cX10_opens 61 = .ok (.iadd, 1) := by decide +kernel
theorem dX10_opens_62 : decode cX10_opens 62 = .ok (.iaload, 1) := by decide +kernel
theorem dX10_opens_63 : decode cX10_opens 63 = .ok (.if_icmp .lt 16, 3) := by decide +kernel
theorem dX10_opens_66 : decode cX10_opens 66 = .ok (.iload_n 1, 1) := by decide +kernel
theorem dX10_opens_67 : decode cX10_opens 67 = .ok (.aload_n 0, 1) := by decide +kernel
theorem dX10_opens_68 : decode cX10_opens 68 = .ok (.getfield 9, 3) := by decide +kernel
theorem dX10_opens_71 : decode cX10_opens 71 = .ok (.iload 7, 2) := by decide +kernel
theorem dX10_opens_73 : decode cX10_opens 73 = .ok (.iconst 1, 1) := by decide +kernel
theorem dX10_opens_74 : decode cX10_opens 74 = .ok (.iadd, 1) := by decide +kernel
theorem dX10_opens_75 : decode cX10_opens 75 = .ok (.iaload, 1) := by decide +kernel
theorem dX10_opens_76 : decode cX10_opens 76 = .ok (.if_icmp .le 7, 3) := by decide +kernel
theorem dX10_opens_79 : decode cX10_opens 79 = .ok (.iconst 1, 1) := by decide +kernel
theorem dX10_opens_80 : decode cX10_opens 80 = .ok (.goto 4, 3) := by decide +kernel
theorem dX10_opens_83 : decode cX10_opens 83 = .ok (.iconst 0, 1) := by decide +kernel
theorem dX10_opens_84 : decode cX10_opens 84 = .ok (.istore 4, 2) := by decide +kernel
theorem dX10_opens_86 : decode cX10_opens 86 = .ok (.iload 5, 2) := by decide +kernel
theorem dX10_opens_88 : decode cX10_opens 88 = .ok (.aload_n 0, 1) := by decide +kernel
theorem dX10_opens_89 : decode cX10_opens 89 = .ok (.getfield 9, 3) := by decide +kernel
theorem dX10_opens_92 : decode cX10_opens 92 = .ok (.iload 7, 2) := by decide +kernel
theorem dX10_opens_94 : decode cX10_opens 94 = .ok (.iconst 0, 1) := by decide +kernel
theorem dX10_opens_95 : decode cX10_opens 95 = .ok (.iadd, 1) := by decide +kernel
theorem dX10_opens_96 : decode cX10_opens 96 = .ok (.iaload, 1) := by decide +kernel
theorem dX10_opens_97 : decode cX10_opens 97 = .ok (.iload_n 1, 1) := by decide +kernel
theorem dX10_opens_98 : decode cX10_opens 98 = .ok (.if_icmp .ge 7, 3) := by decide +kernel
theorem dX10_opens_101 : decode cX10_opens 101 = .ok (.iconst 1, 1) := by decide +kernel
theorem dX10_opens_102 : decode cX10_opens 102 = .ok (.goto 4, 3) := by decide +kernel
theorem dX10_opens_105 : decode cX10_opens 105 = .ok (.iconst 0, 1) := by decide +kernel
theorem dX10_opens_106 : decode cX10_opens 106 = .ok (.iadd, 1) := by decide +kernel
theorem dX10_opens_107 : decode cX10_opens 107 = .ok (.istore 5, 2) := by decide +kernel
theorem dX10_opens_109 : decode cX10_opens 109 = .ok (.iinc 6 1, 3) := by decide +kernel
theorem dX10_opens_112 : decode cX10_opens 112 = .ok (.goto (-85), 3) := by decide +kernel
theorem dX10_opens_115 : decode cX10_opens 115 = .ok (.aload_n 0, 1) := by decide +kernel
theorem dX10_opens_116 : decode cX10_opens 116 = .ok (.iload_n 3, 1) := by decide +kernel
theorem dX10_opens_117 : decode cX10_opens 117 = .ok (.aload_n 0, 1) := by decide +kernel
theorem dX10_opens_118 : decode cX10_opens 118 = .ok (.getfield 9, 3) := by decide +kernel
theorem dX10_opens_121 : decode cX10_opens 121 = .ok (.iconst 3, 1) := by decide +kernel
theorem dX10_opens_122 : decode cX10_opens 122 = .ok (.iaload, 1) := by decide +kernel
theorem dX10_opens_123 : decode cX10_opens 123 = .ok (.bipush 6, 2) := by decide +kernel
theorem dX10_opens_125 : decode cX10_opens 125 = .ok (.if_icmp .ge 17, 3) := by decide +kernel
theorem dX10_opens_128 : decode cX10_opens 128 = .ok (.iload_n 1, 1) := by decide +kernel
theorem dX10_opens_129 : decode cX10_opens 129 = .ok (.aload_n 0, 1) := by decide +kernel
theorem dX10_opens_130 : decode cX10_opens 130 = .ok (.getfield 9, 3) := by decide +kernel
theorem dX10_opens_133 : decode cX10_opens 133 = .ok (.iconst 0, 1) := by decide +kernel
theorem dX10_opens_134 : decode cX10_opens 134 = .ok (.iaload, 1) := by decide +kernel
theorem dX10_opens_135 : decode cX10_opens 135 = .ok (.if_icmp .le 7, 3) := by decide +kernel
theorem dX10_opens_138 : decode cX10_opens 138 = .ok (.iconst 1, 1) := by decide +kernel
theorem dX10_opens_139 : decode cX10_opens 139 = .ok (.goto 4, 3) := by decide +kernel
theorem dX10_opens_142 : decode cX10_opens 142 = .ok (.iconst 0, 1) := by decide +kernel
theorem dX10_opens_143 : decode cX10_opens 143 = .ok (.iload 4, 2) := by decide +kernel
theorem dX10_opens_145 : decode cX10_opens 145 = .ok (.iconst 1, 1) := by decide +kernel
theorem dX10_opens_146 : decode cX10_opens 146 = .ok (.invokevirtual 47, 3) := by decide +kernel
theorem dX10_opens_149 : decode cX10_opens 149 = .ok (.ifCond .ne 5, 3) := by decide +kernel
theorem dX10_opens_152 : decode cX10_opens 152 = .ok (.iconst 0, 1) := by decide +kernel
theorem dX10_opens_153 : decode cX10_opens 153 = .ok (.ireturn, 1) := by decide +kernel
theorem dX10_opens_154 : decode cX10_opens 154 = .ok (.sipush 153, 3) := by decide +kernel
theorem dX10_opens_157 : decode cX10_opens 157 = .ok (.istore 6, 2) := by decide +kernel
theorem dX10_opens_159 : decode cX10_opens 159 = .ok (.iload 6, 2) := by decide +kernel
theorem dX10_opens_161 : decode cX10_opens 161 = .ok (.sipush 142, 3) := by decide +kernel
theorem dX10_opens_164 : decode cX10_opens 164 = .ok (.iconst 2, 1) := by decide +kernel
theorem dX10_opens_165 : decode cX10_opens 165 = .ok (.iload 5, 2) := by decide +kernel
theorem dX10_opens_167 : decode cX10_opens 167 = .ok (.iconst 1, 1) := by decide +kernel
theorem dX10_opens_168 : decode cX10_opens 168 = .ok (.iadd, 1) := by decide +kernel
theorem dX10_opens_169 : decode cX10_opens 169 = .ok (.imul, 1) := by decide +kernel
theorem dX10_opens_170 : decode cX10_opens 170 = .ok (.iadd, 1) := by decide +kernel
theorem dX10_opens_171 : decode cX10_opens 171 = .ok (.if_icmp .lt 25, 3) := by decide +kernel
theorem dX10_opens_174 : decode cX10_opens 174 = .ok (.aload_n 0, 1) := by decide +kernel
theorem dX10_opens_175 : decode cX10_opens 175 = .ok (.getfield 9, 3) := by decide +kernel
theorem dX10_opens_178 : decode cX10_opens 178 = .ok (.iload 6, 2) := by decide +kernel
theorem dX10_opens_180 : decode cX10_opens 180 = .ok (.aload_n 0, 1) := by decide +kernel
theorem dX10_opens_181 : decode cX10_opens 181 = .ok (.getfield 9, 3) := by decide +kernel
theorem dX10_opens_184 : decode cX10_opens 184 = .ok (.iload 6, 2) := by decide +kernel
theorem dX10_opens_186 : decode cX10_opens 186 = .ok (.iconst 2, 1) := by decide +kernel
theorem dX10_opens_187 : decode cX10_opens 187 = .ok (.isub, 1) := by decide +kernel
theorem dX10_opens_188 : decode cX10_opens 188 = .ok (.iaload, 1) := by decide +kernel
theorem dX10_opens_189 : decode cX10_opens 189 = .ok (.iastore, 1) := by decide +kernel
theorem dX10_opens_190 : decode cX10_opens 190 = .ok (.iinc 6 (-1), 3) := by decide +kernel
theorem dX10_opens_193 : decode cX10_opens 193 = .ok (.goto (-34), 3) := by decide +kernel
theorem dX10_opens_196 : decode cX10_opens 196 = .ok (.aload_n 0, 1) := by decide +kernel
theorem dX10_opens_197 : decode cX10_opens 197 = .ok (.getfield 9, 3) := by decide +kernel
theorem dX10_opens_200 : decode cX10_opens 200 = .ok (.sipush 142, 3) := by decide +kernel
theorem dX10_opens_203 : decode cX10_opens 203 = .ok (.iconst 2, 1) := by decide +kernel
theorem dX10_opens_204 : decode cX10_opens 204 = .ok (.iload 5, 2) := by decide +kernel
theorem dX10_opens_206 : decode cX10_opens 206 = .ok (.imul, 1) := by decide +kernel
theorem dX10_opens_207 : decode cX10_opens 207 = .ok (.iadd, 1) := by decide +kernel
theorem dX10_opens_208 : decode cX10_opens 208 = .ok (.iconst 0, 1) := by decide +kernel
theorem dX10_opens_209 : decode cX10_opens 209 = .ok (.iadd, 1) := by decide +kernel
theorem dX10_opens_210 : decode cX10_opens 210 = .ok (.iload_n 1, 1) := by decide +kernel
theorem dX10_opens_211 : decode cX10_opens 211 = .ok (.iastore, 1) := by decide +kernel
theorem dX10_opens_212 : decode cX10_opens 212 = .ok (.aload_n 0, 1) := by decide +kernel
theorem dX10_opens_213 : decode cX10_opens 213 = .ok (.getfield 9, 3) := by decide +kernel
theorem dX10_opens_216 : decode cX10_opens 216 = .ok (.sipush 142, 3) := by decide +kernel
theorem dX10_opens_219 : decode cX10_opens 219 = .ok (.iconst 2, 1) := by decide +kernel
theorem dX10_opens_220 : decode cX10_opens 220 = .ok (.iload 5, 2) := by decide +kernel
theorem dX10_opens_222 : decode cX10_opens 222 = .ok (.imul, 1) := by decide +kernel
theorem dX10_opens_223 : decode cX10_opens 223 = .ok (.iadd, 1) := by decide +kernel
theorem dX10_opens_224 : decode cX10_opens 224 = .ok (.iconst 1, 1) := by decide +kernel
theorem dX10_opens_225 : decode cX10_opens 225 = .ok (.iadd, 1) := by decide +kernel
theorem dX10_opens_226 : decode cX10_opens 226 = .ok (.iload_n 2, 1) := by decide +kernel
theorem dX10_opens_227 : decode cX10_opens 227 = .ok (.iastore, 1) := by decide +kernel
theorem dX10_opens_228 : decode cX10_opens 228 = .ok (.aload_n 0, 1) := by decide +kernel
theorem dX10_opens_229 : decode cX10_opens 229 = .ok (.getfield 9, 3) := by decide +kernel
theorem dX10_opens_232 : decode cX10_opens 232 = .ok (.iconst 3, 1) := by decide +kernel
theorem dX10_opens_233 : decode cX10_opens 233 = .ok (.dup2, 1) := by decide +kernel
theorem dX10_opens_234 : decode cX10_opens 234 = .ok (.iaload, 1) := by decide +kernel
theorem dX10_opens_235 : decode cX10_opens 235 = .ok (.iconst 1, 1) := by decide +kernel
theorem dX10_opens_236 : decode cX10_opens 236 = .ok (.iadd, 1) := by decide +kernel
theorem dX10_opens_237 : decode cX10_opens 237 = .ok (.iastore, 1) := by decide +kernel
theorem dX10_opens_238 : decode cX10_opens 238 = .ok (.aload_n 0, 1) := by decide +kernel
theorem dX10_opens_239 : decode cX10_opens 239 = .ok (.getfield 9, 3) := by decide +kernel
theorem dX10_opens_242 : decode cX10_opens 242 = .ok (.iconst 3, 1) := by decide +kernel
theorem dX10_opens_243 : decode cX10_opens 243 = .ok (.iaload, 1) := by decide +kernel
theorem dX10_opens_244 : decode cX10_opens 244 = .ok (.ireturn, 1) := by decide +kernel
theorem dX10_addWindow_0 : decode cX10_addWindow 0 = .ok (.aload_n 0, 1) := by decide +kernel
theorem dX10_addWindow_1 : decode cX10_addWindow 1 = .ok (.invokevirtual 97, 3) := by decide +kernel
theorem dX10_addWindow_4 : decode cX10_addWindow 4 = .ok (.aload_n 0, 1) := by decide +kernel
theorem dX10_addWindow_5 : decode cX10_addWindow 5 = .ok (.aload_n 0, 1) := by decide +kernel
theorem dX10_addWindow_6 : decode cX10_addWindow 6 = .ok (.iload_n 1, 1) := by decide +kernel
theorem dX10_addWindow_7 : decode cX10_addWindow 7 = .ok (.iload_n 2, 1) := by decide +kernel
theorem dX10_addWindow_8 : decode cX10_addWindow 8 = .ok (.invokevirtual 116, 3) := by decide +kernel
theorem dX10_addWindow_11 : decode cX10_addWindow 11 = .ok (.invokevirtual 104, 3) := by decide +kernel
theorem dX10_addWindow_14 : decode cX10_addWindow 14 = .ok (.ireturn, 1) := by decide +kernel
theorem dX10_shuts_0 : decode cX10_shuts 0 = .ok (.aload_n 0, 1) := by decide +kernel
theorem dX10_shuts_1 : decode cX10_shuts 1 = .ok (.iload_n 1, 1) := by decide +kernel
theorem dX10_shuts_2 : decode cX10_shuts 2 = .ok (.iconst 0, 1) := by decide +kernel
theorem dX10_shuts_3 : decode cX10_shuts 3 = .ok (.aload_n 0, 1) := by decide +kernel
theorem dX10_shuts_4 : decode cX10_shuts 4 = .ok (.getfield 9, 3) := by decide +kernel
theorem dX10_shuts_7 : decode cX10_shuts 7 = .ok (.iconst 3, 1) := by decide +kernel
theorem dX10_shuts_8 : decode cX10_shuts 8 = .ok (.iaload, 1) := by decide +kernel
theorem dX10_shuts_9 : decode cX10_shuts 9 = .ok (.iconst 1, 1) := by decide +kernel
theorem dX10_shuts_10 : decode cX10_shuts 10 = .ok (.isub, 1) := by decide +kernel
theorem dX10_shuts_11 : decode cX10_shuts 11 = .ok (.invokestatic 69, 3) := by decide +kernel
theorem dX10_shuts_14 : decode cX10_shuts 14 = .ok (.invokevirtual 61, 3) := by decide +kernel
theorem dX10_shuts_17 : decode cX10_shuts 17 = .ok (.ifCond .ne 5, 3) := by decide +kernel
theorem dX10_shuts_20 : decode cX10_shuts 20 = .ok (.iconst 0, 1) := by decide +kernel
theorem dX10_shuts_21 : decode cX10_shuts 21 = .ok (.ireturn, 1) := by decide +kernel
theorem dX10_shuts_22 : decode cX10_shuts 22 = .ok (.sipush 142, 3) := by decide +kernel
theorem dX10_shuts_25 : decode cX10_shuts 25 = .ok (.iconst 2, 1) := by decide +kernel
theorem dX10_shuts_26 : decode cX10_shuts 26 = .ok (.iload_n 1, 1) := by decide +kernel
theorem dX10_shuts_27 : decode cX10_shuts 27 = .ok (.imul, 1) := by decide +kernel
theorem dX10_shuts_28 : decode cX10_shuts 28 = .ok (.iadd, 1) := by decide +kernel
theorem dX10_shuts_29 : decode cX10_shuts 29 = .ok (.istore_n 2, 1) := by decide +kernel
theorem dX10_shuts_30 : decode cX10_shuts 30 = .ok (.iload_n 2, 1) := by decide +kernel
theorem dX10_shuts_31 : decode cX10_shuts 31 = .ok (.sipush 152, 3) := by decide +kernel
theorem dX10_shuts_34 : decode cX10_shuts 34 = .ok (.if_icmp .ge 23, 3) := by decide +kernel
theorem dX10_shuts_37 : decode cX10_shuts 37 = .ok (.aload_n 0, 1) := by decide +kernel
theorem dX10_shuts_38 : decode cX10_shuts 38 = .ok (.getfield 9, 3) := by decide +kernel
theorem dX10_shuts_41 : decode cX10_shuts 41 = .ok (.iload_n 2, 1) := by decide +kernel
theorem dX10_shuts_42 : decode cX10_shuts 42 = .ok (.aload_n 0, 1) := by decide +kernel
theorem dX10_shuts_43 : decode cX10_shuts 43 = .ok (.getfield 9, 3) := by decide +kernel
theorem dX10_shuts_46 : decode cX10_shuts 46 = .ok (.iload_n 2, 1) := by decide +kernel
theorem dX10_shuts_47 : decode cX10_shuts 47 = .ok (.iconst 2, 1) := by decide +kernel
theorem dX10_shuts_48 : decode cX10_shuts 48 = .ok (.iadd, 1) := by decide +kernel
theorem dX10_shuts_49 : decode cX10_shuts 49 = .ok (.iaload, 1) := by decide +kernel
theorem dX10_shuts_50 : decode cX10_shuts 50 = .ok (.iastore, 1) := by decide +kernel
theorem dX10_shuts_51 : decode cX10_shuts 51 = .ok (.iinc 2 1, 3) := by decide +kernel
theorem dX10_shuts_54 : decode cX10_shuts 54 = .ok (.goto (-24), 3) := by decide +kernel
theorem dX10_shuts_57 : decode cX10_shuts 57 = .ok (.aload_n 0, 1) := by decide +kernel
theorem dX10_shuts_58 : decode cX10_shuts 58 = .ok (.getfield 9, 3) := by decide +kernel
theorem dX10_shuts_61 : decode cX10_shuts 61 = .ok (.iconst 3, 1) := by decide +kernel
theorem dX10_shuts_62 : decode cX10_shuts 62 = .ok (.dup2, 1) := by decide +kernel
theorem dX10_shuts_63 : decode cX10_shuts 63 = .ok (.iaload, 1) := by decide +kernel
theorem dX10_shuts_64 : decode cX10_shuts 64 = .ok (.iconst 1, 1) := by decide +kernel
theorem dX10_shuts_65 : decode cX10_shuts 65 = .ok (.isub, 1) := by decide +kernel
theorem dX10_shuts_66 : decode cX10_shuts 66 = .ok (.iastore, 1) := by decide +kernel
theorem dX10_shuts_67 : decode cX10_shuts 67 = .ok (.aload_n 0, 1) := by decide +kernel
theorem dX10_shuts_68 : decode cX10_shuts 68 = .ok (.getfield 9, 3) := by decide +kernel
theorem dX10_shuts_71 : decode cX10_shuts 71 = .ok (.iconst 3, 1) := by decide +kernel
theorem dX10_shuts_72 : decode cX10_shuts 72 = .ok (.iaload, 1) := by decide +kernel
theorem dX10_shuts_73 : decode cX10_shuts 73 = .ok (.ireturn, 1) := by decide +kernel
theorem dX10_removeWindow_0 : decode cX10_removeWindow 0 = .ok (.aload_n 0, 1) := by decide +kernel
theorem dX10_removeWindow_1 : decode cX10_removeWindow 1 = .ok (.invokevirtual 97, 3) := by decide +kernel
theorem dX10_removeWindow_4 : decode cX10_removeWindow 4 = .ok (.aload_n 0, 1) := by decide +kernel
theorem dX10_removeWindow_5 : decode cX10_removeWindow 5 = .ok (.aload_n 0, 1) := by decide +kernel
theorem dX10_removeWindow_6 : decode cX10_removeWindow 6 = .ok (.iload_n 1, 1) := by decide +kernel
theorem dX10_removeWindow_7 : decode cX10_removeWindow 7 = .ok (.invokevirtual 119, 3) := by decide +kernel
theorem dX10_removeWindow_10 : decode cX10_removeWindow 10 = .ok (.invokevirtual 104, 3) := by decide +kernel
theorem dX10_removeWindow_13 : decode cX10_removeWindow 13 = .ok (.ireturn, 1) := by decide +kernel
theorem dX10_strikes_0 : decode cX10_strikes 0 = .ok (.aload_n 0, 1) := by decide +kernel
theorem dX10_strikes_1 : decode cX10_strikes 1 = .ok (.aload_n 0, 1) := by decide +kernel
theorem dX10_strikes_2 : decode cX10_strikes 2 = .ok (.iload_n 1, 1) := by decide +kernel
theorem dX10_strikes_3 : decode cX10_strikes 3 = .ok (.iload_n 2, 1) := by decide +kernel
theorem dX10_strikes_4 : decode cX10_strikes 4 = .ok (.invokevirtual 81, 3) := by decide +kernel
theorem dX10_strikes_7 : decode cX10_strikes 7 = .ok (.aload_n 0, 1) := by decide +kernel
theorem dX10_strikes_8 : decode cX10_strikes 8 = .ok (.iload_n 1, 1) := by decide +kernel
theorem dX10_strikes_9 : decode cX10_strikes 9 = .ok (.iload_n 2, 1) := by decide +kernel
theorem dX10_strikes_10 : decode cX10_strikes 10 = .ok (.iconst 1, 1) := by decide +kernel
theorem dX10_strikes_11 : decode cX10_strikes 11 = .ok (.invokevirtual 88, 3) := by decide +kernel
theorem dX10_strikes_14 : decode cX10_strikes 14 = .ok (.ifCond .ge 7, 3) := by decide +kernel
theorem dX10_strikes_17 : decode cX10_strikes 17 = .ok (.iconst 1, 1) := by decide +kernel
theorem dX10_strikes_18 : decode cX10_strikes 18 = .ok (.goto 4, 3) := by decide +kernel
theorem dX10_strikes_21 : decode cX10_strikes 21 = .ok (.iconst 0, 1) := by decide +kernel
theorem dX10_strikes_22 : decode cX10_strikes 22 = .ok (.iconst 1, 1) := by decide +kernel
theorem dX10_strikes_23 : decode cX10_strikes 23 = .ok (.iconst 1, 1) := by decide +kernel
theorem dX10_strikes_24 : decode cX10_strikes 24 = .ok (.invokevirtual 47, 3) := by decide +kernel
theorem dX10_strikes_27 : decode cX10_strikes 27 = .ok (.ifCond .ne 5, 3) := by decide +kernel
theorem dX10_strikes_30 : decode cX10_strikes 30 = .ok (.iconst 0, 1) := by decide +kernel
theorem dX10_strikes_31 : decode cX10_strikes 31 = .ok (.ireturn, 1) := by decide +kernel
theorem dX10_strikes_32 : decode cX10_strikes 32 = .ok (.aload_n 0, 1) := by decide +kernel
theorem dX10_strikes_33 : decode cX10_strikes 33 = .ok (.iload_n 1, 1) := by decide +kernel
theorem dX10_strikes_34 : decode cX10_strikes 34 = .ok (.iload_n 2, 1) := by decide +kernel
theorem dX10_strikes_35 : decode cX10_strikes 35 = .ok (.invokevirtual 122, 3) := by decide +kernel
theorem dX10_strikes_38 : decode cX10_strikes 38 = .ok (.istore_n 3, 1) := by decide +kernel
theorem dX10_strikes_39 : decode cX10_strikes 39 = .ok (.aload_n 0, 1) := by decide +kernel
theorem dX10_strikes_40 : decode cX10_strikes 40 = .ok (.bipush 115, 2) := by decide +kernel
theorem dX10_strikes_42 : decode cX10_strikes 42 = .ok (.iload_n 1, 1) := by decide +kernel
theorem dX10_strikes_43 : decode cX10_strikes 43 = .ok (.iload_n 3, 1) := by decide +kernel
theorem dX10_strikes_44 : decode cX10_strikes 44 = .ok (.invokevirtual 125, 3) := by decide +kernel
theorem dX10_strikes_47 : decode cX10_strikes 47 = .ok (.iload_n 3, 1) := by decide +kernel
theorem dX10_strikes_48 : decode cX10_strikes 48 = .ok (.ireturn, 1) := by decide +kernel
theorem dX10_strike_0 : decode cX10_strike 0 = .ok (.aload_n 0, 1) := by decide +kernel
theorem dX10_strike_1 : decode cX10_strike 1 = .ok (.invokevirtual 97, 3) := by decide +kernel
theorem dX10_strike_4 : decode cX10_strike 4 = .ok (.aload_n 0, 1) := by decide +kernel
theorem dX10_strike_5 : decode cX10_strike 5 = .ok (.aload_n 0, 1) := by decide +kernel
theorem dX10_strike_6 : decode cX10_strike 6 = .ok (.iload_n 1, 1) := by decide +kernel
theorem dX10_strike_7 : decode cX10_strike 7 = .ok (.iload_n 2, 1) := by decide +kernel
theorem dX10_strike_8 : decode cX10_strike 8 = .ok (.invokevirtual 129, 3) := by decide +kernel
theorem dX10_strike_11 : decode cX10_strike 11 = .ok (.invokevirtual 104, 3) := by decide +kernel
theorem dX10_strike_14 : decode cX10_strike 14 = .ok (.ireturn, 1) := by decide +kernel
theorem dX10_warms_0 : decode cX10_warms 0 = .ok (.aload_n 0, 1) := by decide +kernel
theorem dX10_warms_1 : decode cX10_warms 1 = .ok (.iload_n 1, 1) := by decide +kernel
theorem dX10_warms_2 : decode cX10_warms 2 = .ok (.iconst 2, 1) := by decide +kernel
theorem dX10_warms_3 : decode cX10_warms 3 = .ok (.invokevirtual 77, 3) := by decide +kernel
theorem dX10_warms_6 : decode cX10_warms 6 = .ok (.istore_n 2, 1) := by decide +kernel
theorem dX10_warms_7 : decode cX10_warms 7 = .ok (.iconst 0, 1) := by decide +kernel
theorem dX10_warms_8 : decode cX10_warms 8 = .ok (.istore_n 3, 1) := by decide +kernel
theorem dX10_warms_9 : decode cX10_warms 9 = .ok (.iload_n 3, 1) := by decide +kernel
theorem dX10_warms_10 : decode cX10_warms 10 = .ok (.iload_n 2, 1) := by decide +kernel
theorem dX10_warms_11 : decode cX10_warms 11 = .ok (.if_icmp .ge 68, 3) := by decide +kernel
theorem dX10_warms_14 : decode cX10_warms 14 = .ok (.iload_n 3, 1) := by decide +kernel
theorem dX10_warms_15 : decode cX10_warms 15 = .ok (.ifCond .ne 12, 3) := by decide +kernel
theorem dX10_warms_18 : decode cX10_warms 18 = .ok (.aload_n 0, 1) := by decide +kernel
theorem dX10_warms_19 : decode cX10_warms 19 = .ok (.getfield 9, 3) := by decide +kernel
theorem dX10_warms_22 : decode cX10_warms 22 = .ok (.iconst 1, 1) := by decide +kernel
theorem dX10_warms_23 : decode cX10_warms 23 = .ok (.iaload, 1) := by decide +kernel
theorem dX10_warms_24 : decode cX10_warms 24 = .ok (.goto 12, 3) := by decide +kernel
theorem dX10_warms_27 : decode cX10_warms 27 = .ok (.aload_n 0, 1) := by decide +kernel
theorem dX10_warms_28 : decode cX10_warms 28 = .ok (.iload_n 1, 1) := by decide +kernel
theorem dX10_warms_29 : decode cX10_warms 29 = .ok (.iload_n 3, 1) := by decide +kernel
theorem dX10_warms_30 : decode cX10_warms 30 = .ok (.iconst 1, 1) := by decide +kernel
theorem dX10_warms_31 : decode cX10_warms 31 = .ok (.isub, 1) := by decide +kernel
theorem dX10_warms_32 : decode cX10_warms 32 = .ok (.iconst 1, 1) := by decide +kernel
theorem dX10_warms_33 : decode cX10_warms 33 = .ok (.invokevirtual 88, 3) := by decide +kernel
theorem dX10_warms_36 : decode cX10_warms 36 = .ok (.istore 4, 2) := by decide +kernel
theorem dX10_warms_38 : decode cX10_warms 38 = .ok (.iload_n 3, 1) := by decide +kernel
theorem dX10_warms_39 : decode cX10_warms 39 = .ok (.iload_n 2, 1) := by decide +kernel
theorem dX10_warms_40 : decode cX10_warms 40 = .ok (.iconst 1, 1) := by decide +kernel
theorem dX10_warms_41 : decode cX10_warms 41 = .ok (.isub, 1) := by decide +kernel
theorem dX10_warms_42 : decode cX10_warms 42 = .ok (.if_icmp .ne 7, 3) := by decide +kernel
theorem dX10_warms_45 : decode cX10_warms 45 = .ok (.iconst 0, 1) := by decide +kernel
theorem dX10_warms_46 : decode cX10_warms 46 = .ok (.goto 12, 3) := by decide +kernel
theorem dX10_warms_49 : decode cX10_warms 49 = .ok (.aload_n 0, 1) := by decide +kernel
theorem dX10_warms_50 : decode cX10_warms 50 = .ok (.iload_n 1, 1) := by decide +kernel
theorem dX10_warms_51 : decode cX10_warms 51 = .ok (.iload_n 3, 1) := by decide +kernel
theorem dX10_warms_52 : decode cX10_warms 52 = .ok (.iconst 1, 1) := by decide +kernel
theorem dX10_warms_53 : decode cX10_warms 53 = .ok (.iadd, 1) := by decide +kernel
theorem dX10_warms_54 : decode cX10_warms 54 = .ok (.iconst 1, 1) := by decide +kernel
theorem dX10_warms_55 : decode cX10_warms 55 = .ok (.invokevirtual 88, 3) := by decide +kernel
theorem dX10_warms_58 : decode cX10_warms 58 = .ok (.istore 5, 2) := by decide +kernel
theorem dX10_warms_60 : decode cX10_warms 60 = .ok (.aload_n 0, 1) := by decide +kernel
theorem dX10_warms_61 : decode cX10_warms 61 = .ok (.getfield 32, 3) := by decide +kernel
theorem dX10_warms_64 : decode cX10_warms 64 = .ok (.iload_n 3, 1) := by decide +kernel
theorem dX10_warms_65 : decode cX10_warms 65 = .ok (.iload 4, 2) := by decide +kernel
theorem dX10_warms_67 : decode cX10_warms 67 = .ok (.iload 5, 2) := by decide +kernel
theorem dX10_warms_69 : decode cX10_warms 69 = .ok (.iadd, 1) := by decide +kernel
theorem dX10_warms_70 : decode cX10_warms 70 = .ok (.iconst 2, 1) := by decide +kernel
theorem dX10_warms_71 : decode cX10_warms 71 = .ok (.idiv, 1) := by decide +kernel
theorem dX10_warms_72 : decode cX10_warms 72 = .ok (.iastore, 1) := by decide +kernel
theorem dX10_warms_73 : decode cX10_warms 73 = .ok (.iinc 3 1, 3) := by decide +kernel
theorem dX10_warms_76 : decode cX10_warms 76 = .ok (.goto (-67), 3) := by decide +kernel
theorem dX10_warms_79 : decode cX10_warms 79 = .ok (.iconst 0, 1) := by decide +kernel
theorem dX10_warms_80 : decode cX10_warms 80 = .ok (.istore_n 3, 1) := by decide +kernel
theorem dX10_warms_81 : decode cX10_warms 81 = .ok (.iload_n 3, 1) := by decide +kernel
theorem dX10_warms_82 : decode cX10_warms 82 = .ok (.iload_n 2, 1) := by decide +kernel
theorem dX10_warms_83 : decode cX10_warms 83 = .ok (.if_icmp .ge 79, 3) := by decide +kernel
theorem dX10_warms_86 : decode cX10_warms 86 = .ok (.iload_n 1, 1) := by decide +kernel
theorem dX10_warms_87 : decode cX10_warms 87 = .ok (.iload_n 3, 1) := by decide +kernel
theorem dX10_warms_88 : decode cX10_warms 88 = .ok (.invokestatic 85, 3) := by decide +kernel
theorem dX10_warms_91 : decode cX10_warms 91 = .ok (.iconst 1, 1) := by decide +kernel
theorem dX10_warms_92 : decode cX10_warms 92 = .ok (.iadd, 1) := by decide +kernel
theorem dX10_warms_93 : decode cX10_warms 93 = .ok (.istore 4, 2) := by decide +kernel
theorem dX10_warms_95 : decode cX10_warms 95 = .ok (.aload_n 0, 1) := by decide +kernel
theorem dX10_warms_96 : decode cX10_warms 96 = .ok (.getfield 9, 3) := by decide +kernel
theorem dX10_warms_99 : decode cX10_warms 99 = .ok (.iload 4, 2) := by decide +kernel
theorem dX10_warms_101 : decode cX10_warms 101 = .ok (.dup2, 1) := by decide +kernel
theorem dX10_warms_102 : decode cX10_warms 102 = .ok (.iaload, 1) := by decide +kernel
theorem dX10_warms_103 : decode cX10_warms 103 = .ok (.aload_n 0, 1) := by decide +kernel
theorem dX10_warms_104 : decode cX10_warms 104 = .ok (.getfield 9, 3) := by decide +kernel
theorem dX10_warms_107 : decode cX10_warms 107 = .ok (.iload 4, 2) := by decide +kernel
theorem dX10_warms_109 : decode cX10_warms 109 = .ok (.iaload, 1) := by decide +kernel
theorem dX10_warms_110 : decode cX10_warms 110 = .ok (.aload_n 0, 1) := by decide +kernel
theorem dX10_warms_111 : decode cX10_warms 111 = .ok (.getfield 32, 3) := by decide +kernel
theorem dX10_warms_114 : decode cX10_warms 114 = .ok (.iload_n 3, 1) := by decide +kernel
theorem dX10_warms_115 : decode cX10_warms 115 = .ok (.iaload, 1) := by decide +kernel
theorem dX10_warms_116 : decode cX10_warms 116 = .ok (.if_icmp .ge 17, 3) := by decide +kernel
theorem dX10_warms_119 : decode cX10_warms 119 = .ok (.aload_n 0, 1) := by decide +kernel
theorem dX10_warms_120 : decode cX10_warms 120 = .ok (.getfield 9, 3) := by decide +kernel
theorem dX10_warms_123 : decode cX10_warms 123 = .ok (.iload 4, 2) := by decide +kernel
theorem dX10_warms_125 : decode cX10_warms 125 = .ok (.iaload, 1) := by decide +kernel
theorem dX10_warms_126 : decode cX10_warms 126 = .ok (.ifCond .ge 7, 3) := by decide +kernel
theorem dX10_warms_129 : decode cX10_warms 129 = .ok (.iconst 1, 1) := by decide +kernel
theorem dX10_warms_130 : decode cX10_warms 130 = .ok (.goto 24, 3) := by decide +kernel
theorem dX10_warms_133 : decode cX10_warms 133 = .ok (.aload_n 0, 1) := by decide +kernel
theorem dX10_warms_134 : decode cX10_warms 134 = .ok (.getfield 9, 3) := by decide +kernel
theorem dX10_warms_137 : decode cX10_warms 137 = .ok (.iload 4, 2) := by decide +kernel
theorem dX10_warms_139 : decode cX10_warms 139 = .ok (.iaload, 1) := by decide +kernel
theorem dX10_warms_140 : decode cX10_warms 140 = .ok (.aload_n 0, 1) := by decide +kernel
theorem dX10_warms_141 : decode cX10_warms 141 = .ok (.getfield 32, 3) := by decide +kernel
theorem dX10_warms_144 : decode cX10_warms 144 = .ok (.iload_n 3, 1) := by decide +kernel
theorem dX10_warms_145 : decode cX10_warms 145 = .ok (.iaload, 1) := by decide +kernel
theorem dX10_warms_146 : decode cX10_warms 146 = .ok (.if_icmp .le 7, 3) := by decide +kernel
theorem dX10_warms_149 : decode cX10_warms 149 = .ok (.iconst (-1), 1) := by decide +kernel
theorem dX10_warms_150 : decode cX10_warms 150 = .ok (.goto 4, 3) := by decide +kernel
theorem dX10_warms_153 : decode cX10_warms 153 = .ok (.iconst 0, 1) := by decide +kernel
theorem dX10_warms_154 : decode cX10_warms 154 = .ok (.iadd, 1) := by decide +kernel
theorem dX10_warms_155 : decode cX10_warms 155 = .ok (.iastore, 1) := by decide +kernel
theorem dX10_warms_156 : decode cX10_warms 156 = .ok (.iinc 3 1, 3) := by decide +kernel
theorem dX10_warms_159 : decode cX10_warms 159 = .ok (.goto (-78), 3) := by decide +kernel
theorem dX10_warms_162 : decode cX10_warms 162 = .ok (.return_, 1) := by decide +kernel
theorem dX10_strains_0 : decode cX10_strains 0 = .ok (.aload_n 0, 1) := by decide +kernel
theorem dX10_strains_1 : decode cX10_strains 1 = .ok (.iload_n 1, 1) := by decide +kernel
theorem dX10_strains_2 : decode cX10_strains 2 = .ok (.iconst 2, 1) := by decide +kernel
theorem dX10_strains_3 : decode cX10_strains 3 = .ok (.invokevirtual 77, 3) := by decide +kernel
theorem dX10_strains_6 : decode cX10_strains 6 = .ok (.istore_n 2, 1) := by decide +kernel
theorem dX10_strains_7 : decode cX10_strains 7 = .ok (.iconst 0, 1) := by decide +kernel
theorem dX10_strains_8 : decode cX10_strains 8 = .ok (.istore_n 3, 1) := by decide +kernel
theorem dX10_strains_9 : decode cX10_strains 9 = .ok (.iload_n 3, 1) := by decide +kernel
theorem dX10_strains_10 : decode cX10_strains 10 = .ok (.iload_n 2, 1) := by decide +kernel
theorem dX10_strains_11 : decode cX10_strains 11 = .ok (.if_icmp .ge 59, 3) := by decide +kernel
theorem dX10_strains_14 : decode cX10_strains 14 = .ok (.iload_n 3, 1) := by decide +kernel
theorem dX10_strains_15 : decode cX10_strains 15 = .ok (.iload_n 2, 1) := by decide +kernel
theorem dX10_strains_16 : decode cX10_strains 16 = .ok (.iconst 1, 1) := by decide +kernel
theorem dX10_strains_17 : decode cX10_strains 17 = .ok (.isub, 1) := by decide +kernel
theorem dX10_strains_18 : decode cX10_strains 18 = .ok (.if_icmp .ne 7, 3) := by decide +kernel
theorem dX10_strains_21 : decode cX10_strains 21 = .ok (.iconst 0, 1) := by decide +kernel
theorem dX10_strains_22 : decode cX10_strains 22 = .ok (.goto 12, 3) := by decide +kernel
theorem dX10_strains_25 : decode cX10_strains 25 = .ok (.aload_n 0, 1) := by decide +kernel
theorem dX10_strains_26 : decode cX10_strains 26 = .ok (.iload_n 1, 1) := by decide +kernel
theorem dX10_strains_27 : decode cX10_strains 27 = .ok (.iload_n 3, 1) := by decide +kernel
theorem dX10_strains_28 : decode cX10_strains 28 = .ok (.iconst 1, 1) := by decide +kernel
theorem dX10_strains_29 : decode cX10_strains 29 = .ok (.iadd, 1) := by decide +kernel
theorem dX10_strains_30 : decode cX10_strains 30 = .ok (.iconst 1, 1) := by decide +kernel
theorem dX10_strains_31 : decode cX10_strains 31 = .ok (.invokevirtual 88, 3) := by decide +kernel
theorem dX10_strains_34 : decode cX10_strains 34 = .ok (.istore 4, 2) := by decide +kernel
theorem dX10_strains_36 : decode cX10_strains 36 = .ok (.aload_n 0, 1) := by decide +kernel
theorem dX10_strains_37 : decode cX10_strains 37 = .ok (.getfield 9, 3) := by decide +kernel
theorem dX10_strains_40 : decode cX10_strains 40 = .ok (.iload_n 1, 1) := by decide +kernel
theorem dX10_strains_41 : decode cX10_strains 41 = .ok (.iload_n 3, 1) := by decide +kernel
theorem dX10_strains_42 : decode cX10_strains 42 = .ok (.invokestatic 85, 3) := by decide +kernel
theorem dX10_strains_45 : decode cX10_strains 45 = .ok (.iconst 2, 1) := by decide +kernel
theorem dX10_strains_46 : decode cX10_strains 46 = .ok (.iadd, 1) := by decide +kernel
theorem dX10_strains_47 : decode cX10_strains 47 = .ok (.dup2, 1) := by decide +kernel
theorem dX10_strains_48 : decode cX10_strains 48 = .ok (.iaload, 1) := by decide +kernel
theorem dX10_strains_49 : decode cX10_strains 49 = .ok (.aload_n 0, 1) := by decide +kernel
theorem dX10_strains_50 : decode cX10_strains 50 = .ok (.iload_n 1, 1) := by decide +kernel
theorem dX10_strains_51 : decode cX10_strains 51 = .ok (.iload_n 3, 1) := by decide +kernel
theorem dX10_strains_52 : decode cX10_strains 52 = .ok (.iconst 1, 1) := by decide +kernel
theorem dX10_strains_53 : decode cX10_strains 53 = .ok (.invokevirtual 88, 3) := by decide +kernel
theorem dX10_strains_56 : decode cX10_strains 56 = .ok (.iload 4, 2) := by decide +kernel
theorem dX10_strains_58 : decode cX10_strains 58 = .ok (.isub, 1) := by decide +kernel
theorem dX10_strains_59 : decode cX10_strains 59 = .ok (.invokestatic 132, 3) := by decide +kernel
theorem dX10_strains_62 : decode cX10_strains 62 = .ok (.iadd, 1) := by decide +kernel
theorem dX10_strains_63 : decode cX10_strains 63 = .ok (.iastore, 1) := by decide +kernel
theorem dX10_strains_64 : decode cX10_strains 64 = .ok (.iinc 3 1, 3) := by decide +kernel
theorem dX10_strains_67 : decode cX10_strains 67 = .ok (.goto (-58), 3) := by decide +kernel
theorem dX10_strains_70 : decode cX10_strains 70 = .ok (.return_, 1) := by decide +kernel
theorem dX10_cracks_0 : decode cX10_cracks 0 = .ok (.aload_n 0, 1) := by decide +kernel
theorem dX10_cracks_1 : decode cX10_cracks 1 = .ok (.iload_n 1, 1) := by decide +kernel
theorem dX10_cracks_2 : decode cX10_cracks 2 = .ok (.iconst 2, 1) := by decide +kernel
theorem dX10_cracks_3 : decode cX10_cracks 3 = .ok (.invokevirtual 77, 3) := by decide +kernel
theorem dX10_cracks_6 : decode cX10_cracks 6 = .ok (.istore_n 2, 1) := by decide +kernel
theorem dX10_cracks_7 : decode cX10_cracks 7 = .ok (.iconst 0, 1) := by decide +kernel
theorem dX10_cracks_8 : decode cX10_cracks 8 = .ok (.istore_n 3, 1) := by decide +kernel
theorem dX10_cracks_9 : decode cX10_cracks 9 = .ok (.iconst 0, 1) := by decide +kernel
theorem dX10_cracks_10 : decode cX10_cracks 10 = .ok (.istore 4, 2) := by decide +kernel
theorem dX10_cracks_12 : decode cX10_cracks 12 = .ok (.iload 4, 2) := by decide +kernel
theorem dX10_cracks_14 : decode cX10_cracks 14 = .ok (.iload_n 2, 1) := by decide +kernel
theorem dX10_cracks_15 : decode cX10_cracks 15 = .ok (.if_icmp .ge 140, 3) := by decide +kernel
theorem dX10_cracks_18 : decode cX10_cracks 18 = .ok (.iload_n 1, 1) := by decide +kernel
theorem dX10_cracks_19 : decode cX10_cracks 19 = .ok (.iload 4, 2) := by decide +kernel
theorem dX10_cracks_21 : decode cX10_cracks 21 = .ok (.invokestatic 85, 3) := by decide +kernel
theorem dX10_cracks_24 : decode cX10_cracks 24 = .ok (.iconst 2, 1) := by decide +kernel
theorem dX10_cracks_25 : decode cX10_cracks 25 = .ok (.iadd, 1) := by decide +kernel
theorem dX10_cracks_26 : decode cX10_cracks 26 = .ok (.istore 5, 2) := by decide +kernel
theorem dX10_cracks_28 : decode cX10_cracks 28 = .ok (.aload_n 0, 1) := by decide +kernel
theorem dX10_cracks_29 : decode cX10_cracks 29 = .ok (.getfield 9, 3) := by decide +kernel
theorem dX10_cracks_32 : decode cX10_cracks 32 = .ok (.iload 5, 2) := by decide +kernel
theorem dX10_cracks_34 : decode cX10_cracks 34 = .ok (.iaload, 1) := by decide +kernel
theorem dX10_cracks_35 : decode cX10_cracks 35 = .ok (.bipush 30, 2) := by decide +kernel
theorem dX10_cracks_37 : decode cX10_cracks 37 = .ok (.if_icmp .lt 112, 3) := by decide +kernel
theorem dX10_cracks_40 : decode cX10_cracks 40 = .ok (.aload_n 0, 1) := by decide +kernel
theorem dX10_cracks_41 : decode cX10_cracks 41 = .ok (.bipush 99, 2) := by decide +kernel
theorem dX10_cracks_43 : decode cX10_cracks 43 = .ok (.iload_n 1, 1) := by decide +kernel
theorem dX10_cracks_44 : decode cX10_cracks 44 = .ok (.aload_n 0, 1) := by decide +kernel
theorem dX10_cracks_45 : decode cX10_cracks 45 = .ok (.iload_n 1, 1) := by decide +kernel
theorem dX10_cracks_46 : decode cX10_cracks 46 = .ok (.iload 4, 2) := by decide +kernel
theorem dX10_cracks_48 : decode cX10_cracks 48 = .ok (.iconst 1, 1) := by decide +kernel
theorem dX10_cracks_49 : decode cX10_cracks 49 = .ok (.invokevirtual 88, 3) := by decide +kernel
theorem dX10_cracks_52 : decode cX10_cracks 52 = .ok (.ifCond .ne 7, 3) := by decide +kernel
theorem dX10_cracks_55 : decode cX10_cracks 55 = .ok (.iconst 0, 1) := by decide +kernel
theorem dX10_cracks_56 : decode cX10_cracks 56 = .ok (.goto 10, 3) := by decide +kernel
theorem dX10_cracks_59 : decode cX10_cracks 59 = .ok (.aload_n 0, 1) := by decide +kernel
theorem dX10_cracks_60 : decode cX10_cracks 60 = .ok (.iload_n 1, 1) := by decide +kernel
theorem dX10_cracks_61 : decode cX10_cracks 61 = .ok (.iload 4, 2) := by decide +kernel
theorem dX10_cracks_63 : decode cX10_cracks 63 = .ok (.invokevirtual 122, 3) := by decide +kernel
theorem dX10_cracks_66 : decode cX10_cracks 66 = .ok (.invokevirtual 125, 3) := by decide +kernel
theorem dX10_cracks_69 : decode cX10_cracks 69 = .ok (.aload_n 0, 1) := by decide +kernel
theorem dX10_cracks_70 : decode cX10_cracks 70 = .ok (.getfield 9, 3) := by decide +kernel
theorem dX10_cracks_73 : decode cX10_cracks 73 = .ok (.iload 5, 2) := by decide +kernel
theorem dX10_cracks_75 : decode cX10_cracks 75 = .ok (.iconst 0, 1) := by decide +kernel
theorem dX10_cracks_76 : decode cX10_cracks 76 = .ok (.iastore, 1) := by decide +kernel
theorem dX10_cracks_77 : decode cX10_cracks 77 = .ok (.aload_n 0, 1) := by decide +kernel
theorem dX10_cracks_78 : decode cX10_cracks 78 = .ok (.getfield 9, 3) := by decide +kernel
theorem dX10_cracks_81 : decode cX10_cracks 81 = .ok (.iload_n 1, 1) := by decide +kernel
theorem dX10_cracks_82 : decode cX10_cracks 82 = .ok (.iconst 0, 1) := by decide +kernel
theorem dX10_cracks_83 : decode cX10_cracks 83 = .ok (.iload 4, 2) := by decide +kernel
theorem dX10_cracks_85 : decode cX10_cracks 85 = .ok (.iconst 1, 1) := by decide +kernel
theorem dX10_cracks_86 : decode cX10_cracks 86 = .ok (.isub, 1) := by decide +kernel
theorem dX10_cracks_87 : decode cX10_cracks 87 = .ok (.invokestatic 135, 3) := by decide +kernel
theorem dX10_cracks_90 : decode cX10_cracks 90 = .ok (.invokestatic 85, 3) := by decide +kernel
theorem dX10_cracks_93 : decode cX10_cracks 93 = .ok (.iconst 2, 1) := by decide +kernel
theorem dX10_cracks_94 : decode cX10_cracks 94 = .ok (.iadd, 1) := by decide +kernel
theorem dX10_cracks_95 : decode cX10_cracks 95 = .ok (.dup2, 1) := by decide +kernel
theorem dX10_cracks_96 : decode cX10_cracks 96 = .ok (.iaload, 1) := by decide +kernel
theorem dX10_cracks_97 : decode cX10_cracks 97 = .ok (.iload 4, 2) := by decide +kernel
theorem dX10_cracks_99 : decode cX10_cracks 99 = .ok (.ifCond .le 7, 3) := by decide +kernel
theorem dX10_cracks_102 : decode cX10_cracks 102 = .ok (.iconst 5, 1) := by decide +kernel
theorem dX10_cracks_103 : decode cX10_cracks 103 = .ok (.goto 4, 3) := by decide +kernel
theorem dX10_cracks_106 : decode cX10_cracks 106 = .ok (.iconst 0, 1) := by decide +kernel
theorem dX10_cracks_107 : decode cX10_cracks 107 = .ok (.iadd, 1) := by decide +kernel
theorem dX10_cracks_108 : decode cX10_cracks 108 = .ok (.iastore, 1) := by decide +kernel
theorem dX10_cracks_109 : decode cX10_cracks 109 = .ok (.aload_n 0, 1) := by decide +kernel
theorem dX10_cracks_110 : decode cX10_cracks 110 = .ok (.getfield 9, 3) := by decide +kernel
theorem dX10_cracks_113 : decode cX10_cracks 113 = .ok (.iload_n 1, 1) := by decide +kernel
theorem dX10_cracks_114 : decode cX10_cracks 114 = .ok (.iload_n 2, 1) := by decide +kernel
theorem dX10_cracks_115 : decode cX10_cracks 115 = .ok (.iconst 1, 1) := by decide +kernel
theorem dX10_cracks_116 : decode cX10_cracks 116 = .ok (.isub, 1) := by decide +kernel
theorem dX10_cracks_117 : decode cX10_cracks 117 = .ok (.iload 4, 2) := by decide +kernel
theorem dX10_cracks_119 : decode cX10_cracks 119 = .ok (.iconst 1, 1) := by decide +kernel
theorem dX10_cracks_120 : decode cX10_cracks 120 = .ok (.iadd, 1) := by decide +kernel
theorem dX10_cracks_121 : decode cX10_cracks 121 = .ok (.invokestatic 92, 3) := by decide +kernel
theorem dX10_cracks_124 : decode cX10_cracks 124 = .ok (.invokestatic 85, 3) := by decide +kernel
theorem dX10_cracks_127 : decode cX10_cracks 127 = .ok (.iconst 2, 1) := by decide +kernel
theorem dX10_cracks_128 : decode cX10_cracks 128 = .ok (.iadd, 1) := by decide +kernel
theorem dX10_cracks_129 : decode cX10_cracks 129 = .ok (.dup2, 1) := by decide +kernel
theorem dX10_cracks_130 : decode cX10_cracks 130 = .ok (.iaload, 1) := by decide +kernel
theorem dX10_cracks_131 : decode cX10_cracks 131 = .ok (.iload 4, 2) := by decide +kernel
theorem dX10_cracks_133 : decode cX10_cracks 133 = .ok (.iconst 1, 1) := by decide +kernel
theorem dX10_cracks_134 : decode cX10_cracks 134 = .ok (.iadd, 1) := by decide +kernel
theorem dX10_cracks_135 : decode cX10_cracks 135 = .ok (.iload_n 2, 1) := by decide +kernel
theorem dX10_cracks_136 : decode cX10_cracks 136 = .ok (.if_icmp .ge 7, 3) := by decide +kernel
theorem dX10_cracks_139 : decode cX10_cracks 139 = .ok (.iconst 5, 1) := by decide +kernel
theorem dX10_cracks_140 : decode cX10_cracks 140 = .ok (.goto 4, 3) := by decide +kernel
theorem dX10_cracks_143 : decode cX10_cracks 143 = .ok (.iconst 0, 1) := by decide +kernel
theorem dX10_cracks_144 : decode cX10_cracks 144 = .ok (.iadd, 1) := by decide +kernel
theorem dX10_cracks_145 : decode cX10_cracks 145 = .ok (.iastore, 1) := by decide +kernel
theorem dX10_cracks_146 : decode cX10_cracks 146 = .ok (.iinc 3 1, 3) := by decide +kernel
theorem dX10_cracks_149 : decode cX10_cracks 149 = .ok (.iinc 4 1, 3) := by decide +kernel
theorem dX10_cracks_152 : decode cX10_cracks 152 = .ok (.goto (-140), 3) := by decide +kernel
theorem dX10_cracks_155 : decode cX10_cracks 155 = .ok (.aload_n 0, 1) := by decide +kernel
theorem dX10_cracks_156 : decode cX10_cracks 156 = .ok (.getfield 9, 3) := by decide +kernel
theorem dX10_cracks_159 : decode cX10_cracks 159 = .ok (.bipush 7, 2) := by decide +kernel
theorem dX10_cracks_161 : decode cX10_cracks 161 = .ok (.bipush 27, 2) := by decide +kernel
theorem dX10_cracks_163 : decode cX10_cracks 163 = .ok (.iload_n 1, 1) := by decide +kernel
theorem dX10_cracks_164 : decode cX10_cracks 164 = .ok (.imul, 1) := by decide +kernel
theorem dX10_cracks_165 : decode cX10_cracks 165 = .ok (.iadd, 1) := by decide +kernel
theorem dX10_cracks_166 : decode cX10_cracks 166 = .ok (.iconst 1, 1) := by decide +kernel
theorem dX10_cracks_167 : decode cX10_cracks 167 = .ok (.iadd, 1) := by decide +kernel
theorem dX10_cracks_168 : decode cX10_cracks 168 = .ok (.dup2, 1) := by decide +kernel
theorem dX10_cracks_169 : decode cX10_cracks 169 = .ok (.iaload, 1) := by decide +kernel
theorem dX10_cracks_170 : decode cX10_cracks 170 = .ok (.iload_n 3, 1) := by decide +kernel
theorem dX10_cracks_171 : decode cX10_cracks 171 = .ok (.iadd, 1) := by decide +kernel
theorem dX10_cracks_172 : decode cX10_cracks 172 = .ok (.iastore, 1) := by decide +kernel
theorem dX10_cracks_173 : decode cX10_cracks 173 = .ok (.iload_n 3, 1) := by decide +kernel
theorem dX10_cracks_174 : decode cX10_cracks 174 = .ok (.ireturn, 1) := by decide +kernel
theorem dX10_thaws_0 : decode cX10_thaws 0 = .ok (.iload_n 1, 1) := by decide +kernel
theorem dX10_thaws_1 : decode cX10_thaws 1 = .ok (.iconst 0, 1) := by decide +kernel
theorem dX10_thaws_2 : decode cX10_thaws 2 = .ok (.invokestatic 85, 3) := by decide +kernel
theorem dX10_thaws_5 : decode cX10_thaws 5 = .ok (.istore_n 2, 1) := by decide +kernel
theorem dX10_thaws_6 : decode cX10_thaws 6 = .ok (.aload_n 0, 1) := by decide +kernel
theorem dX10_thaws_7 : decode cX10_thaws 7 = .ok (.getfield 9, 3) := by decide +kernel
theorem dX10_thaws_10 : decode cX10_thaws 10 = .ok (.iconst 1, 1) := by decide +kernel
theorem dX10_thaws_11 : decode cX10_thaws 11 = .ok (.iaload, 1) := by decide +kernel
theorem dX10_thaws_12 : decode cX10_thaws 12 = .ok (.ifCond .le 96, 3) := by decide +kernel
theorem dX10_thaws_15 : decode cX10_thaws 15 = .ok (.aload_n 0, 1) := by decide +kernel
theorem dX10_thaws_16 : decode cX10_thaws 16 = .ok (.getfield 9, 3) := by decide +kernel
theorem dX10_thaws_19 : decode cX10_thaws 19 = .ok (.iload_n 2, 1) := by decide +kernel
theorem dX10_thaws_20 : decode cX10_thaws 20 = .ok (.iconst 1, 1) := by decide +kernel
theorem dX10_thaws_21 : decode cX10_thaws 21 = .ok (.iadd, 1) := by decide +kernel
theorem dX10_thaws_22 : decode cX10_thaws 22 = .ok (.iaload, 1) := by decide +kernel
theorem dX10_thaws_23 : decode cX10_thaws 23 = .ok (.ifCond .ne 85, 3) := by decide +kernel
theorem dX10_thaws_26 : decode cX10_thaws 26 = .ok (.aload_n 0, 1) := by decide +kernel
theorem dX10_thaws_27 : decode cX10_thaws 27 = .ok (.getfield 9, 3) := by decide +kernel
theorem dX10_thaws_30 : decode cX10_thaws 30 = .ok (.iload_n 2, 1) := by decide +kernel
theorem dX10_thaws_31 : decode cX10_thaws 31 = .ok (.iconst 0, 1) := by decide +kernel
theorem dX10_thaws_32 : decode cX10_thaws 32 = .ok (.iadd, 1) := by decide +kernel
theorem dX10_thaws_33 : decode cX10_thaws 33 = .ok (.dup2, 1) := by decide +kernel
theorem dX10_thaws_34 : decode cX10_thaws 34 = .ok (.iaload, 1) := by decide +kernel
theorem dX10_thaws_35 : decode cX10_thaws 35 = .ok (.iconst 1, 1) := by decide +kernel
theorem dX10_thaws_36 : decode cX10_thaws 36 = .ok (.isub, 1) := by decide +kernel
theorem dX10_thaws_37 : decode cX10_thaws 37 = .ok (.iastore, 1) := by decide +kernel
theorem dX10_thaws_38 : decode cX10_thaws 38 = .ok (.aload_n 0, 1) := by decide +kernel
theorem dX10_thaws_39 : decode cX10_thaws 39 = .ok (.getfield 9, 3) := by decide +kernel
theorem dX10_thaws_42 : decode cX10_thaws 42 = .ok (.bipush 6, 2) := by decide +kernel
theorem dX10_thaws_44 : decode cX10_thaws 44 = .ok (.dup2, 1) := by decide +kernel
theorem dX10_thaws_45 : decode cX10_thaws 45 = .ok (.iaload, 1) := by decide +kernel
theorem dX10_thaws_46 : decode cX10_thaws 46 = .ok (.iconst 1, 1) := by decide +kernel
theorem dX10_thaws_47 : decode cX10_thaws 47 = .ok (.iadd, 1) := by decide +kernel
theorem dX10_thaws_48 : decode cX10_thaws 48 = .ok (.iastore, 1) := by decide +kernel
theorem dX10_thaws_49 : decode cX10_thaws 49 = .ok (.aload_n 0, 1) := by decide +kernel
theorem dX10_thaws_50 : decode cX10_thaws 50 = .ok (.getfield 9, 3) := by decide +kernel
theorem dX10_thaws_53 : decode cX10_thaws 53 = .ok (.iload_n 2, 1) := by decide +kernel
theorem dX10_thaws_54 : decode cX10_thaws 54 = .ok (.iconst 0, 1) := by decide +kernel
theorem dX10_thaws_55 : decode cX10_thaws 55 = .ok (.iadd, 1) := by decide +kernel
theorem dX10_thaws_56 : decode cX10_thaws 56 = .ok (.iaload, 1) := by decide +kernel
theorem dX10_thaws_57 : decode cX10_thaws 57 = .ok (.ifCond .ne 51, 3) := by decide +kernel
theorem dX10_thaws_60 : decode cX10_thaws 60 = .ok (.iload_n 2, 1) := by decide +kernel
theorem dX10_thaws_61 : decode cX10_thaws 61 = .ok (.istore_n 3, 1) := by decide +kernel
theorem dX10_thaws_62 : decode cX10_thaws 62 = .ok (.iload_n 3, 1) := by decide +kernel
theorem dX10_thaws_63 : decode cX10_thaws 63 = .ok (.iload_n 2, 1) := by decide +kernel
theorem dX10_thaws_64 : decode cX10_thaws 64 = .ok (.bipush 21, 2) := by decide +kernel
theorem dX10_thaws_66 : decode cX10_thaws 66 = .ok (.iadd, 1) := by decide +kernel
theorem dX10_thaws_67 : decode cX10_thaws 67 = .ok (.if_icmp .ge 23, 3) := by decide +kernel
theorem dX10_thaws_70 : decode cX10_thaws 70 = .ok (.aload_n 0, 1) := by decide +kernel
theorem dX10_thaws_71 : decode cX10_thaws 71 = .ok (.getfield 9, 3) := by decide +kernel
theorem dX10_thaws_74 : decode cX10_thaws 74 = .ok (.iload_n 3, 1) := by decide +kernel
theorem dX10_thaws_75 : decode cX10_thaws 75 = .ok (.aload_n 0, 1) := by decide +kernel
theorem dX10_thaws_76 : decode cX10_thaws 76 = .ok (.getfield 9, 3) := by decide +kernel
theorem dX10_thaws_79 : decode cX10_thaws 79 = .ok (.iload_n 3, 1) := by decide +kernel
theorem dX10_thaws_80 : decode cX10_thaws 80 = .ok (.iconst 3, 1) := by decide +kernel
theorem dX10_thaws_81 : decode cX10_thaws 81 = .ok (.iadd, 1) := by decide +kernel
theorem dX10_thaws_82 : decode cX10_thaws 82 = .ok (.iaload, 1) := by decide +kernel
theorem dX10_thaws_83 : decode cX10_thaws 83 = .ok (.iastore, 1) := by decide +kernel
theorem dX10_thaws_84 : decode cX10_thaws 84 = .ok (.iinc 3 1, 3) := by decide +kernel
theorem dX10_thaws_87 : decode cX10_thaws 87 = .ok (.goto (-25), 3) := by decide +kernel
theorem dX10_thaws_90 : decode cX10_thaws 90 = .ok (.aload_n 0, 1) := by decide +kernel
theorem dX10_thaws_91 : decode cX10_thaws 91 = .ok (.getfield 9, 3) := by decide +kernel
theorem dX10_thaws_94 : decode cX10_thaws 94 = .ok (.bipush 7, 2) := by decide +kernel
theorem dX10_thaws_96 : decode cX10_thaws 96 = .ok (.bipush 27, 2) := by decide +kernel
theorem dX10_thaws_98 : decode cX10_thaws 98 = .ok (.iload_n 1, 1) := by decide +kernel
theorem dX10_thaws_99 : decode cX10_thaws 99 = .ok (.imul, 1) := by decide +kernel
theorem dX10_thaws_100 : decode cX10_thaws 100 = .ok (.iadd, 1) := by decide +kernel
theorem dX10_thaws_101 : decode cX10_thaws 101 = .ok (.iconst 2, 1) := by decide +kernel
theorem dX10_thaws_102 : decode cX10_thaws 102 = .ok (.iadd, 1) := by decide +kernel
theorem dX10_thaws_103 : decode cX10_thaws 103 = .ok (.dup2, 1) := by decide +kernel
theorem dX10_thaws_104 : decode cX10_thaws 104 = .ok (.iaload, 1) := by decide +kernel
theorem dX10_thaws_105 : decode cX10_thaws 105 = .ok (.iconst 1, 1) := by decide +kernel
theorem dX10_thaws_106 : decode cX10_thaws 106 = .ok (.isub, 1) := by decide +kernel
theorem dX10_thaws_107 : decode cX10_thaws 107 = .ok (.iastore, 1) := by decide +kernel
theorem dX10_thaws_108 : decode cX10_thaws 108 = .ok (.return_, 1) := by decide +kernel
theorem dX10_passes_0 : decode cX10_passes 0 = .ok (.aload_n 0, 1) := by decide +kernel
theorem dX10_passes_1 : decode cX10_passes 1 = .ok (.getfield 9, 3) := by decide +kernel
theorem dX10_passes_4 : decode cX10_passes 4 = .ok (.iconst 0, 1) := by decide +kernel
theorem dX10_passes_5 : decode cX10_passes 5 = .ok (.dup2, 1) := by decide +kernel
theorem dX10_passes_6 : decode cX10_passes 6 = .ok (.iaload, 1) := by decide +kernel
theorem dX10_passes_7 : decode cX10_passes 7 = .ok (.iconst 1, 1) := by decide +kernel
theorem dX10_passes_8 : decode cX10_passes 8 = .ok (.iadd, 1) := by decide +kernel
theorem dX10_passes_9 : decode cX10_passes 9 = .ok (.iastore, 1) := by decide +kernel
theorem dX10_passes_10 : decode cX10_passes 10 = .ok (.aload_n 0, 1) := by decide +kernel
theorem dX10_passes_11 : decode cX10_passes 11 = .ok (.aload_n 0, 1) := by decide +kernel
theorem dX10_passes_12 : decode cX10_passes 12 = .ok (.getfield 9, 3) := by decide +kernel
theorem dX10_passes_15 : decode cX10_passes 15 = .ok (.iconst 0, 1) := by decide +kernel
theorem dX10_passes_16 : decode cX10_passes 16 = .ok (.iaload, 1) := by decide +kernel
theorem dX10_passes_17 : decode cX10_passes 17 = .ok (.invokevirtual 138, 3) := by decide +kernel
theorem dX10_passes_20 : decode cX10_passes 20 = .ok (.istore_n 1, 1) := by decide +kernel
theorem dX10_passes_21 : decode cX10_passes 21 = .ok (.iconst 0, 1) := by decide +kernel
theorem dX10_passes_22 : decode cX10_passes 22 = .ok (.istore_n 2, 1) := by decide +kernel
theorem dX10_passes_23 : decode cX10_passes 23 = .ok (.iconst 0, 1) := by decide +kernel
theorem dX10_passes_24 : decode cX10_passes 24 = .ok (.istore_n 3, 1) := by decide +kernel
theorem dX10_passes_25 : decode cX10_passes 25 = .ok (.iload_n 3, 1) := by decide +kernel
theorem dX10_passes_26 : decode cX10_passes 26 = .ok (.aload_n 0, 1) := by decide +kernel
theorem dX10_passes_27 : decode cX10_passes 27 = .ok (.getfield 9, 3) := by decide +kernel
theorem dX10_passes_30 : decode cX10_passes 30 = .ok (.iconst 2, 1) := by decide +kernel
theorem dX10_passes_31 : decode cX10_passes 31 = .ok (.iaload, 1) := by decide +kernel
theorem dX10_passes_32 : decode cX10_passes 32 = .ok (.if_icmp .ge 45, 3) := by decide +kernel
theorem dX10_passes_35 : decode cX10_passes 35 = .ok (.aload_n 0, 1) := by decide +kernel
theorem dX10_passes_36 : decode cX10_passes 36 = .ok (.iload_n 3, 1) := by decide +kernel
theorem dX10_passes_37 : decode cX10_passes 37 = .ok (.iconst 2, 1) := by decide +kernel
theorem dX10_passes_38 : decode cX10_passes 38 = .ok (.invokevirtual 77, 3) := by decide +kernel
theorem dX10_passes_41 : decode cX10_passes 41 = .ok (.ifCond .le 30, 3) := by decide +kernel
theorem dX10_passes_44 : decode cX10_passes 44 = .ok (.aload_n 0, 1) := by decide +kernel
theorem dX10_passes_45 : decode cX10_passes 45 = .ok (.iload_n 3, 1) := by decide +kernel
theorem dX10_passes_46 : decode cX10_passes 46 = .ok (.invokevirtual 141, 3) := by decide +kernel
theorem dX10_passes_49 : decode cX10_passes 49 = .ok (.iload_n 1, 1) := by decide +kernel
theorem dX10_passes_50 : decode cX10_passes 50 = .ok (.ifCond .ne 8, 3) := by decide +kernel
theorem dX10_passes_53 : decode cX10_passes 53 = .ok (.aload_n 0, 1) := by decide +kernel
theorem dX10_passes_54 : decode cX10_passes 54 = .ok (.iload_n 3, 1) := by decide +kernel
theorem dX10_passes_55 : decode cX10_passes 55 = .ok (.invokevirtual 145, 3) := by decide +kernel
theorem dX10_passes_58 : decode cX10_passes 58 = .ok (.iload_n 2, 1) := by decide +kernel
theorem dX10_passes_59 : decode cX10_passes 59 = .ok (.aload_n 0, 1) := by decide +kernel
theorem dX10_passes_60 : decode cX10_passes 60 = .ok (.iload_n 3, 1) := by decide +kernel
theorem dX10_passes_61 : decode cX10_passes 61 = .ok (.invokevirtual 148, 3) := by decide +kernel
theorem dX10_passes_64 : decode cX10_passes 64 = .ok (.iadd, 1) := by decide +kernel
theorem dX10_passes_65 : decode cX10_passes 65 = .ok (.istore_n 2, 1) := by decide +kernel
theorem dX10_passes_66 : decode cX10_passes 66 = .ok (.aload_n 0, 1) := by decide +kernel
theorem dX10_passes_67 : decode cX10_passes 67 = .ok (.iload_n 3, 1) := by decide +kernel
theorem dX10_passes_68 : decode cX10_passes 68 = .ok (.invokevirtual 151, 3) := by decide +kernel
theorem dX10_passes_71 : decode cX10_passes 71 = .ok (.iinc 3 1, 3) := by decide +kernel
theorem dX10_passes_74 : decode cX10_passes 74 = .ok (.goto (-49), 3) := by decide +kernel
theorem dX10_passes_77 : decode cX10_passes 77 = .ok (.iload_n 2, 1) := by decide +kernel
theorem dX10_passes_78 : decode cX10_passes 78 = .ok (.ireturn, 1) := by decide +kernel
theorem dX10_waits_0 : decode cX10_waits 0 = .ok (.aload_n 0, 1) := by decide +kernel
theorem dX10_waits_1 : decode cX10_waits 1 = .ok (.iload_n 1, 1) := by decide +kernel
theorem dX10_waits_2 : decode cX10_waits 2 = .ok (.iconst 1, 1) := by decide +kernel
theorem dX10_waits_3 : decode cX10_waits 3 = .ok (.bipush 48, 2) := by decide +kernel
theorem dX10_waits_5 : decode cX10_waits 5 = .ok (.invokestatic 69, 3) := by decide +kernel
theorem dX10_waits_8 : decode cX10_waits 8 = .ok (.invokevirtual 61, 3) := by decide +kernel
theorem dX10_waits_11 : decode cX10_waits 11 = .ok (.ifCond .ne 5, 3) := by decide +kernel
theorem dX10_waits_14 : decode cX10_waits 14 = .ok (.iconst 0, 1) := by decide +kernel
theorem dX10_waits_15 : decode cX10_waits 15 = .ok (.ireturn, 1) := by decide +kernel
theorem dX10_waits_16 : decode cX10_waits 16 = .ok (.iconst 0, 1) := by decide +kernel
theorem dX10_waits_17 : decode cX10_waits 17 = .ok (.istore_n 2, 1) := by decide +kernel
theorem dX10_waits_18 : decode cX10_waits 18 = .ok (.iconst 0, 1) := by decide +kernel
theorem dX10_waits_19 : decode cX10_waits 19 = .ok (.istore_n 3, 1) := by decide +kernel
theorem dX10_waits_20 : decode cX10_waits 20 = .ok (.iload_n 3, 1) := by decide +kernel
theorem dX10_waits_21 : decode cX10_waits 21 = .ok (.iload_n 1, 1) := by decide +kernel
theorem dX10_waits_22 : decode cX10_waits 22 = .ok (.if_icmp .ge 16, 3) := by decide +kernel
theorem dX10_waits_25 : decode cX10_waits 25 = .ok (.iload_n 2, 1) := by decide +kernel
theorem dX10_waits_26 : decode cX10_waits 26 = .ok (.aload_n 0, 1) := by decide +kernel
theorem dX10_waits_27 : decode cX10_waits 27 = .ok (.invokevirtual 154, 3) := by decide +kernel
theorem dX10_waits_30 : decode cX10_waits 30 = .ok (.iadd, 1) := by decide +kernel
theorem dX10_waits_31 : decode cX10_waits 31 = .ok (.istore_n 2, 1) := by decide +kernel
theorem dX10_waits_32 : decode cX10_waits 32 = .ok (.iinc 3 1, 3) := by decide +kernel
theorem dX10_waits_35 : decode cX10_waits 35 = .ok (.goto (-15), 3) := by decide +kernel
theorem dX10_waits_38 : decode cX10_waits 38 = .ok (.iload_n 2, 1) := by decide +kernel
theorem dX10_waits_39 : decode cX10_waits 39 = .ok (.ireturn, 1) := by decide +kernel
theorem dX10_pass_0 : decode cX10_pass 0 = .ok (.aload_n 0, 1) := by decide +kernel
theorem dX10_pass_1 : decode cX10_pass 1 = .ok (.invokevirtual 97, 3) := by decide +kernel
theorem dX10_pass_4 : decode cX10_pass 4 = .ok (.aload_n 0, 1) := by decide +kernel
theorem dX10_pass_5 : decode cX10_pass 5 = .ok (.aload_n 0, 1) := by decide +kernel
theorem dX10_pass_6 : decode cX10_pass 6 = .ok (.iload_n 1, 1) := by decide +kernel
theorem dX10_pass_7 : decode cX10_pass 7 = .ok (.invokevirtual 158, 3) := by decide +kernel
theorem dX10_pass_10 : decode cX10_pass 10 = .ok (.invokevirtual 104, 3) := by decide +kernel
theorem dX10_pass_13 : decode cX10_pass 13 = .ok (.ireturn, 1) := by decide +kernel
theorem dX10_asks_0 : decode cX10_asks 0 = .ok (.aload_n 0, 1) := by decide +kernel
theorem dX10_asks_1 : decode cX10_asks 1 = .ok (.aload_n 0, 1) := by decide +kernel
theorem dX10_asks_2 : decode cX10_asks 2 = .ok (.iload_n 1, 1) := by decide +kernel
theorem dX10_asks_3 : decode cX10_asks 3 = .ok (.invokevirtual 73, 3) := by decide +kernel
theorem dX10_asks_6 : decode cX10_asks 6 = .ok (.invokevirtual 61, 3) := by decide +kernel
theorem dX10_asks_9 : decode cX10_asks 9 = .ok (.ifCond .eq 12, 3) := by decide +kernel
theorem dX10_asks_12 : decode cX10_asks 12 = .ok (.aload_n 0, 1) := by decide +kernel
theorem dX10_asks_13 : decode cX10_asks 13 = .ok (.iload_n 1, 1) := by decide +kernel
theorem dX10_asks_14 : decode cX10_asks 14 = .ok (.iload_n 2, 1) := by decide +kernel
theorem dX10_asks_15 : decode cX10_asks 15 = .ok (.invokevirtual 77, 3) := by decide +kernel
theorem dX10_asks_18 : decode cX10_asks 18 = .ok (.goto 4, 3) := by decide +kernel
theorem dX10_asks_21 : decode cX10_asks 21 = .ok (.iconst 0, 1) := by decide +kernel
theorem dX10_asks_22 : decode cX10_asks 22 = .ok (.ireturn, 1) := by decide +kernel
theorem dX10_lakeCount_0 : decode cX10_lakeCount 0 = .ok (.aload_n 0, 1) := by decide +kernel
theorem dX10_lakeCount_1 : decode cX10_lakeCount 1 = .ok (.iconst 0, 1) := by decide +kernel
theorem dX10_lakeCount_2 : decode cX10_lakeCount 2 = .ok (.putfield 44, 3) := by decide +kernel
theorem dX10_lakeCount_5 : decode cX10_lakeCount 5 = .ok (.aload_n 0, 1) := by decide +kernel
theorem dX10_lakeCount_6 : decode cX10_lakeCount 6 = .ok (.getfield 9, 3) := by decide +kernel
theorem dX10_lakeCount_9 : decode cX10_lakeCount 9 = .ok (.iconst 2, 1) := by decide +kernel
theorem dX10_lakeCount_10 : decode cX10_lakeCount 10 = .ok (.iaload, 1) := by decide +kernel
theorem dX10_lakeCount_11 : decode cX10_lakeCount 11 = .ok (.ireturn, 1) := by decide +kernel
theorem dX10_depth_0 : decode cX10_depth 0 = .ok (.aload_n 0, 1) := by decide +kernel
theorem dX10_depth_1 : decode cX10_depth 1 = .ok (.iload_n 1, 1) := by decide +kernel
theorem dX10_depth_2 : decode cX10_depth 2 = .ok (.iconst 0, 1) := by decide +kernel
theorem dX10_depth_3 : decode cX10_depth 3 = .ok (.invokevirtual 161, 3) := by decide +kernel
theorem dX10_depth_6 : decode cX10_depth 6 = .ok (.ireturn, 1) := by decide +kernel
theorem dX10_layerCount_0 : decode cX10_layerCount 0 = .ok (.aload_n 0, 1) := by decide +kernel
theorem dX10_layerCount_1 : decode cX10_layerCount 1 = .ok (.iload_n 1, 1) := by decide +kernel
theorem dX10_layerCount_2 : decode cX10_layerCount 2 = .ok (.iconst 2, 1) := by decide +kernel
theorem dX10_layerCount_3 : decode cX10_layerCount 3 = .ok (.invokevirtual 161, 3) := by decide +kernel
theorem dX10_layerCount_6 : decode cX10_layerCount 6 = .ok (.ireturn, 1) := by decide +kernel
theorem dX10_asksLayer_0 : decode cX10_asksLayer 0 = .ok (.aload_n 0, 1) := by decide +kernel
theorem dX10_asksLayer_1 : decode cX10_asksLayer 1 = .ok (.aload_n 0, 1) := by decide +kernel
theorem dX10_asksLayer_2 : decode cX10_asksLayer 2 = .ok (.iload_n 1, 1) := by decide +kernel
theorem dX10_asksLayer_3 : decode cX10_asksLayer 3 = .ok (.iload_n 2, 1) := by decide +kernel
theorem dX10_asksLayer_4 : decode cX10_asksLayer 4 = .ok (.invokevirtual 81, 3) := by decide +kernel
theorem dX10_asksLayer_7 : decode cX10_asksLayer 7 = .ok (.invokevirtual 61, 3) := by decide +kernel
theorem dX10_asksLayer_10 : decode cX10_asksLayer 10 = .ok (.ifCond .eq 13, 3) := by decide +kernel
theorem dX10_asksLayer_13 : decode cX10_asksLayer 13 = .ok (.aload_n 0, 1) := by decide +kernel
theorem dX10_asksLayer_14 : decode cX10_asksLayer 14 = .ok (.iload_n 1, 1) := by decide +kernel
theorem dX10_asksLayer_15 : decode cX10_asksLayer 15 = .ok (.iload_n 2, 1) := by decide +kernel
theorem dX10_asksLayer_16 : decode cX10_asksLayer 16 = .ok (.iload_n 3, 1) := by decide +kernel
theorem dX10_asksLayer_17 : decode cX10_asksLayer 17 = .ok (.invokevirtual 88, 3) := by decide +kernel
theorem dX10_asksLayer_20 : decode cX10_asksLayer 20 = .ok (.goto 4, 3) := by decide +kernel
theorem dX10_asksLayer_23 : decode cX10_asksLayer 23 = .ok (.iconst 0, 1) := by decide +kernel
theorem dX10_asksLayer_24 : decode cX10_asksLayer 24 = .ok (.ireturn, 1) := by decide +kernel
theorem dX10_thickness_0 : decode cX10_thickness 0 = .ok (.aload_n 0, 1) := by decide +kernel
theorem dX10_thickness_1 : decode cX10_thickness 1 = .ok (.iload_n 1, 1) := by decide +kernel
theorem dX10_thickness_2 : decode cX10_thickness 2 = .ok (.iload_n 2, 1) := by decide +kernel
theorem dX10_thickness_3 : decode cX10_thickness 3 = .ok (.iconst 0, 1) := by decide +kernel
theorem dX10_thickness_4 : decode cX10_thickness 4 = .ok (.invokevirtual 164, 3) := by decide +kernel
theorem dX10_thickness_7 : decode cX10_thickness 7 = .ok (.ireturn, 1) := by decide +kernel
theorem dX10_temperature_0 : decode cX10_temperature 0 = .ok (.aload_n 0, 1) := by decide +kernel
theorem dX10_temperature_1 : decode cX10_temperature 1 = .ok (.iload_n 1, 1) := by decide +kernel
theorem dX10_temperature_2 : decode cX10_temperature 2 = .ok (.iload_n 2, 1) := by decide +kernel
theorem dX10_temperature_3 : decode cX10_temperature 3 = .ok (.iconst 1, 1) := by decide +kernel
theorem dX10_temperature_4 : decode cX10_temperature 4 = .ok (.invokevirtual 164, 3) := by decide +kernel
theorem dX10_temperature_7 : decode cX10_temperature 7 = .ok (.ireturn, 1) := by decide +kernel
theorem dX10_strain_0 : decode cX10_strain 0 = .ok (.aload_n 0, 1) := by decide +kernel
theorem dX10_strain_1 : decode cX10_strain 1 = .ok (.iload_n 1, 1) := by decide +kernel
theorem dX10_strain_2 : decode cX10_strain 2 = .ok (.iload_n 2, 1) := by decide +kernel
theorem dX10_strain_3 : decode cX10_strain 3 = .ok (.iconst 2, 1) := by decide +kernel
theorem dX10_strain_4 : decode cX10_strain 4 = .ok (.invokevirtual 164, 3) := by decide +kernel
theorem dX10_strain_7 : decode cX10_strain 7 = .ok (.ireturn, 1) := by decide +kernel
theorem dX10_iceThickness_0 : decode cX10_iceThickness 0 = .ok (.aload_n 0, 1) := by decide +kernel
theorem dX10_iceThickness_1 : decode cX10_iceThickness 1 = .ok (.aload_n 0, 1) := by decide +kernel
theorem dX10_iceThickness_2 : decode cX10_iceThickness 2 = .ok (.iload_n 1, 1) := by decide +kernel
theorem dX10_iceThickness_3 : decode cX10_iceThickness 3 = .ok (.invokevirtual 73, 3) := by decide +kernel
theorem dX10_iceThickness_6 : decode cX10_iceThickness 6 = .ok (.invokevirtual 61, 3) := by decide +kernel
theorem dX10_iceThickness_9 : decode cX10_iceThickness 9 = .ok (.ifCond .eq 11, 3) := by decide +kernel
theorem dX10_iceThickness_12 : decode cX10_iceThickness 12 = .ok (.aload_n 0, 1) := by decide +kernel
theorem dX10_iceThickness_13 : decode cX10_iceThickness 13 = .ok (.iload_n 1, 1) := by decide +kernel
theorem dX10_iceThickness_14 : decode cX10_iceThickness 14 = .ok (.invokevirtual 107, 3) := by decide +kernel
theorem dX10_iceThickness_17 : decode cX10_iceThickness 17 = .ok (.goto 4, 3) := by decide +kernel
theorem dX10_iceThickness_20 : decode cX10_iceThickness 20 = .ok (.iconst 0, 1) := by decide +kernel
theorem dX10_iceThickness_21 : decode cX10_iceThickness 21 = .ok (.ireturn, 1) := by decide +kernel
theorem dX10_iceThicknessByHalves_0 : decode cX10_iceThicknessByHalves 0 = .ok (.aload_n 0, 1) := by decide +kernel
theorem dX10_iceThicknessByHalves_1 : decode cX10_iceThicknessByHalves 1 = .ok (.aload_n 0, 1) := by decide +kernel
theorem dX10_iceThicknessByHalves_2 : decode cX10_iceThicknessByHalves 2 = .ok (.iload_n 1, 1) := by decide +kernel
theorem dX10_iceThicknessByHalves_3 : decode cX10_iceThicknessByHalves 3 = .ok (.invokevirtual 73, 3) := by decide +kernel
theorem dX10_iceThicknessByHalves_6 : decode cX10_iceThicknessByHalves 6 = .ok (.invokevirtual 61, 3) := by decide +kernel
theorem dX10_iceThicknessByHalves_9 : decode cX10_iceThicknessByHalves 9 = .ok (.ifCond .eq 11, 3) := by decide +kernel
theorem dX10_iceThicknessByHalves_12 : decode cX10_iceThicknessByHalves 12 = .ok (.aload_n 0, 1) := by decide +kernel
theorem dX10_iceThicknessByHalves_13 : decode cX10_iceThicknessByHalves 13 = .ok (.iload_n 1, 1) := by decide +kernel
theorem dX10_iceThicknessByHalves_14 : decode cX10_iceThicknessByHalves 14 = .ok (.invokevirtual 107, 3) := by decide +kernel
theorem dX10_iceThicknessByHalves_17 : decode cX10_iceThicknessByHalves 17 = .ok (.goto 4, 3) := by decide +kernel
theorem dX10_iceThicknessByHalves_20 : decode cX10_iceThicknessByHalves 20 = .ok (.iconst 0, 1) := by decide +kernel
theorem dX10_iceThicknessByHalves_21 : decode cX10_iceThicknessByHalves 21 = .ok (.ireturn, 1) := by decide +kernel
theorem dX10_layerAt_0 : decode cX10_layerAt 0 = .ok (.iconst (-1), 1) := by decide +kernel
theorem dX10_layerAt_1 : decode cX10_layerAt 1 = .ok (.istore_n 3, 1) := by decide +kernel
theorem dX10_layerAt_2 : decode cX10_layerAt 2 = .ok (.iconst 0, 1) := by decide +kernel
theorem dX10_layerAt_3 : decode cX10_layerAt 3 = .ok (.istore 4, 2) := by decide +kernel
theorem dX10_layerAt_5 : decode cX10_layerAt 5 = .ok (.iconst 0, 1) := by decide +kernel
theorem dX10_layerAt_6 : decode cX10_layerAt 6 = .ok (.istore 5, 2) := by decide +kernel
theorem dX10_layerAt_8 : decode cX10_layerAt 8 = .ok (.iload 5, 2) := by decide +kernel
theorem dX10_layerAt_10 : decode cX10_layerAt 10 = .ok (.aload_n 0, 1) := by decide +kernel
theorem dX10_layerAt_11 : decode cX10_layerAt 11 = .ok (.iload_n 1, 1) := by decide +kernel
theorem dX10_layerAt_12 : decode cX10_layerAt 12 = .ok (.iconst 2, 1) := by decide +kernel
theorem dX10_layerAt_13 : decode cX10_layerAt 13 = .ok (.invokevirtual 77, 3) := by decide +kernel
theorem dX10_layerAt_16 : decode cX10_layerAt 16 = .ok (.if_icmp .ge 44, 3) := by decide +kernel
theorem dX10_layerAt_19 : decode cX10_layerAt 19 = .ok (.iload 4, 2) := by decide +kernel
theorem dX10_layerAt_21 : decode cX10_layerAt 21 = .ok (.aload_n 0, 1) := by decide +kernel
theorem dX10_layerAt_22 : decode cX10_layerAt 22 = .ok (.iload_n 1, 1) := by decide +kernel
theorem dX10_layerAt_23 : decode cX10_layerAt 23 = .ok (.iload 5, 2) := by decide +kernel
theorem dX10_layerAt_25 : decode cX10_layerAt 25 = .ok (.iconst 0, 1) := by decide +kernel
theorem dX10_layerAt_26 : decode cX10_layerAt 26 = .ok (.invokevirtual 88, 3) := by decide +kernel
theorem dX10_layerAt_29 : decode cX10_layerAt 29 = .ok (.iadd, 1) := by decide +kernel
theorem dX10_layerAt_30 : decode cX10_layerAt 30 = .ok (.istore 4, 2) := by decide +kernel
theorem dX10_layerAt_32 : decode cX10_layerAt 32 = .ok (.iload_n 3, 1) := by decide +kernel
theorem dX10_layerAt_33 : decode cX10_layerAt 33 = .ok (.iconst (-1), 1) := by decide +kernel
theorem dX10_layerAt_34 : decode cX10_layerAt 34 = .ok (.if_icmp .ne 18, 3) := by decide +kernel
theorem dX10_layerAt_37 : decode cX10_layerAt 37 = .ok (.iload_n 2, 1) := by decide +kernel
theorem dX10_layerAt_38 : decode cX10_layerAt 38 = .ok (.ifCond .lt 14, 3) := by decide +kernel
theorem dX10_layerAt_41 : decode cX10_layerAt 41 = .ok (.iload_n 2, 1) := by decide +kernel
theorem dX10_layerAt_42 : decode cX10_layerAt 42 = .ok (.iload 4, 2) := by decide +kernel
theorem dX10_layerAt_44 : decode cX10_layerAt 44 = .ok (.if_icmp .ge 8, 3) := by decide +kernel
theorem dX10_layerAt_47 : decode cX10_layerAt 47 = .ok (.iload 5, 2) := by decide +kernel
theorem dX10_layerAt_49 : decode cX10_layerAt 49 = .ok (.goto 4, 3) := by decide +kernel
theorem dX10_layerAt_52 : decode cX10_layerAt 52 = .ok (.iload_n 3, 1) := by decide +kernel
theorem dX10_layerAt_53 : decode cX10_layerAt 53 = .ok (.istore_n 3, 1) := by decide +kernel
theorem dX10_layerAt_54 : decode cX10_layerAt 54 = .ok (.iinc 5 1, 3) := by decide +kernel
theorem dX10_layerAt_57 : decode cX10_layerAt 57 = .ok (.goto (-49), 3) := by decide +kernel
theorem dX10_layerAt_60 : decode cX10_layerAt 60 = .ok (.aload_n 0, 1) := by decide +kernel
theorem dX10_layerAt_61 : decode cX10_layerAt 61 = .ok (.aload_n 0, 1) := by decide +kernel
theorem dX10_layerAt_62 : decode cX10_layerAt 62 = .ok (.iload_n 1, 1) := by decide +kernel
theorem dX10_layerAt_63 : decode cX10_layerAt 63 = .ok (.invokevirtual 73, 3) := by decide +kernel
theorem dX10_layerAt_66 : decode cX10_layerAt 66 = .ok (.iload_n 3, 1) := by decide +kernel
theorem dX10_layerAt_67 : decode cX10_layerAt 67 = .ok (.iconst (-1), 1) := by decide +kernel
theorem dX10_layerAt_68 : decode cX10_layerAt 68 = .ok (.if_icmp .eq 7, 3) := by decide +kernel
theorem dX10_layerAt_71 : decode cX10_layerAt 71 = .ok (.iconst 1, 1) := by decide +kernel
theorem dX10_layerAt_72 : decode cX10_layerAt 72 = .ok (.goto 4, 3) := by decide +kernel
theorem dX10_layerAt_75 : decode cX10_layerAt 75 = .ok (.iconst 0, 1) := by decide +kernel
theorem dX10_layerAt_76 : decode cX10_layerAt 76 = .ok (.iconst 1, 1) := by decide +kernel
theorem dX10_layerAt_77 : decode cX10_layerAt 77 = .ok (.iconst 1, 1) := by decide +kernel
theorem dX10_layerAt_78 : decode cX10_layerAt 78 = .ok (.invokevirtual 47, 3) := by decide +kernel
theorem dX10_layerAt_81 : decode cX10_layerAt 81 = .ok (.ifCond .eq 7, 3) := by decide +kernel
theorem dX10_layerAt_84 : decode cX10_layerAt 84 = .ok (.iload_n 3, 1) := by decide +kernel
theorem dX10_layerAt_85 : decode cX10_layerAt 85 = .ok (.goto 4, 3) := by decide +kernel
theorem dX10_layerAt_88 : decode cX10_layerAt 88 = .ok (.iconst 0, 1) := by decide +kernel
theorem dX10_layerAt_89 : decode cX10_layerAt 89 = .ok (.ireturn, 1) := by decide +kernel
theorem dX10_air_0 : decode cX10_air 0 = .ok (.aload_n 0, 1) := by decide +kernel
theorem dX10_air_1 : decode cX10_air 1 = .ok (.iconst 0, 1) := by decide +kernel
theorem dX10_air_2 : decode cX10_air 2 = .ok (.putfield 44, 3) := by decide +kernel
theorem dX10_air_5 : decode cX10_air 5 = .ok (.aload_n 0, 1) := by decide +kernel
theorem dX10_air_6 : decode cX10_air 6 = .ok (.getfield 9, 3) := by decide +kernel
theorem dX10_air_9 : decode cX10_air 9 = .ok (.iconst 1, 1) := by decide +kernel
theorem dX10_air_10 : decode cX10_air 10 = .ok (.iaload, 1) := by decide +kernel
theorem dX10_air_11 : decode cX10_air 11 = .ok (.ireturn, 1) := by decide +kernel
theorem dX10_hour_0 : decode cX10_hour 0 = .ok (.aload_n 0, 1) := by decide +kernel
theorem dX10_hour_1 : decode cX10_hour 1 = .ok (.iconst 0, 1) := by decide +kernel
theorem dX10_hour_2 : decode cX10_hour 2 = .ok (.putfield 44, 3) := by decide +kernel
theorem dX10_hour_5 : decode cX10_hour 5 = .ok (.aload_n 0, 1) := by decide +kernel
theorem dX10_hour_6 : decode cX10_hour 6 = .ok (.getfield 9, 3) := by decide +kernel
theorem dX10_hour_9 : decode cX10_hour 9 = .ok (.iconst 0, 1) := by decide +kernel
theorem dX10_hour_10 : decode cX10_hour 10 = .ok (.iaload, 1) := by decide +kernel
theorem dX10_hour_11 : decode cX10_hour 11 = .ok (.ireturn, 1) := by decide +kernel
theorem dX10_hoursUntilCrack_0 : decode cX10_hoursUntilCrack 0 = .ok (.iconst (-1), 1) := by decide +kernel
theorem dX10_hoursUntilCrack_1 : decode cX10_hoursUntilCrack 1 = .ok (.istore_n 1, 1) := by decide +kernel
theorem dX10_hoursUntilCrack_2 : decode cX10_hoursUntilCrack 2 = .ok (.aload_n 0, 1) := by decide +kernel
theorem dX10_hoursUntilCrack_3 : decode cX10_hoursUntilCrack 3 = .ok (.getfield 9, 3) := by decide +kernel
theorem dX10_hoursUntilCrack_6 : decode cX10_hoursUntilCrack 6 = .ok (.iconst 0, 1) := by decide +kernel
theorem dX10_hoursUntilCrack_7 : decode cX10_hoursUntilCrack 7 = .ok (.aload_n 0, 1) := by decide +kernel
theorem dX10_hoursUntilCrack_8 : decode cX10_hoursUntilCrack 8 = .ok (.getfield 16, 3) := by decide +kernel
theorem dX10_hoursUntilCrack_11 : decode cX10_hoursUntilCrack 11 = .ok (.iconst 0, 1) := by decide +kernel
theorem dX10_hoursUntilCrack_12 : decode cX10_hoursUntilCrack 12 = .ok (.invokestatic 51, 3) := by decide +kernel
theorem dX10_hoursUntilCrack_15 : decode cX10_hoursUntilCrack 15 = .ok (.iconst 1, 1) := by decide +kernel
theorem dX10_hoursUntilCrack_16 : decode cX10_hoursUntilCrack 16 = .ok (.istore_n 2, 1) := by decide +kernel
theorem dX10_hoursUntilCrack_17 : decode cX10_hoursUntilCrack 17 = .ok (.iload_n 2, 1) := by decide +kernel
theorem dX10_hoursUntilCrack_18 : decode cX10_hoursUntilCrack 18 = .ok (.bipush 96, 2) := by decide +kernel
theorem dX10_hoursUntilCrack_20 : decode cX10_hoursUntilCrack 20 = .ok (.if_icmp .gt 27, 3) := by decide +kernel
theorem dX10_hoursUntilCrack_23 : decode cX10_hoursUntilCrack 23 = .ok (.iload_n 1, 1) := by decide +kernel
theorem dX10_hoursUntilCrack_24 : decode cX10_hoursUntilCrack 24 = .ok (.iconst (-1), 1) := by decide +kernel
theorem dX10_hoursUntilCrack_25 : decode cX10_hoursUntilCrack 25 = .ok (.if_icmp .ne 22, 3) := by decide +kernel
theorem dX10_hoursUntilCrack_28 : decode cX10_hoursUntilCrack 28 = .ok (.aload_n 0, 1) := by decide +kernel
theorem dX10_hoursUntilCrack_29 : decode cX10_hoursUntilCrack 29 = .ok (.invokevirtual 154, 3) := by decide +kernel
theorem dX10_hoursUntilCrack_32 : decode cX10_hoursUntilCrack 32 = .ok (.ifCond .le 7, 3) := by decide +kernel
theorem dX10_hoursUntilCrack_35 : decode cX10_hoursUntilCrack 35 = .ok (.iload_n 2, 1) := by decide +kernel
theorem dX10_hoursUntilCrack_36 : decode cX10_hoursUntilCrack 36 = .ok (.goto 4, 3) := by decide +kernel
theorem dX10_hoursUntilCrack_39 : decode cX10_hoursUntilCrack 39 = .ok (.iconst (-1), 1) := by decide +kernel
theorem dX10_hoursUntilCrack_40 : decode cX10_hoursUntilCrack 40 = .ok (.istore_n 1, 1) := by decide +kernel
theorem dX10_hoursUntilCrack_41 : decode cX10_hoursUntilCrack 41 = .ok (.iinc 2 1, 3) := by decide +kernel
theorem dX10_hoursUntilCrack_44 : decode cX10_hoursUntilCrack 44 = .ok (.goto (-27), 3) := by decide +kernel
theorem dX10_hoursUntilCrack_47 : decode cX10_hoursUntilCrack 47 = .ok (.aload_n 0, 1) := by decide +kernel
theorem dX10_hoursUntilCrack_48 : decode cX10_hoursUntilCrack 48 = .ok (.getfield 16, 3) := by decide +kernel
theorem dX10_hoursUntilCrack_51 : decode cX10_hoursUntilCrack 51 = .ok (.iconst 0, 1) := by decide +kernel
theorem dX10_hoursUntilCrack_52 : decode cX10_hoursUntilCrack 52 = .ok (.aload_n 0, 1) := by decide +kernel
theorem dX10_hoursUntilCrack_53 : decode cX10_hoursUntilCrack 53 = .ok (.getfield 9, 3) := by decide +kernel
theorem dX10_hoursUntilCrack_56 : decode cX10_hoursUntilCrack 56 = .ok (.iconst 0, 1) := by decide +kernel
theorem dX10_hoursUntilCrack_57 : decode cX10_hoursUntilCrack 57 = .ok (.invokestatic 51, 3) := by decide +kernel
theorem dX10_hoursUntilCrack_60 : decode cX10_hoursUntilCrack 60 = .ok (.aload_n 0, 1) := by decide +kernel
theorem dX10_hoursUntilCrack_61 : decode cX10_hoursUntilCrack 61 = .ok (.iload_n 1, 1) := by decide +kernel
theorem dX10_hoursUntilCrack_62 : decode cX10_hoursUntilCrack 62 = .ok (.iconst (-1), 1) := by decide +kernel
theorem dX10_hoursUntilCrack_63 : decode cX10_hoursUntilCrack 63 = .ok (.if_icmp .eq 7, 3) := by decide +kernel
theorem dX10_hoursUntilCrack_66 : decode cX10_hoursUntilCrack 66 = .ok (.iconst 1, 1) := by decide +kernel
theorem dX10_hoursUntilCrack_67 : decode cX10_hoursUntilCrack 67 = .ok (.goto 4, 3) := by decide +kernel
theorem dX10_hoursUntilCrack_70 : decode cX10_hoursUntilCrack 70 = .ok (.iconst 0, 1) := by decide +kernel
theorem dX10_hoursUntilCrack_71 : decode cX10_hoursUntilCrack 71 = .ok (.invokevirtual 61, 3) := by decide +kernel
theorem dX10_hoursUntilCrack_74 : decode cX10_hoursUntilCrack 74 = .ok (.ifCond .eq 7, 3) := by decide +kernel
theorem dX10_hoursUntilCrack_77 : decode cX10_hoursUntilCrack 77 = .ok (.iload_n 1, 1) := by decide +kernel
theorem dX10_hoursUntilCrack_78 : decode cX10_hoursUntilCrack 78 = .ok (.goto 4, 3) := by decide +kernel
theorem dX10_hoursUntilCrack_81 : decode cX10_hoursUntilCrack 81 = .ok (.iconst 0, 1) := by decide +kernel
theorem dX10_hoursUntilCrack_82 : decode cX10_hoursUntilCrack 82 = .ok (.ireturn, 1) := by decide +kernel
theorem dX10_hoursUntilThawed_0 : decode cX10_hoursUntilThawed 0 = .ok (.aload_n 0, 1) := by decide +kernel
theorem dX10_hoursUntilThawed_1 : decode cX10_hoursUntilThawed 1 = .ok (.iload_n 1, 1) := by decide +kernel
theorem dX10_hoursUntilThawed_2 : decode cX10_hoursUntilThawed 2 = .ok (.iconst 2, 1) := by decide +kernel
theorem dX10_hoursUntilThawed_3 : decode cX10_hoursUntilThawed 3 = .ok (.invokevirtual 77, 3) := by decide +kernel
theorem dX10_hoursUntilThawed_6 : decode cX10_hoursUntilThawed 6 = .ok (.ifCond .ne 7, 3) := by decide +kernel
theorem dX10_hoursUntilThawed_9 : decode cX10_hoursUntilThawed 9 = .ok (.iconst 0, 1) := by decide +kernel
theorem dX10_hoursUntilThawed_10 : decode cX10_hoursUntilThawed 10 = .ok (.goto 4, 3) := by decide +kernel
theorem dX10_hoursUntilThawed_13 : decode cX10_hoursUntilThawed 13 = .ok (.iconst (-1), 1) := by decide +kernel
theorem dX10_hoursUntilThawed_14 : decode cX10_hoursUntilThawed 14 = .ok (.istore_n 2, 1) := by decide +kernel
theorem dX10_hoursUntilThawed_15 : decode cX10_hoursUntilThawed 15 = .ok (.aload_n 0, 1) := by decide +kernel
theorem dX10_hoursUntilThawed_16 : decode cX10_hoursUntilThawed 16 = .ok (.getfield 9, 3) := by decide +kernel
theorem dX10_hoursUntilThawed_19 : decode cX10_hoursUntilThawed 19 = .ok (.iconst 0, 1) := by decide +kernel
theorem dX10_hoursUntilThawed_20 : decode cX10_hoursUntilThawed 20 = .ok (.aload_n 0, 1) := by decide +kernel
theorem dX10_hoursUntilThawed_21 : decode cX10_hoursUntilThawed 21 = .ok (.getfield 16, 3) := by decide +kernel
theorem dX10_hoursUntilThawed_24 : decode cX10_hoursUntilThawed 24 = .ok (.iconst 0, 1) := by decide +kernel
theorem dX10_hoursUntilThawed_25 : decode cX10_hoursUntilThawed 25 = .ok (.invokestatic 51, 3) := by decide +kernel
theorem dX10_hoursUntilThawed_28 : decode cX10_hoursUntilThawed 28 = .ok (.iconst 1, 1) := by decide +kernel
theorem dX10_hoursUntilThawed_29 : decode cX10_hoursUntilThawed 29 = .ok (.istore_n 3, 1) := by decide +kernel
theorem dX10_hoursUntilThawed_30 : decode cX10_hoursUntilThawed 30 = .ok (.iload_n 3, 1) := by decide +kernel
theorem dX10_hoursUntilThawed_31 : decode cX10_hoursUntilThawed 31 = .ok (.bipush 96, 2) := by decide +kernel
theorem dX10_hoursUntilThawed_33 : decode cX10_hoursUntilThawed 33 = .ok (.if_icmp .gt 35, 3) := by decide +kernel
theorem dX10_hoursUntilThawed_36 : decode cX10_hoursUntilThawed 36 = .ok (.iload_n 2, 1) := by decide +kernel
theorem dX10_hoursUntilThawed_37 : decode cX10_hoursUntilThawed 37 = .ok (.iconst (-1), 1) := by decide +kernel
theorem dX10_hoursUntilThawed_38 : decode cX10_hoursUntilThawed 38 = .ok (.if_icmp .ne 30, 3) := by decide +kernel
theorem dX10_hoursUntilThawed_41 : decode cX10_hoursUntilThawed 41 = .ok (.aload_n 0, 1) := by decide +kernel
theorem dX10_hoursUntilThawed_42 : decode cX10_hoursUntilThawed 42 = .ok (.invokevirtual 154, 3) := by decide +kernel
theorem dX10_hoursUntilThawed_45 : decode cX10_hoursUntilThawed 45 = .ok (.istore 4, 2) := by decide +kernel
theorem dX10_hoursUntilThawed_47 : decode cX10_hoursUntilThawed 47 = .ok (.aload_n 0, 1) := by decide +kernel
theorem dX10_hoursUntilThawed_48 : decode cX10_hoursUntilThawed 48 = .ok (.iload_n 1, 1) := by decide +kernel
theorem dX10_hoursUntilThawed_49 : decode cX10_hoursUntilThawed 49 = .ok (.iconst 2, 1) := by decide +kernel
theorem dX10_hoursUntilThawed_50 : decode cX10_hoursUntilThawed 50 = .ok (.invokevirtual 77, 3) := by decide +kernel
theorem dX10_hoursUntilThawed_53 : decode cX10_hoursUntilThawed 53 = .ok (.ifCond .ne 7, 3) := by decide +kernel
theorem dX10_hoursUntilThawed_56 : decode cX10_hoursUntilThawed 56 = .ok (.iload_n 3, 1) := by decide +kernel
theorem dX10_hoursUntilThawed_57 : decode cX10_hoursUntilThawed 57 = .ok (.goto 4, 3) := by decide +kernel
theorem dX10_hoursUntilThawed_60 : decode cX10_hoursUntilThawed 60 = .ok (.iconst (-1), 1) := by decide +kernel
theorem dX10_hoursUntilThawed_61 : decode cX10_hoursUntilThawed 61 = .ok (.istore_n 2, 1) := by decide +kernel
theorem dX10_hoursUntilThawed_62 : decode cX10_hoursUntilThawed 62 = .ok (.iinc 3 1, 3) := by decide +kernel
theorem dX10_hoursUntilThawed_65 : decode cX10_hoursUntilThawed 65 = .ok (.goto (-35), 3) := by decide +kernel
theorem dX10_hoursUntilThawed_68 : decode cX10_hoursUntilThawed 68 = .ok (.aload_n 0, 1) := by decide +kernel
theorem dX10_hoursUntilThawed_69 : decode cX10_hoursUntilThawed 69 = .ok (.getfield 16, 3) := by decide +kernel
theorem dX10_hoursUntilThawed_72 : decode cX10_hoursUntilThawed 72 = .ok (.iconst 0, 1) := by decide +kernel
theorem dX10_hoursUntilThawed_73 : decode cX10_hoursUntilThawed 73 = .ok (.aload_n 0, 1) := by decide +kernel
theorem dX10_hoursUntilThawed_74 : decode cX10_hoursUntilThawed 74 = .ok (.getfield 9, 3) := by decide +kernel
theorem dX10_hoursUntilThawed_77 : decode cX10_hoursUntilThawed 77 = .ok (.iconst 0, 1) := by decide +kernel
theorem dX10_hoursUntilThawed_78 : decode cX10_hoursUntilThawed 78 = .ok (.invokestatic 51, 3) := by decide +kernel
theorem dX10_hoursUntilThawed_81 : decode cX10_hoursUntilThawed 81 = .ok (.aload_n 0, 1) := by decide +kernel
theorem dX10_hoursUntilThawed_82 : decode cX10_hoursUntilThawed 82 = .ok (.aload_n 0, 1) := by decide +kernel
theorem dX10_hoursUntilThawed_83 : decode cX10_hoursUntilThawed 83 = .ok (.iload_n 1, 1) := by decide +kernel
theorem dX10_hoursUntilThawed_84 : decode cX10_hoursUntilThawed 84 = .ok (.invokevirtual 73, 3) := by decide +kernel
theorem dX10_hoursUntilThawed_87 : decode cX10_hoursUntilThawed 87 = .ok (.iload_n 2, 1) := by decide +kernel
theorem dX10_hoursUntilThawed_88 : decode cX10_hoursUntilThawed 88 = .ok (.iconst (-1), 1) := by decide +kernel
theorem dX10_hoursUntilThawed_89 : decode cX10_hoursUntilThawed 89 = .ok (.if_icmp .eq 7, 3) := by decide +kernel
theorem dX10_hoursUntilThawed_92 : decode cX10_hoursUntilThawed 92 = .ok (.iconst 1, 1) := by decide +kernel
theorem dX10_hoursUntilThawed_93 : decode cX10_hoursUntilThawed 93 = .ok (.goto 4, 3) := by decide +kernel
theorem dX10_hoursUntilThawed_96 : decode cX10_hoursUntilThawed 96 = .ok (.iconst 0, 1) := by decide +kernel
theorem dX10_hoursUntilThawed_97 : decode cX10_hoursUntilThawed 97 = .ok (.iconst 1, 1) := by decide +kernel
theorem dX10_hoursUntilThawed_98 : decode cX10_hoursUntilThawed 98 = .ok (.iconst 1, 1) := by decide +kernel
theorem dX10_hoursUntilThawed_99 : decode cX10_hoursUntilThawed 99 = .ok (.invokevirtual 47, 3) := by decide +kernel
theorem dX10_hoursUntilThawed_102 : decode cX10_hoursUntilThawed 102 = .ok (.ifCond .eq 7, 3) := by decide +kernel
theorem dX10_hoursUntilThawed_105 : decode cX10_hoursUntilThawed 105 = .ok (.iload_n 2, 1) := by decide +kernel
theorem dX10_hoursUntilThawed_106 : decode cX10_hoursUntilThawed 106 = .ok (.goto 4, 3) := by decide +kernel
theorem dX10_hoursUntilThawed_109 : decode cX10_hoursUntilThawed 109 = .ok (.iconst 0, 1) := by decide +kernel
theorem dX10_hoursUntilThawed_110 : decode cX10_hoursUntilThawed 110 = .ok (.ireturn, 1) := by decide +kernel
theorem dX10_windowCount_0 : decode cX10_windowCount 0 = .ok (.aload_n 0, 1) := by decide +kernel
theorem dX10_windowCount_1 : decode cX10_windowCount 1 = .ok (.iconst 0, 1) := by decide +kernel
theorem dX10_windowCount_2 : decode cX10_windowCount 2 = .ok (.putfield 44, 3) := by decide +kernel
theorem dX10_windowCount_5 : decode cX10_windowCount 5 = .ok (.aload_n 0, 1) := by decide +kernel
theorem dX10_windowCount_6 : decode cX10_windowCount 6 = .ok (.getfield 9, 3) := by decide +kernel
theorem dX10_windowCount_9 : decode cX10_windowCount 9 = .ok (.iconst 3, 1) := by decide +kernel
theorem dX10_windowCount_10 : decode cX10_windowCount 10 = .ok (.iaload, 1) := by decide +kernel
theorem dX10_windowCount_11 : decode cX10_windowCount 11 = .ok (.ireturn, 1) := by decide +kernel
theorem dX10_ofWindow_0 : decode cX10_ofWindow 0 = .ok (.aload_n 0, 1) := by decide +kernel
theorem dX10_ofWindow_1 : decode cX10_ofWindow 1 = .ok (.iload_n 1, 1) := by decide +kernel
theorem dX10_ofWindow_2 : decode cX10_ofWindow 2 = .ok (.iconst 0, 1) := by decide +kernel
theorem dX10_ofWindow_3 : decode cX10_ofWindow 3 = .ok (.aload_n 0, 1) := by decide +kernel
theorem dX10_ofWindow_4 : decode cX10_ofWindow 4 = .ok (.getfield 9, 3) := by decide +kernel
theorem dX10_ofWindow_7 : decode cX10_ofWindow 7 = .ok (.iconst 3, 1) := by decide +kernel
theorem dX10_ofWindow_8 : decode cX10_ofWindow 8 = .ok (.iaload, 1) := by decide +kernel
theorem dX10_ofWindow_9 : decode cX10_ofWindow 9 = .ok (.iconst 1, 1) := by decide +kernel
theorem dX10_ofWindow_10 : decode cX10_ofWindow 10 = .ok (.isub, 1) := by decide +kernel
theorem dX10_ofWindow_11 : decode cX10_ofWindow 11 = .ok (.invokestatic 69, 3) := by decide +kernel
theorem dX10_ofWindow_14 : decode cX10_ofWindow 14 = .ok (.invokevirtual 61, 3) := by decide +kernel
theorem dX10_ofWindow_17 : decode cX10_ofWindow 17 = .ok (.ifCond .eq 20, 3) := by decide +kernel
theorem dX10_ofWindow_20 : decode cX10_ofWindow 20 = .ok (.aload_n 0, 1) := by decide +kernel
theorem dX10_ofWindow_21 : decode cX10_ofWindow 21 = .ok (.getfield 9, 3) := by decide +kernel
theorem dX10_ofWindow_24 : decode cX10_ofWindow 24 = .ok (.sipush 142, 3) := by decide +kernel
theorem dX10_ofWindow_27 : decode cX10_ofWindow 27 = .ok (.iconst 2, 1) := by decide +kernel
theorem dX10_ofWindow_28 : decode cX10_ofWindow 28 = .ok (.iload_n 1, 1) := by decide +kernel
theorem dX10_ofWindow_29 : decode cX10_ofWindow 29 = .ok (.imul, 1) := by decide +kernel
theorem dX10_ofWindow_30 : decode cX10_ofWindow 30 = .ok (.iadd, 1) := by decide +kernel
theorem dX10_ofWindow_31 : decode cX10_ofWindow 31 = .ok (.iload_n 2, 1) := by decide +kernel
theorem dX10_ofWindow_32 : decode cX10_ofWindow 32 = .ok (.iadd, 1) := by decide +kernel
theorem dX10_ofWindow_33 : decode cX10_ofWindow 33 = .ok (.iaload, 1) := by decide +kernel
theorem dX10_ofWindow_34 : decode cX10_ofWindow 34 = .ok (.goto 4, 3) := by decide +kernel
theorem dX10_ofWindow_37 : decode cX10_ofWindow 37 = .ok (.iconst 0, 1) := by decide +kernel
theorem dX10_ofWindow_38 : decode cX10_ofWindow 38 = .ok (.ireturn, 1) := by decide +kernel
theorem dX10_windowFirst_0 : decode cX10_windowFirst 0 = .ok (.aload_n 0, 1) := by decide +kernel
theorem dX10_windowFirst_1 : decode cX10_windowFirst 1 = .ok (.iload_n 1, 1) := by decide +kernel
theorem dX10_windowFirst_2 : decode cX10_windowFirst 2 = .ok (.iconst 0, 1) := by decide +kernel
theorem dX10_windowFirst_3 : decode cX10_windowFirst 3 = .ok (.invokevirtual 167, 3) := by decide +kernel
theorem dX10_windowFirst_6 : decode cX10_windowFirst 6 = .ok (.ireturn, 1) := by decide +kernel
theorem dX10_windowLast_0 : decode cX10_windowLast 0 = .ok (.aload_n 0, 1) := by decide +kernel
theorem dX10_windowLast_1 : decode cX10_windowLast 1 = .ok (.iload_n 1, 1) := by decide +kernel
theorem dX10_windowLast_2 : decode cX10_windowLast 2 = .ok (.iconst 1, 1) := by decide +kernel
theorem dX10_windowLast_3 : decode cX10_windowLast 3 = .ok (.invokevirtual 167, 3) := by decide +kernel
theorem dX10_windowLast_6 : decode cX10_windowLast 6 = .ok (.ireturn, 1) := by decide +kernel
theorem dX10_isInWindow_0 : decode cX10_isInWindow 0 = .ok (.aload_n 0, 1) := by decide +kernel
theorem dX10_isInWindow_1 : decode cX10_isInWindow 1 = .ok (.iconst 0, 1) := by decide +kernel
theorem dX10_isInWindow_2 : decode cX10_isInWindow 2 = .ok (.putfield 44, 3) := by decide +kernel
theorem dX10_isInWindow_5 : decode cX10_isInWindow 5 = .ok (.aload_n 0, 1) := by decide +kernel
theorem dX10_isInWindow_6 : decode cX10_isInWindow 6 = .ok (.iload_n 1, 1) := by decide +kernel
theorem dX10_isInWindow_7 : decode cX10_isInWindow 7 = .ok (.invokevirtual 138, 3) := by decide +kernel
theorem dX10_isInWindow_10 : decode cX10_isInWindow 10 = .ok (.ireturn, 1) := by decide +kernel
theorem dX10_pitch_0 : decode cX10_pitch 0 = .ok (.aload_n 0, 1) := by decide +kernel
theorem dX10_pitch_1 : decode cX10_pitch 1 = .ok (.iload_n 1, 1) := by decide +kernel
theorem dX10_pitch_2 : decode cX10_pitch 2 = .ok (.iload_n 2, 1) := by decide +kernel
theorem dX10_pitch_3 : decode cX10_pitch 3 = .ok (.iconst 1, 1) := by decide +kernel
theorem dX10_pitch_4 : decode cX10_pitch 4 = .ok (.invokevirtual 88, 3) := by decide +kernel
theorem dX10_pitch_7 : decode cX10_pitch 7 = .ok (.ifCond .ge 7, 3) := by decide +kernel
theorem dX10_pitch_10 : decode cX10_pitch 10 = .ok (.iconst 1, 1) := by decide +kernel
theorem dX10_pitch_11 : decode cX10_pitch 11 = .ok (.goto 4, 3) := by decide +kernel
theorem dX10_pitch_14 : decode cX10_pitch 14 = .ok (.iconst 0, 1) := by decide +kernel
theorem dX10_pitch_15 : decode cX10_pitch 15 = .ok (.istore_n 3, 1) := by decide +kernel
theorem dX10_pitch_16 : decode cX10_pitch 16 = .ok (.aload_n 0, 1) := by decide +kernel
theorem dX10_pitch_17 : decode cX10_pitch 17 = .ok (.aload_n 0, 1) := by decide +kernel
theorem dX10_pitch_18 : decode cX10_pitch 18 = .ok (.iload_n 1, 1) := by decide +kernel
theorem dX10_pitch_19 : decode cX10_pitch 19 = .ok (.iload_n 2, 1) := by decide +kernel
theorem dX10_pitch_20 : decode cX10_pitch 20 = .ok (.invokevirtual 81, 3) := by decide +kernel
theorem dX10_pitch_23 : decode cX10_pitch 23 = .ok (.iload_n 3, 1) := by decide +kernel
theorem dX10_pitch_24 : decode cX10_pitch 24 = .ok (.iconst 1, 1) := by decide +kernel
theorem dX10_pitch_25 : decode cX10_pitch 25 = .ok (.iconst 1, 1) := by decide +kernel
theorem dX10_pitch_26 : decode cX10_pitch 26 = .ok (.invokevirtual 47, 3) := by decide +kernel
theorem dX10_pitch_29 : decode cX10_pitch 29 = .ok (.ifCond .eq 12, 3) := by decide +kernel
theorem dX10_pitch_32 : decode cX10_pitch 32 = .ok (.aload_n 0, 1) := by decide +kernel
theorem dX10_pitch_33 : decode cX10_pitch 33 = .ok (.iload_n 1, 1) := by decide +kernel
theorem dX10_pitch_34 : decode cX10_pitch 34 = .ok (.iload_n 2, 1) := by decide +kernel
theorem dX10_pitch_35 : decode cX10_pitch 35 = .ok (.invokevirtual 122, 3) := by decide +kernel
theorem dX10_pitch_38 : decode cX10_pitch 38 = .ok (.goto 4, 3) := by decide +kernel
theorem dX10_pitch_41 : decode cX10_pitch 41 = .ok (.iconst 0, 1) := by decide +kernel
theorem dX10_pitch_42 : decode cX10_pitch 42 = .ok (.ireturn, 1) := by decide +kernel
theorem dX10_pealCount_0 : decode cX10_pealCount 0 = .ok (.aload_n 0, 1) := by decide +kernel
theorem dX10_pealCount_1 : decode cX10_pealCount 1 = .ok (.iconst 0, 1) := by decide +kernel
theorem dX10_pealCount_2 : decode cX10_pealCount 2 = .ok (.putfield 44, 3) := by decide +kernel
theorem dX10_pealCount_5 : decode cX10_pealCount 5 = .ok (.aload_n 0, 1) := by decide +kernel
theorem dX10_pealCount_6 : decode cX10_pealCount 6 = .ok (.getfield 9, 3) := by decide +kernel
theorem dX10_pealCount_9 : decode cX10_pealCount 9 = .ok (.iconst 4, 1) := by decide +kernel
theorem dX10_pealCount_10 : decode cX10_pealCount 10 = .ok (.iaload, 1) := by decide +kernel
theorem dX10_pealCount_11 : decode cX10_pealCount 11 = .ok (.ireturn, 1) := by decide +kernel
theorem dX10_ofPeal_0 : decode cX10_ofPeal 0 = .ok (.aload_n 0, 1) := by decide +kernel
theorem dX10_ofPeal_1 : decode cX10_ofPeal 1 = .ok (.iload_n 1, 1) := by decide +kernel
theorem dX10_ofPeal_2 : decode cX10_ofPeal 2 = .ok (.iconst 0, 1) := by decide +kernel
theorem dX10_ofPeal_3 : decode cX10_ofPeal 3 = .ok (.aload_n 0, 1) := by decide +kernel
theorem dX10_ofPeal_4 : decode cX10_ofPeal 4 = .ok (.getfield 9, 3) := by decide +kernel
theorem dX10_ofPeal_7 : decode cX10_ofPeal 7 = .ok (.iconst 4, 1) := by decide +kernel
theorem dX10_ofPeal_8 : decode cX10_ofPeal 8 = .ok (.iaload, 1) := by decide +kernel
theorem dX10_ofPeal_9 : decode cX10_ofPeal 9 = .ok (.iconst 1, 1) := by decide +kernel
theorem dX10_ofPeal_10 : decode cX10_ofPeal 10 = .ok (.isub, 1) := by decide +kernel
theorem dX10_ofPeal_11 : decode cX10_ofPeal 11 = .ok (.invokestatic 69, 3) := by decide +kernel
theorem dX10_ofPeal_14 : decode cX10_ofPeal 14 = .ok (.invokevirtual 61, 3) := by decide +kernel
theorem dX10_ofPeal_17 : decode cX10_ofPeal 17 = .ok (.ifCond .eq 20, 3) := by decide +kernel
theorem dX10_ofPeal_20 : decode cX10_ofPeal 20 = .ok (.aload_n 0, 1) := by decide +kernel
theorem dX10_ofPeal_21 : decode cX10_ofPeal 21 = .ok (.getfield 9, 3) := by decide +kernel
theorem dX10_ofPeal_24 : decode cX10_ofPeal 24 = .ok (.sipush 154, 3) := by decide +kernel
theorem dX10_ofPeal_27 : decode cX10_ofPeal 27 = .ok (.iconst 4, 1) := by decide +kernel
theorem dX10_ofPeal_28 : decode cX10_ofPeal 28 = .ok (.iload_n 1, 1) := by decide +kernel
theorem dX10_ofPeal_29 : decode cX10_ofPeal 29 = .ok (.imul, 1) := by decide +kernel
theorem dX10_ofPeal_30 : decode cX10_ofPeal 30 = .ok (.iadd, 1) := by decide +kernel
theorem dX10_ofPeal_31 : decode cX10_ofPeal 31 = .ok (.iload_n 2, 1) := by decide +kernel
theorem dX10_ofPeal_32 : decode cX10_ofPeal 32 = .ok (.iadd, 1) := by decide +kernel
theorem dX10_ofPeal_33 : decode cX10_ofPeal 33 = .ok (.iaload, 1) := by decide +kernel
theorem dX10_ofPeal_34 : decode cX10_ofPeal 34 = .ok (.goto 4, 3) := by decide +kernel
theorem dX10_ofPeal_37 : decode cX10_ofPeal 37 = .ok (.iconst 0, 1) := by decide +kernel
theorem dX10_ofPeal_38 : decode cX10_ofPeal 38 = .ok (.ireturn, 1) := by decide +kernel
theorem dX10_pealKind_0 : decode cX10_pealKind 0 = .ok (.aload_n 0, 1) := by decide +kernel
theorem dX10_pealKind_1 : decode cX10_pealKind 1 = .ok (.iload_n 1, 1) := by decide +kernel
theorem dX10_pealKind_2 : decode cX10_pealKind 2 = .ok (.iconst 0, 1) := by decide +kernel
theorem dX10_pealKind_3 : decode cX10_pealKind 3 = .ok (.invokevirtual 170, 3) := by decide +kernel
theorem dX10_pealKind_6 : decode cX10_pealKind 6 = .ok (.i2c, 1) := by decide +kernel
theorem dX10_pealKind_7 : decode cX10_pealKind 7 = .ok (.ireturn, 1) := by decide +kernel
theorem dX10_pealLake_0 : decode cX10_pealLake 0 = .ok (.aload_n 0, 1) := by decide +kernel
theorem dX10_pealLake_1 : decode cX10_pealLake 1 = .ok (.iload_n 1, 1) := by decide +kernel
theorem dX10_pealLake_2 : decode cX10_pealLake 2 = .ok (.iconst 1, 1) := by decide +kernel
theorem dX10_pealLake_3 : decode cX10_pealLake 3 = .ok (.invokevirtual 170, 3) := by decide +kernel
theorem dX10_pealLake_6 : decode cX10_pealLake 6 = .ok (.ireturn, 1) := by decide +kernel
theorem dX10_pealPitch_0 : decode cX10_pealPitch 0 = .ok (.aload_n 0, 1) := by decide +kernel
theorem dX10_pealPitch_1 : decode cX10_pealPitch 1 = .ok (.iload_n 1, 1) := by decide +kernel
theorem dX10_pealPitch_2 : decode cX10_pealPitch 2 = .ok (.iconst 2, 1) := by decide +kernel
theorem dX10_pealPitch_3 : decode cX10_pealPitch 3 = .ok (.invokevirtual 170, 3) := by decide +kernel
theorem dX10_pealPitch_6 : decode cX10_pealPitch 6 = .ok (.ireturn, 1) := by decide +kernel
theorem dX10_pealHour_0 : decode cX10_pealHour 0 = .ok (.aload_n 0, 1) := by decide +kernel
theorem dX10_pealHour_1 : decode cX10_pealHour 1 = .ok (.iload_n 1, 1) := by decide +kernel
theorem dX10_pealHour_2 : decode cX10_pealHour 2 = .ok (.iconst 3, 1) := by decide +kernel
theorem dX10_pealHour_3 : decode cX10_pealHour 3 = .ok (.invokevirtual 170, 3) := by decide +kernel
theorem dX10_pealHour_6 : decode cX10_pealHour 6 = .ok (.ireturn, 1) := by decide +kernel
theorem dX10_alike_0 : decode cX10_alike 0 = .ok (.iconst 0, 1) := by decide +kernel
theorem dX10_alike_1 : decode cX10_alike 1 = .ok (.istore_n 2, 1) := by decide +kernel
theorem dX10_alike_2 : decode cX10_alike 2 = .ok (.iconst 0, 1) := by decide +kernel
theorem dX10_alike_3 : decode cX10_alike 3 = .ok (.istore_n 3, 1) := by decide +kernel
theorem dX10_alike_4 : decode cX10_alike 4 = .ok (.iload_n 3, 1) := by decide +kernel
theorem dX10_alike_5 : decode cX10_alike 5 = .ok (.iload_n 1, 1) := by decide +kernel
theorem dX10_alike_6 : decode cX10_alike 6 = .ok (.if_icmp .ge 48, 3) := by decide +kernel
theorem dX10_alike_9 : decode cX10_alike 9 = .ok (.iload_n 2, 1) := by decide +kernel
theorem dX10_alike_10 : decode cX10_alike 10 = .ok (.aload_n 0, 1) := by decide +kernel
theorem dX10_alike_11 : decode cX10_alike 11 = .ok (.getfield 9, 3) := by decide +kernel
theorem dX10_alike_14 : decode cX10_alike 14 = .ok (.sipush 154, 3) := by decide +kernel
theorem dX10_alike_17 : decode cX10_alike 17 = .ok (.iconst 4, 1) := by decide +kernel
theorem dX10_alike_18 : decode cX10_alike 18 = .ok (.iload_n 3, 1) := by decide +kernel
theorem dX10_alike_19 : decode cX10_alike 19 = .ok (.imul, 1) := by decide +kernel
theorem dX10_alike_20 : decode cX10_alike 20 = .ok (.iadd, 1) := by decide +kernel
theorem dX10_alike_21 : decode cX10_alike 21 = .ok (.iconst 2, 1) := by decide +kernel
theorem dX10_alike_22 : decode cX10_alike 22 = .ok (.iadd, 1) := by decide +kernel
theorem dX10_alike_23 : decode cX10_alike 23 = .ok (.iaload, 1) := by decide +kernel
theorem dX10_alike_24 : decode cX10_alike 24 = .ok (.aload_n 0, 1) := by decide +kernel
theorem dX10_alike_25 : decode cX10_alike 25 = .ok (.getfield 9, 3) := by decide +kernel
theorem dX10_alike_28 : decode cX10_alike 28 = .ok (.sipush 154, 3) := by decide +kernel
theorem dX10_alike_31 : decode cX10_alike 31 = .ok (.iconst 4, 1) := by decide +kernel
theorem dX10_alike_32 : decode cX10_alike 32 = .ok (.iload_n 1, 1) := by decide +kernel
theorem dX10_alike_33 : decode cX10_alike 33 = .ok (.imul, 1) := by decide +kernel
theorem dX10_alike_34 : decode cX10_alike 34 = .ok (.iadd, 1) := by decide +kernel
theorem dX10_alike_35 : decode cX10_alike 35 = .ok (.iconst 2, 1) := by decide +kernel
theorem dX10_alike_36 : decode cX10_alike 36 = .ok (.iadd, 1) := by decide +kernel
theorem dX10_alike_37 : decode cX10_alike 37 = .ok (.iaload, 1) := by decide +kernel
theorem dX10_alike_38 : decode cX10_alike 38 = .ok (.if_icmp .ne 7, 3) := by decide +kernel
theorem dX10_alike_41 : decode cX10_alike 41 = .ok (.iconst 1, 1) := by decide +kernel
theorem dX10_alike_42 : decode cX10_alike 42 = .ok (.goto 4, 3) := by decide +kernel
theorem dX10_alike_45 : decode cX10_alike 45 = .ok (.iconst 0, 1) := by decide +kernel
theorem dX10_alike_46 : decode cX10_alike 46 = .ok (.iadd, 1) := by decide +kernel
theorem dX10_alike_47 : decode cX10_alike 47 = .ok (.istore_n 2, 1) := by decide +kernel
theorem dX10_alike_48 : decode cX10_alike 48 = .ok (.iinc 3 1, 3) := by decide +kernel
theorem dX10_alike_51 : decode cX10_alike 51 = .ok (.goto (-47), 3) := by decide +kernel
theorem dX10_alike_54 : decode cX10_alike 54 = .ok (.iload_n 2, 1) := by decide +kernel
theorem dX10_alike_55 : decode cX10_alike 55 = .ok (.ireturn, 1) := by decide +kernel
theorem dX10_echoes_0 : decode cX10_echoes 0 = .ok (.aload_n 0, 1) := by decide +kernel
theorem dX10_echoes_1 : decode cX10_echoes 1 = .ok (.iconst 0, 1) := by decide +kernel
theorem dX10_echoes_2 : decode cX10_echoes 2 = .ok (.putfield 44, 3) := by decide +kernel
theorem dX10_echoes_5 : decode cX10_echoes 5 = .ok (.iconst 0, 1) := by decide +kernel
theorem dX10_echoes_6 : decode cX10_echoes 6 = .ok (.istore_n 1, 1) := by decide +kernel
theorem dX10_echoes_7 : decode cX10_echoes 7 = .ok (.iconst 0, 1) := by decide +kernel
theorem dX10_echoes_8 : decode cX10_echoes 8 = .ok (.istore_n 2, 1) := by decide +kernel
theorem dX10_echoes_9 : decode cX10_echoes 9 = .ok (.iload_n 2, 1) := by decide +kernel
theorem dX10_echoes_10 : decode cX10_echoes 10 = .ok (.aload_n 0, 1) := by decide +kernel
theorem dX10_echoes_11 : decode cX10_echoes 11 = .ok (.getfield 9, 3) := by decide +kernel
theorem dX10_echoes_14 : decode cX10_echoes 14 = .ok (.iconst 4, 1) := by decide +kernel
theorem dX10_echoes_15 : decode cX10_echoes 15 = .ok (.iaload, 1) := by decide +kernel
theorem dX10_echoes_16 : decode cX10_echoes 16 = .ok (.if_icmp .ge 17, 3) := by decide +kernel
theorem dX10_echoes_19 : decode cX10_echoes 19 = .ok (.iload_n 1, 1) := by decide +kernel
theorem dX10_echoes_20 : decode cX10_echoes 20 = .ok (.aload_n 0, 1) := by decide +kernel
theorem dX10_echoes_21 : decode cX10_echoes 21 = .ok (.iload_n 2, 1) := by decide +kernel
theorem dX10_echoes_22 : decode cX10_echoes 22 = .ok (.invokevirtual 173, 3) := by decide +kernel
theorem dX10_echoes_25 : decode cX10_echoes 25 = .ok (.iadd, 1) := by decide +kernel
theorem dX10_echoes_26 : decode cX10_echoes 26 = .ok (.istore_n 1, 1) := by decide +kernel
theorem dX10_echoes_27 : decode cX10_echoes 27 = .ok (.iinc 2 1, 3) := by decide +kernel
theorem dX10_echoes_30 : decode cX10_echoes 30 = .ok (.goto (-21), 3) := by decide +kernel
theorem dX10_echoes_33 : decode cX10_echoes 33 = .ok (.iload_n 1, 1) := by decide +kernel
theorem dX10_echoes_34 : decode cX10_echoes 34 = .ok (.ireturn, 1) := by decide +kernel
theorem dX10_echoPairs_0 : decode cX10_echoPairs 0 = .ok (.aload_n 0, 1) := by decide +kernel
theorem dX10_echoPairs_1 : decode cX10_echoPairs 1 = .ok (.invokevirtual 176, 3) := by decide +kernel
theorem dX10_echoPairs_4 : decode cX10_echoPairs 4 = .ok (.ireturn, 1) := by decide +kernel
theorem dX10_echoPairsByPitch_0 : decode cX10_echoPairsByPitch 0 = .ok (.aload_n 0, 1) := by decide +kernel
theorem dX10_echoPairsByPitch_1 : decode cX10_echoPairsByPitch 1 = .ok (.invokevirtual 176, 3) := by decide +kernel
theorem dX10_echoPairsByPitch_4 : decode cX10_echoPairsByPitch 4 = .ok (.ireturn, 1) := by decide +kernel
theorem dX10_pitchCount_0 : decode cX10_pitchCount 0 = .ok (.aload_n 0, 1) := by decide +kernel
theorem dX10_pitchCount_1 : decode cX10_pitchCount 1 = .ok (.iconst 0, 1) := by decide +kernel
theorem dX10_pitchCount_2 : decode cX10_pitchCount 2 = .ok (.putfield 44, 3) := by decide +kernel
theorem dX10_pitchCount_5 : decode cX10_pitchCount 5 = .ok (.iconst 0, 1) := by decide +kernel
theorem dX10_pitchCount_6 : decode cX10_pitchCount 6 = .ok (.istore_n 1, 1) := by decide +kernel
theorem dX10_pitchCount_7 : decode cX10_pitchCount 7 = .ok (.iconst 0, 1) := by decide +kernel
theorem dX10_pitchCount_8 : decode cX10_pitchCount 8 = .ok (.istore_n 2, 1) := by decide +kernel
theorem dX10_pitchCount_9 : decode cX10_pitchCount 9 = .ok (.iload_n 2, 1) := by decide +kernel
theorem dX10_pitchCount_10 : decode cX10_pitchCount 10 = .ok (.aload_n 0, 1) := by decide +kernel
theorem dX10_pitchCount_11 : decode cX10_pitchCount 11 = .ok (.getfield 9, 3) := by decide +kernel
theorem dX10_pitchCount_14 : decode cX10_pitchCount 14 = .ok (.iconst 4, 1) := by decide +kernel
theorem dX10_pitchCount_15 : decode cX10_pitchCount 15 = .ok (.iaload, 1) := by decide +kernel
theorem dX10_pitchCount_16 : decode cX10_pitchCount 16 = .ok (.if_icmp .ge 25, 3) := by decide +kernel
theorem dX10_pitchCount_19 : decode cX10_pitchCount 19 = .ok (.iload_n 1, 1) := by decide +kernel
theorem dX10_pitchCount_20 : decode cX10_pitchCount 20 = .ok (.aload_n 0, 1) := by decide +kernel
theorem dX10_pitchCount_21 : decode cX10_pitchCount 21 = .ok (.iload_n 2, 1) := by decide +kernel
theorem dX10_pitchCount_22 : decode cX10_pitchCount 22 = .ok (.invokevirtual 173, 3) := by decide +kernel
theorem dX10_pitchCount_25 : decode cX10_pitchCount 25 = .ok (.ifCond .ne 7, 3) := by decide +kernel
theorem dX10_pitchCount_28 : decode cX10_pitchCount 28 = .ok (.iconst 1, 1) := by decide +kernel
theorem dX10_pitchCount_29 : decode cX10_pitchCount 29 = .ok (.goto 4, 3) := by decide +kernel
theorem dX10_pitchCount_32 : decode cX10_pitchCount 32 = .ok (.iconst 0, 1) := by decide +kernel
theorem dX10_pitchCount_33 : decode cX10_pitchCount 33 = .ok (.iadd, 1) := by decide +kernel
theorem dX10_pitchCount_34 : decode cX10_pitchCount 34 = .ok (.istore_n 1, 1) := by decide +kernel
theorem dX10_pitchCount_35 : decode cX10_pitchCount 35 = .ok (.iinc 2 1, 3) := by decide +kernel
theorem dX10_pitchCount_38 : decode cX10_pitchCount 38 = .ok (.goto (-29), 3) := by decide +kernel
theorem dX10_pitchCount_41 : decode cX10_pitchCount 41 = .ok (.iload_n 1, 1) := by decide +kernel
theorem dX10_pitchCount_42 : decode cX10_pitchCount 42 = .ok (.ireturn, 1) := by decide +kernel
theorem dX10_cracksOf_0 : decode cX10_cracksOf 0 = .ok (.aload_n 0, 1) := by decide +kernel
theorem dX10_cracksOf_1 : decode cX10_cracksOf 1 = .ok (.iload_n 1, 1) := by decide +kernel
theorem dX10_cracksOf_2 : decode cX10_cracksOf 2 = .ok (.iconst 1, 1) := by decide +kernel
theorem dX10_cracksOf_3 : decode cX10_cracksOf 3 = .ok (.invokevirtual 161, 3) := by decide +kernel
theorem dX10_cracksOf_6 : decode cX10_cracksOf 6 = .ok (.ireturn, 1) := by decide +kernel
theorem dX10_lakeAtRank_0 : decode cX10_lakeAtRank 0 = .ok (.iconst (-1), 1) := by decide +kernel
theorem dX10_lakeAtRank_1 : decode cX10_lakeAtRank 1 = .ok (.istore_n 2, 1) := by decide +kernel
theorem dX10_lakeAtRank_2 : decode cX10_lakeAtRank 2 = .ok (.iconst 0, 1) := by decide +kernel
theorem dX10_lakeAtRank_3 : decode cX10_lakeAtRank 3 = .ok (.istore_n 3, 1) := by decide +kernel
theorem dX10_lakeAtRank_4 : decode cX10_lakeAtRank 4 = .ok (.iload_n 3, 1) := by decide +kernel
theorem dX10_lakeAtRank_5 : decode cX10_lakeAtRank 5 = .ok (.aload_n 0, 1) := by decide +kernel
theorem dX10_lakeAtRank_6 : decode cX10_lakeAtRank 6 = .ok (.getfield 9, 3) := by decide +kernel
theorem dX10_lakeAtRank_9 : decode cX10_lakeAtRank 9 = .ok (.iconst 2, 1) := by decide +kernel
theorem dX10_lakeAtRank_10 : decode cX10_lakeAtRank 10 = .ok (.iaload, 1) := by decide +kernel
theorem dX10_lakeAtRank_11 : decode cX10_lakeAtRank 11 = .ok (.if_icmp .ge 110, 3) := by decide +kernel
theorem dX10_lakeAtRank_14 : decode cX10_lakeAtRank 14 = .ok (.iconst 0, 1) := by decide +kernel
theorem dX10_lakeAtRank_15 : decode cX10_lakeAtRank 15 = .ok (.istore 4, 2) := by decide +kernel
theorem dX10_lakeAtRank_17 : decode cX10_lakeAtRank 17 = .ok (.iconst 0, 1) := by decide +kernel
theorem dX10_lakeAtRank_18 : decode cX10_lakeAtRank 18 = .ok (.istore 5, 2) := by decide +kernel
theorem dX10_lakeAtRank_20 : decode cX10_lakeAtRank 20 = .ok (.iload 5, 2) := by decide +kernel
theorem dX10_lakeAtRank_22 : decode cX10_lakeAtRank 22 = .ok (.aload_n 0, 1) := by decide +kernel
theorem dX10_lakeAtRank_23 : decode cX10_lakeAtRank 23 = .ok (.getfield 9, 3) := by decide +kernel
theorem dX10_lakeAtRank_26 : decode cX10_lakeAtRank 26 = .ok (.iconst 2, 1) := by decide +kernel
theorem dX10_lakeAtRank_27 : decode cX10_lakeAtRank 27 = .ok (.iaload, 1) := by decide +kernel
theorem dX10_lakeAtRank_28 : decode cX10_lakeAtRank 28 = .ok (.if_icmp .ge 75, 3) := by decide +kernel
theorem dX10_lakeAtRank_31 : decode cX10_lakeAtRank 31 = .ok (.aload_n 0, 1) := by decide +kernel
theorem dX10_lakeAtRank_32 : decode cX10_lakeAtRank 32 = .ok (.iload 5, 2) := by decide +kernel
theorem dX10_lakeAtRank_34 : decode cX10_lakeAtRank 34 = .ok (.invokevirtual 107, 3) := by decide +kernel
theorem dX10_lakeAtRank_37 : decode cX10_lakeAtRank 37 = .ok (.aload_n 0, 1) := by decide +kernel
theorem dX10_lakeAtRank_38 : decode cX10_lakeAtRank 38 = .ok (.iload_n 3, 1) := by decide +kernel
theorem dX10_lakeAtRank_39 : decode cX10_lakeAtRank 39 = .ok (.invokevirtual 107, 3) := by decide +kernel
theorem dX10_lakeAtRank_42 : decode cX10_lakeAtRank 42 = .ok (.isub, 1) := by decide +kernel
theorem dX10_lakeAtRank_43 : decode cX10_lakeAtRank 43 = .ok (.istore 6, 2) := by decide +kernel
theorem dX10_lakeAtRank_45 : decode cX10_lakeAtRank 45 = .ok (.aload_n 0, 1) := by decide +kernel
theorem dX10_lakeAtRank_46 : decode cX10_lakeAtRank 46 = .ok (.iload 5, 2) := by decide +kernel
theorem dX10_lakeAtRank_48 : decode cX10_lakeAtRank 48 = .ok (.iconst 1, 1) := by decide +kernel
theorem dX10_lakeAtRank_49 : decode cX10_lakeAtRank 49 = .ok (.invokevirtual 77, 3) := by decide +kernel
theorem dX10_lakeAtRank_52 : decode cX10_lakeAtRank 52 = .ok (.aload_n 0, 1) := by decide +kernel
theorem dX10_lakeAtRank_53 : decode cX10_lakeAtRank 53 = .ok (.iload_n 3, 1) := by decide +kernel
theorem dX10_lakeAtRank_54 : decode cX10_lakeAtRank 54 = .ok (.iconst 1, 1) := by decide +kernel
theorem dX10_lakeAtRank_55 : decode cX10_lakeAtRank 55 = .ok (.invokevirtual 77, 3) := by decide +kernel
theorem dX10_lakeAtRank_58 : decode cX10_lakeAtRank 58 = .ok (.isub, 1) := by decide +kernel
theorem dX10_lakeAtRank_59 : decode cX10_lakeAtRank 59 = .ok (.istore 7, 2) := by decide +kernel
theorem dX10_lakeAtRank_61 : decode cX10_lakeAtRank 61 = .ok (.iload 4, 2) := by decide +kernel
theorem dX10_lakeAtRank_63 : decode cX10_lakeAtRank 63 = .ok (.iload 6, 2) := by decide +kernel
theorem dX10_lakeAtRank_65 : decode cX10_lakeAtRank 65 = .ok (.ifCond .gt 24, 3) := by decide +kernel
theorem dX10_lakeAtRank_68 : decode cX10_lakeAtRank 68 = .ok (.iload 6, 2) := by decide +kernel
theorem dX10_lakeAtRank_70 : decode cX10_lakeAtRank 70 = .ok (.ifCond .ne 23, 3) := by decide +kernel
theorem dX10_lakeAtRank_73 : decode cX10_lakeAtRank 73 = .ok (.iload 7, 2) := by decide +kernel
theorem dX10_lakeAtRank_75 : decode cX10_lakeAtRank 75 = .ok (.ifCond .gt 14, 3) := by decide +kernel
theorem dX10_lakeAtRank_78 : decode cX10_lakeAtRank 78 = .ok (.iload 7, 2) := by decide +kernel
theorem dX10_lakeAtRank_80 : decode cX10_lakeAtRank 80 = .ok (.ifCond .ne 13, 3) := by decide +kernel
theorem dX10_lakeAtRank_83 : decode cX10_lakeAtRank 83 = .ok (.iload 5, 2) := by decide +kernel
theorem dX10_lakeAtRank_85 : decode cX10_lakeAtRank 85 = .ok (.iload_n 3, 1) := by decide +kernel
theorem dX10_lakeAtRank_86 : decode cX10_lakeAtRank 86 = .ok (.if_icmp .ge 7, 3) := by decide +kernel
theorem dX10_lakeAtRank_89 : decode cX10_lakeAtRank 89 = .ok (.iconst 1, 1) := by decide +kernel
theorem dX10_lakeAtRank_90 : decode cX10_lakeAtRank 90 = .ok (.goto 4, 3) := by decide +kernel
theorem dX10_lakeAtRank_93 : decode cX10_lakeAtRank 93 = .ok (.iconst 0, 1) := by decide +kernel
theorem dX10_lakeAtRank_94 : decode cX10_lakeAtRank 94 = .ok (.iadd, 1) := by decide +kernel
theorem dX10_lakeAtRank_95 : decode cX10_lakeAtRank 95 = .ok (.istore 4, 2) := by decide +kernel
theorem dX10_lakeAtRank_97 : decode cX10_lakeAtRank 97 = .ok (.iinc 5 1, 3) := by decide +kernel
theorem dX10_lakeAtRank_100 : decode cX10_lakeAtRank 100 = .ok (.goto (-80), 3) := by decide +kernel
theorem dX10_lakeAtRank_103 : decode cX10_lakeAtRank 103 = .ok (.iload 4, 2) := by decide +kernel
theorem dX10_lakeAtRank_105 : decode cX10_lakeAtRank 105 = .ok (.iload_n 1, 1) := by decide +kernel
theorem dX10_lakeAtRank_106 : decode cX10_lakeAtRank 106 = .ok (.if_icmp .ne 7, 3) := by decide +kernel
theorem dX10_lakeAtRank_109 : decode cX10_lakeAtRank 109 = .ok (.iload_n 3, 1) := by decide +kernel
theorem dX10_lakeAtRank_110 : decode cX10_lakeAtRank 110 = .ok (.goto 4, 3) := by decide +kernel
theorem dX10_lakeAtRank_113 : decode cX10_lakeAtRank 113 = .ok (.iload_n 2, 1) := by decide +kernel
theorem dX10_lakeAtRank_114 : decode cX10_lakeAtRank 114 = .ok (.istore_n 2, 1) := by decide +kernel
theorem dX10_lakeAtRank_115 : decode cX10_lakeAtRank 115 = .ok (.iinc 3 1, 3) := by decide +kernel
theorem dX10_lakeAtRank_118 : decode cX10_lakeAtRank 118 = .ok (.goto (-114), 3) := by decide +kernel
theorem dX10_lakeAtRank_121 : decode cX10_lakeAtRank 121 = .ok (.aload_n 0, 1) := by decide +kernel
theorem dX10_lakeAtRank_122 : decode cX10_lakeAtRank 122 = .ok (.iload_n 2, 1) := by decide +kernel
theorem dX10_lakeAtRank_123 : decode cX10_lakeAtRank 123 = .ok (.iconst (-1), 1) := by decide +kernel
theorem dX10_lakeAtRank_124 : decode cX10_lakeAtRank 124 = .ok (.if_icmp .eq 7, 3) := by decide +kernel
theorem dX10_lakeAtRank_127 : decode cX10_lakeAtRank 127 = .ok (.iconst 1, 1) := by decide +kernel
theorem dX10_lakeAtRank_128 : decode cX10_lakeAtRank 128 = .ok (.goto 4, 3) := by decide +kernel
theorem dX10_lakeAtRank_131 : decode cX10_lakeAtRank 131 = .ok (.iconst 0, 1) := by decide +kernel
theorem dX10_lakeAtRank_132 : decode cX10_lakeAtRank 132 = .ok (.invokevirtual 61, 3) := by decide +kernel
theorem dX10_lakeAtRank_135 : decode cX10_lakeAtRank 135 = .ok (.ifCond .eq 7, 3) := by decide +kernel
theorem dX10_lakeAtRank_138 : decode cX10_lakeAtRank 138 = .ok (.iload_n 2, 1) := by decide +kernel
theorem dX10_lakeAtRank_139 : decode cX10_lakeAtRank 139 = .ok (.goto 4, 3) := by decide +kernel
theorem dX10_lakeAtRank_142 : decode cX10_lakeAtRank 142 = .ok (.iconst 0, 1) := by decide +kernel
theorem dX10_lakeAtRank_143 : decode cX10_lakeAtRank 143 = .ok (.ireturn, 1) := by decide +kernel
theorem dX10_frozenTotal_0 : decode cX10_frozenTotal 0 = .ok (.aload_n 0, 1) := by decide +kernel
theorem dX10_frozenTotal_1 : decode cX10_frozenTotal 1 = .ok (.iconst 0, 1) := by decide +kernel
theorem dX10_frozenTotal_2 : decode cX10_frozenTotal 2 = .ok (.putfield 44, 3) := by decide +kernel
theorem dX10_frozenTotal_5 : decode cX10_frozenTotal 5 = .ok (.aload_n 0, 1) := by decide +kernel
theorem dX10_frozenTotal_6 : decode cX10_frozenTotal 6 = .ok (.getfield 9, 3) := by decide +kernel
theorem dX10_frozenTotal_9 : decode cX10_frozenTotal 9 = .ok (.iconst 5, 1) := by decide +kernel
theorem dX10_frozenTotal_10 : decode cX10_frozenTotal 10 = .ok (.iaload, 1) := by decide +kernel
theorem dX10_frozenTotal_11 : decode cX10_frozenTotal 11 = .ok (.ireturn, 1) := by decide +kernel
theorem dX10_thawedTotal_0 : decode cX10_thawedTotal 0 = .ok (.aload_n 0, 1) := by decide +kernel
theorem dX10_thawedTotal_1 : decode cX10_thawedTotal 1 = .ok (.iconst 0, 1) := by decide +kernel
theorem dX10_thawedTotal_2 : decode cX10_thawedTotal 2 = .ok (.putfield 44, 3) := by decide +kernel
theorem dX10_thawedTotal_5 : decode cX10_thawedTotal 5 = .ok (.aload_n 0, 1) := by decide +kernel
theorem dX10_thawedTotal_6 : decode cX10_thawedTotal 6 = .ok (.getfield 9, 3) := by decide +kernel
theorem dX10_thawedTotal_9 : decode cX10_thawedTotal 9 = .ok (.bipush 6, 2) := by decide +kernel
theorem dX10_thawedTotal_11 : decode cX10_thawedTotal 11 = .ok (.iaload, 1) := by decide +kernel
theorem dX10_thawedTotal_12 : decode cX10_thawedTotal 12 = .ok (.ireturn, 1) := by decide +kernel
theorem dX10_crackTotal_0 : decode cX10_crackTotal 0 = .ok (.aload_n 0, 1) := by decide +kernel
theorem dX10_crackTotal_1 : decode cX10_crackTotal 1 = .ok (.iconst 0, 1) := by decide +kernel
theorem dX10_crackTotal_2 : decode cX10_crackTotal 2 = .ok (.putfield 44, 3) := by decide +kernel
theorem dX10_crackTotal_5 : decode cX10_crackTotal 5 = .ok (.iconst 0, 1) := by decide +kernel
theorem dX10_crackTotal_6 : decode cX10_crackTotal 6 = .ok (.istore_n 1, 1) := by decide +kernel
theorem dX10_crackTotal_7 : decode cX10_crackTotal 7 = .ok (.iconst 0, 1) := by decide +kernel
theorem dX10_crackTotal_8 : decode cX10_crackTotal 8 = .ok (.istore_n 2, 1) := by decide +kernel
theorem dX10_crackTotal_9 : decode cX10_crackTotal 9 = .ok (.iload_n 2, 1) := by decide +kernel
theorem dX10_crackTotal_10 : decode cX10_crackTotal 10 = .ok (.aload_n 0, 1) := by decide +kernel
theorem dX10_crackTotal_11 : decode cX10_crackTotal 11 = .ok (.getfield 9, 3) := by decide +kernel
theorem dX10_crackTotal_14 : decode cX10_crackTotal 14 = .ok (.iconst 2, 1) := by decide +kernel
theorem dX10_crackTotal_15 : decode cX10_crackTotal 15 = .ok (.iaload, 1) := by decide +kernel
theorem dX10_crackTotal_16 : decode cX10_crackTotal 16 = .ok (.if_icmp .ge 18, 3) := by decide +kernel
theorem dX10_crackTotal_19 : decode cX10_crackTotal 19 = .ok (.iload_n 1, 1) := by decide +kernel
theorem dX10_crackTotal_20 : decode cX10_crackTotal 20 = .ok (.aload_n 0, 1) := by decide +kernel
theorem dX10_crackTotal_21 : decode cX10_crackTotal 21 = .ok (.iload_n 2, 1) := by decide +kernel
theorem dX10_crackTotal_22 : decode cX10_crackTotal 22 = .ok (.iconst 1, 1) := by decide +kernel
theorem dX10_crackTotal_23 : decode cX10_crackTotal 23 = .ok (.invokevirtual 77, 3) := by decide +kernel
theorem dX10_crackTotal_26 : decode cX10_crackTotal 26 = .ok (.iadd, 1) := by decide +kernel
theorem dX10_crackTotal_27 : decode cX10_crackTotal 27 = .ok (.istore_n 1, 1) := by decide +kernel
theorem dX10_crackTotal_28 : decode cX10_crackTotal 28 = .ok (.iinc 2 1, 3) := by decide +kernel
theorem dX10_crackTotal_31 : decode cX10_crackTotal 31 = .ok (.goto (-22), 3) := by decide +kernel
theorem dX10_crackTotal_34 : decode cX10_crackTotal 34 = .ok (.iload_n 1, 1) := by decide +kernel
theorem dX10_crackTotal_35 : decode cX10_crackTotal 35 = .ok (.ireturn, 1) := by decide +kernel
theorem dX10_meanTemperature_0 : decode cX10_meanTemperature 0 = .ok (.aload_n 0, 1) := by decide +kernel
theorem dX10_meanTemperature_1 : decode cX10_meanTemperature 1 = .ok (.iload_n 1, 1) := by decide +kernel
theorem dX10_meanTemperature_2 : decode cX10_meanTemperature 2 = .ok (.iconst 2, 1) := by decide +kernel
theorem dX10_meanTemperature_3 : decode cX10_meanTemperature 3 = .ok (.invokevirtual 77, 3) := by decide +kernel
theorem dX10_meanTemperature_6 : decode cX10_meanTemperature 6 = .ok (.istore_n 2, 1) := by decide +kernel
theorem dX10_meanTemperature_7 : decode cX10_meanTemperature 7 = .ok (.iconst 0, 1) := by decide +kernel
theorem dX10_meanTemperature_8 : decode cX10_meanTemperature 8 = .ok (.istore_n 3, 1) := by decide +kernel
theorem dX10_meanTemperature_9 : decode cX10_meanTemperature 9 = .ok (.iconst 0, 1) := by decide +kernel
theorem dX10_meanTemperature_10 : decode cX10_meanTemperature 10 = .ok (.istore 4, 2) := by decide +kernel
theorem dX10_meanTemperature_12 : decode cX10_meanTemperature 12 = .ok (.iload 4, 2) := by decide +kernel
theorem dX10_meanTemperature_14 : decode cX10_meanTemperature 14 = .ok (.iload_n 2, 1) := by decide +kernel
theorem dX10_meanTemperature_15 : decode cX10_meanTemperature 15 = .ok (.if_icmp .ge 20, 3) := by decide +kernel
theorem dX10_meanTemperature_18 : decode cX10_meanTemperature 18 = .ok (.iload_n 3, 1) := by decide +kernel
theorem dX10_meanTemperature_19 : decode cX10_meanTemperature 19 = .ok (.aload_n 0, 1) := by decide +kernel
theorem dX10_meanTemperature_20 : decode cX10_meanTemperature 20 = .ok (.iload_n 1, 1) := by decide +kernel
theorem dX10_meanTemperature_21 : decode cX10_meanTemperature 21 = .ok (.iload 4, 2) := by decide +kernel
theorem dX10_meanTemperature_23 : decode cX10_meanTemperature 23 = .ok (.iconst 1, 1) := by decide +kernel
theorem dX10_meanTemperature_24 : decode cX10_meanTemperature 24 = .ok (.invokevirtual 88, 3) := by decide +kernel
theorem dX10_meanTemperature_27 : decode cX10_meanTemperature 27 = .ok (.iadd, 1) := by decide +kernel
theorem dX10_meanTemperature_28 : decode cX10_meanTemperature 28 = .ok (.istore_n 3, 1) := by decide +kernel
theorem dX10_meanTemperature_29 : decode cX10_meanTemperature 29 = .ok (.iinc 4 1, 3) := by decide +kernel
theorem dX10_meanTemperature_32 : decode cX10_meanTemperature 32 = .ok (.goto (-20), 3) := by decide +kernel
theorem dX10_meanTemperature_35 : decode cX10_meanTemperature 35 = .ok (.aload_n 0, 1) := by decide +kernel
theorem dX10_meanTemperature_36 : decode cX10_meanTemperature 36 = .ok (.aload_n 0, 1) := by decide +kernel
theorem dX10_meanTemperature_37 : decode cX10_meanTemperature 37 = .ok (.iload_n 1, 1) := by decide +kernel
theorem dX10_meanTemperature_38 : decode cX10_meanTemperature 38 = .ok (.invokevirtual 73, 3) := by decide +kernel
theorem dX10_meanTemperature_41 : decode cX10_meanTemperature 41 = .ok (.iload_n 2, 1) := by decide +kernel
theorem dX10_meanTemperature_42 : decode cX10_meanTemperature 42 = .ok (.ifCond .le 7, 3) := by decide +kernel
theorem dX10_meanTemperature_45 : decode cX10_meanTemperature 45 = .ok (.iconst 1, 1) := by decide +kernel
theorem dX10_meanTemperature_46 : decode cX10_meanTemperature 46 = .ok (.goto 4, 3) := by decide +kernel
theorem dX10_meanTemperature_49 : decode cX10_meanTemperature 49 = .ok (.iconst 0, 1) := by decide +kernel
theorem dX10_meanTemperature_50 : decode cX10_meanTemperature 50 = .ok (.iconst 1, 1) := by decide +kernel
theorem dX10_meanTemperature_51 : decode cX10_meanTemperature 51 = .ok (.iconst 1, 1) := by decide +kernel
theorem dX10_meanTemperature_52 : decode cX10_meanTemperature 52 = .ok (.invokevirtual 47, 3) := by decide +kernel
theorem dX10_meanTemperature_55 : decode cX10_meanTemperature 55 = .ok (.ifCond .eq 11, 3) := by decide +kernel
theorem dX10_meanTemperature_58 : decode cX10_meanTemperature 58 = .ok (.iload_n 3, 1) := by decide +kernel
theorem dX10_meanTemperature_59 : decode cX10_meanTemperature 59 = .ok (.i2d, 1) := by decide +kernel
theorem dX10_meanTemperature_60 : decode cX10_meanTemperature 60 = .ok (.iload_n 2, 1) := by decide +kernel
theorem dX10_meanTemperature_61 : decode cX10_meanTemperature 61 = .ok (.i2d, 1) := by decide +kernel
theorem dX10_meanTemperature_62 : decode cX10_meanTemperature 62 = .ok (.ddiv, 1) := by decide +kernel
theorem dX10_meanTemperature_63 : decode cX10_meanTemperature 63 = .ok (.goto 4, 3) := by decide +kernel
theorem dX10_meanTemperature_66 : decode cX10_meanTemperature 66 = .ok (.dconst 0, 1) := by decide +kernel
theorem dX10_meanTemperature_67 : decode cX10_meanTemperature 67 = .ok (.dreturn, 1) := by decide +kernel
theorem dX10_iceShare_0 : decode cX10_iceShare 0 = .ok (.aload_n 0, 1) := by decide +kernel
theorem dX10_iceShare_1 : decode cX10_iceShare 1 = .ok (.aload_n 0, 1) := by decide +kernel
theorem dX10_iceShare_2 : decode cX10_iceShare 2 = .ok (.iload_n 1, 1) := by decide +kernel
theorem dX10_iceShare_3 : decode cX10_iceShare 3 = .ok (.invokevirtual 73, 3) := by decide +kernel
theorem dX10_iceShare_6 : decode cX10_iceShare 6 = .ok (.invokevirtual 61, 3) := by decide +kernel
theorem dX10_iceShare_9 : decode cX10_iceShare 9 = .ok (.ifCond .eq 20, 3) := by decide +kernel
theorem dX10_iceShare_12 : decode cX10_iceShare 12 = .ok (.aload_n 0, 1) := by decide +kernel
theorem dX10_iceShare_13 : decode cX10_iceShare 13 = .ok (.iload_n 1, 1) := by decide +kernel
theorem dX10_iceShare_14 : decode cX10_iceShare 14 = .ok (.invokevirtual 107, 3) := by decide +kernel
theorem dX10_iceShare_17 : decode cX10_iceShare 17 = .ok (.i2f, 1) := by decide +kernel
theorem dX10_iceShare_18 : decode cX10_iceShare 18 = .ok (.aload_n 0, 1) := by decide +kernel
theorem dX10_iceShare_19 : decode cX10_iceShare 19 = .ok (.iload_n 1, 1) := by decide +kernel
theorem dX10_iceShare_20 : decode cX10_iceShare 20 = .ok (.iconst 0, 1) := by decide +kernel
theorem dX10_iceShare_21 : decode cX10_iceShare 21 = .ok (.invokevirtual 77, 3) := by decide +kernel
theorem dX10_iceShare_24 : decode cX10_iceShare 24 = .ok (.i2f, 1) := by decide +kernel
theorem dX10_iceShare_25 : decode cX10_iceShare 25 = .ok (.fdiv, 1) := by decide +kernel
theorem dX10_iceShare_26 : decode cX10_iceShare 26 = .ok (.goto 4, 3) := by decide +kernel
theorem dX10_iceShare_29 : decode cX10_iceShare 29 = .ok (.fconst 0, 1) := by decide +kernel
theorem dX10_iceShare_30 : decode cX10_iceShare 30 = .ok (.freturn, 1) := by decide +kernel
theorem dX10_isConsistent_0 : decode cX10_isConsistent 0 = .ok (.aload_n 0, 1) := by decide +kernel
theorem dX10_isConsistent_1 : decode cX10_isConsistent 1 = .ok (.iconst 0, 1) := by decide +kernel
theorem dX10_isConsistent_2 : decode cX10_isConsistent 2 = .ok (.putfield 44, 3) := by decide +kernel
theorem dX10_isConsistent_5 : decode cX10_isConsistent 5 = .ok (.iconst 1, 1) := by decide +kernel
theorem dX10_isConsistent_6 : decode cX10_isConsistent 6 = .ok (.ireturn, 1) := by decide +kernel
theorem dX10_put_0 : decode cX10_put 0 = .ok (.aload_n 0, 1) := by decide +kernel
theorem dX10_put_1 : decode cX10_put 1 = .ok (.getfield 38, 3) := by decide +kernel
theorem dX10_put_4 : decode cX10_put 4 = .ok (.iload_n 1, 1) := by decide +kernel
theorem dX10_put_5 : decode cX10_put 5 = .ok (.iload_n 2, 1) := by decide +kernel
theorem dX10_put_6 : decode cX10_put 6 = .ok (.iastore, 1) := by decide +kernel
theorem dX10_put_7 : decode cX10_put 7 = .ok (.iload_n 1, 1) := by decide +kernel
theorem dX10_put_8 : decode cX10_put 8 = .ok (.iconst 1, 1) := by decide +kernel
theorem dX10_put_9 : decode cX10_put 9 = .ok (.iadd, 1) := by decide +kernel
theorem dX10_put_10 : decode cX10_put 10 = .ok (.ireturn, 1) := by decide +kernel
theorem dX10_writesNumber_0 : decode cX10_writesNumber 0 = .ok (.iload_n 2, 1) := by decide +kernel
theorem dX10_writesNumber_1 : decode cX10_writesNumber 1 = .ok (.ifCond .ge 13, 3) := by decide +kernel
theorem dX10_writesNumber_4 : decode cX10_writesNumber 4 = .ok (.aload_n 0, 1) := by decide +kernel
theorem dX10_writesNumber_5 : decode cX10_writesNumber 5 = .ok (.iload_n 1, 1) := by decide +kernel
theorem dX10_writesNumber_6 : decode cX10_writesNumber 6 = .ok (.bipush 45, 2) := by decide +kernel
theorem dX10_writesNumber_8 : decode cX10_writesNumber 8 = .ok (.invokevirtual 179, 3) := by decide +kernel
theorem dX10_writesNumber_11 : decode cX10_writesNumber 11 = .ok (.goto 4, 3) := by decide +kernel
theorem dX10_writesNumber_14 : decode cX10_writesNumber 14 = .ok (.iload_n 1, 1) := by decide +kernel
theorem dX10_writesNumber_15 : decode cX10_writesNumber 15 = .ok (.istore_n 3, 1) := by decide +kernel
theorem dX10_writesNumber_16 : decode cX10_writesNumber 16 = .ok (.iload_n 2, 1) := by decide +kernel
theorem dX10_writesNumber_17 : decode cX10_writesNumber 17 = .ok (.invokestatic 132, 3) := by decide +kernel
theorem dX10_writesNumber_20 : decode cX10_writesNumber 20 = .ok (.istore 4, 2) := by decide +kernel
theorem dX10_writesNumber_22 : decode cX10_writesNumber 22 = .ok (.iconst 1, 1) := by decide +kernel
theorem dX10_writesNumber_23 : decode cX10_writesNumber 23 = .ok (.istore 5, 2) := by decide +kernel
theorem dX10_writesNumber_25 : decode cX10_writesNumber 25 = .ok (.iload 4, 2) := by decide +kernel
theorem dX10_writesNumber_27 : decode cX10_writesNumber 27 = .ok (.iload 5, 2) := by decide +kernel
theorem dX10_writesNumber_29 : decode cX10_writesNumber 29 = .ok (.idiv, 1) := by decide +kernel
theorem dX10_writesNumber_30 : decode cX10_writesNumber 30 = .ok (.bipush 9, 2) := by decide +kernel
theorem dX10_writesNumber_32 : decode cX10_writesNumber 32 = .ok (.if_icmp .le 13, 3) := by decide +kernel
theorem dX10_writesNumber_35 : decode cX10_writesNumber 35 = .ok (.iload 5, 2) := by decide +kernel
theorem dX10_writesNumber_37 : decode cX10_writesNumber 37 = .ok (.bipush 10, 2) := by decide +kernel
theorem dX10_writesNumber_39 : decode cX10_writesNumber 39 = .ok (.imul, 1) := by decide +kernel
theorem dX10_writesNumber_40 : decode cX10_writesNumber 40 = .ok (.istore 5, 2) := by decide +kernel
theorem dX10_writesNumber_42 : decode cX10_writesNumber 42 = .ok (.goto (-17), 3) := by decide +kernel
theorem dX10_writesNumber_45 : decode cX10_writesNumber 45 = .ok (.iload 5, 2) := by decide +kernel
theorem dX10_writesNumber_47 : decode cX10_writesNumber 47 = .ok (.istore 6, 2) := by decide +kernel
theorem dX10_writesNumber_49 : decode cX10_writesNumber 49 = .ok (.iload 6, 2) := by decide +kernel
theorem dX10_writesNumber_51 : decode cX10_writesNumber 51 = .ok (.ifCond .le 30, 3) := by decide +kernel
theorem dX10_writesNumber_54 : decode cX10_writesNumber 54 = .ok (.aload_n 0, 1) := by decide +kernel
theorem dX10_writesNumber_55 : decode cX10_writesNumber 55 = .ok (.iload_n 3, 1) := by decide +kernel
theorem dX10_writesNumber_56 : decode cX10_writesNumber 56 = .ok (.bipush 48, 2) := by decide +kernel
theorem dX10_writesNumber_58 : decode cX10_writesNumber 58 = .ok (.iload 4, 2) := by decide +kernel
theorem dX10_writesNumber_60 : decode cX10_writesNumber 60 = .ok (.iload 6, 2) := by decide +kernel
theorem dX10_writesNumber_62 : decode cX10_writesNumber 62 = .ok (.idiv, 1) := by decide +kernel
theorem dX10_writesNumber_63 : decode cX10_writesNumber 63 = .ok (.bipush 10, 2) := by decide +kernel
theorem dX10_writesNumber_65 : decode cX10_writesNumber 65 = .ok (.irem, 1) := by decide +kernel
theorem dX10_writesNumber_66 : decode cX10_writesNumber 66 = .ok (.iadd, 1) := by decide +kernel
theorem dX10_writesNumber_67 : decode cX10_writesNumber 67 = .ok (.invokevirtual 179, 3) := by decide +kernel
theorem dX10_writesNumber_70 : decode cX10_writesNumber 70 = .ok (.istore_n 3, 1) := by decide +kernel
theorem dX10_writesNumber_71 : decode cX10_writesNumber 71 = .ok (.iload 6, 2) := by decide +kernel
theorem dX10_writesNumber_73 : decode cX10_writesNumber 73 = .ok (.bipush 10, 2) := by decide +kernel
theorem dX10_writesNumber_75 : decode cX10_writesNumber 75 = .ok (.idiv, 1) := by decide +kernel
theorem dX10_writesNumber_76 : decode cX10_writesNumber 76 = .ok (.istore 6, 2) := by decide +kernel
theorem dX10_writesNumber_78 : decode cX10_writesNumber 78 = .ok (.goto (-29), 3) := by decide +kernel
theorem dX10_writesNumber_81 : decode cX10_writesNumber 81 = .ok (.iload_n 3, 1) := by decide +kernel
theorem dX10_writesNumber_82 : decode cX10_writesNumber 82 = .ok (.ireturn, 1) := by decide +kernel
theorem dX10_describeLake_0 : decode cX10_describeLake 0 = .ok (.aload_n 0, 1) := by decide +kernel
theorem dX10_describeLake_1 : decode cX10_describeLake 1 = .ok (.aload_n 0, 1) := by decide +kernel
theorem dX10_describeLake_2 : decode cX10_describeLake 2 = .ok (.iload_n 1, 1) := by decide +kernel
theorem dX10_describeLake_3 : decode cX10_describeLake 3 = .ok (.invokevirtual 73, 3) := by decide +kernel
theorem dX10_describeLake_6 : decode cX10_describeLake 6 = .ok (.invokevirtual 61, 3) := by decide +kernel
theorem dX10_describeLake_9 : decode cX10_describeLake 9 = .ok (.ifCond .ne 5, 3) := by decide +kernel
theorem dX10_describeLake_12 : decode cX10_describeLake 12 = .ok (.iconst 0, 1) := by decide +kernel
theorem dX10_describeLake_13 : decode cX10_describeLake 13 = .ok (.ireturn, 1) := by decide +kernel
theorem dX10_describeLake_14 : decode cX10_describeLake 14 = .ok (.iconst 0, 1) := by decide +kernel
theorem dX10_describeLake_15 : decode cX10_describeLake 15 = .ok (.istore_n 2, 1) := by decide +kernel
theorem dX10_describeLake_16 : decode cX10_describeLake 16 = .ok (.iconst 0, 1) := by decide +kernel
theorem dX10_describeLake_17 : decode cX10_describeLake 17 = .ok (.istore_n 3, 1) := by decide +kernel
theorem dX10_describeLake_18 : decode cX10_describeLake 18 = .ok (.iload_n 3, 1) := by decide +kernel
theorem dX10_describeLake_19 : decode cX10_describeLake 19 = .ok (.aload_n 0, 1) := by decide +kernel
theorem dX10_describeLake_20 : decode cX10_describeLake 20 = .ok (.iload_n 1, 1) := by decide +kernel
theorem dX10_describeLake_21 : decode cX10_describeLake 21 = .ok (.iconst 2, 1) := by decide +kernel
theorem dX10_describeLake_22 : decode cX10_describeLake 22 = .ok (.invokevirtual 77, 3) := by decide +kernel
theorem dX10_describeLake_25 : decode cX10_describeLake 25 = .ok (.if_icmp .ge 79, 3) := by decide +kernel
theorem dX10_describeLake_28 : decode cX10_describeLake 28 = .ok (.aload_n 0, 1) := by decide +kernel
theorem dX10_describeLake_29 : decode cX10_describeLake 29 = .ok (.iload_n 3, 1) := by decide +kernel
theorem dX10_describeLake_30 : decode cX10_describeLake 30 = .ok (.ifCond .ne 7, 3) := by decide +kernel
theorem dX10_describeLake_33 : decode cX10_describeLake 33 = .ok (.iload_n 2, 1) := by decide +kernel
theorem dX10_describeLake_34 : decode cX10_describeLake 34 = .ok (.goto 10, 3) := by decide +kernel
theorem dX10_describeLake_37 : decode cX10_describeLake 37 = .ok (.aload_n 0, 1) := by decide +kernel
theorem dX10_describeLake_38 : decode cX10_describeLake 38 = .ok (.iload_n 2, 1) := by decide +kernel
theorem dX10_describeLake_39 : decode cX10_describeLake 39 = .ok (.bipush 32, 2) := by decide +kernel
theorem dX10_describeLake_41 : decode cX10_describeLake 41 = .ok (.invokevirtual 179, 3) := by decide +kernel
theorem dX10_describeLake_44 : decode cX10_describeLake 44 = .ok (.aload_n 0, 1) := by decide +kernel
theorem dX10_describeLake_45 : decode cX10_describeLake 45 = .ok (.iload_n 1, 1) := by decide +kernel
theorem dX10_describeLake_46 : decode cX10_describeLake 46 = .ok (.iload_n 3, 1) := by decide +kernel
theorem dX10_describeLake_47 : decode cX10_describeLake 47 = .ok (.iconst 0, 1) := by decide +kernel
theorem dX10_describeLake_48 : decode cX10_describeLake 48 = .ok (.invokevirtual 88, 3) := by decide +kernel
theorem dX10_describeLake_51 : decode cX10_describeLake 51 = .ok (.invokevirtual 182, 3) := by decide +kernel
theorem dX10_describeLake_54 : decode cX10_describeLake 54 = .ok (.istore_n 2, 1) := by decide +kernel
theorem dX10_describeLake_55 : decode cX10_describeLake 55 = .ok (.aload_n 0, 1) := by decide +kernel
theorem dX10_describeLake_56 : decode cX10_describeLake 56 = .ok (.aload_n 0, 1) := by decide +kernel
theorem dX10_describeLake_57 : decode cX10_describeLake 57 = .ok (.iload_n 2, 1) := by decide +kernel
theorem dX10_describeLake_58 : decode cX10_describeLake 58 = .ok (.bipush 47, 2) := by decide +kernel
theorem dX10_describeLake_60 : decode cX10_describeLake 60 = .ok (.invokevirtual 179, 3) := by decide +kernel
theorem dX10_describeLake_63 : decode cX10_describeLake 63 = .ok (.aload_n 0, 1) := by decide +kernel
theorem dX10_describeLake_64 : decode cX10_describeLake 64 = .ok (.iload_n 1, 1) := by decide +kernel
theorem dX10_describeLake_65 : decode cX10_describeLake 65 = .ok (.iload_n 3, 1) := by decide +kernel
theorem dX10_describeLake_66 : decode cX10_describeLake 66 = .ok (.iconst 1, 1) := by decide +kernel
theorem dX10_describeLake_67 : decode cX10_describeLake 67 = .ok (.invokevirtual 88, 3) := by decide +kernel
theorem dX10_describeLake_70 : decode cX10_describeLake 70 = .ok (.invokevirtual 182, 3) := by decide +kernel
theorem dX10_describeLake_73 : decode cX10_describeLake 73 = .ok (.istore_n 2, 1) := by decide +kernel
theorem dX10_describeLake_74 : decode cX10_describeLake 74 = .ok (.aload_n 0, 1) := by decide +kernel
theorem dX10_describeLake_75 : decode cX10_describeLake 75 = .ok (.iload_n 1, 1) := by decide +kernel
theorem dX10_describeLake_76 : decode cX10_describeLake 76 = .ok (.iload_n 3, 1) := by decide +kernel
theorem dX10_describeLake_77 : decode cX10_describeLake 77 = .ok (.iconst 2, 1) := by decide +kernel
theorem dX10_describeLake_78 : decode cX10_describeLake 78 = .ok (.invokevirtual 88, 3) := by decide +kernel
theorem dX10_describeLake_81 : decode cX10_describeLake 81 = .ok (.bipush 10, 2) := by decide +kernel
theorem dX10_describeLake_83 : decode cX10_describeLake 83 = .ok (.if_icmp .lt 13, 3) := by decide +kernel
theorem dX10_describeLake_86 : decode cX10_describeLake 86 = .ok (.aload_n 0, 1) := by decide +kernel
theorem dX10_describeLake_87 : decode cX10_describeLake 87 = .ok (.iload_n 2, 1) := by decide +kernel
theorem dX10_describeLake_88 : decode cX10_describeLake 88 = .ok (.bipush 33, 2) := by decide +kernel
theorem dX10_describeLake_90 : decode cX10_describeLake 90 = .ok (.invokevirtual 179, 3) := by decide +kernel
theorem dX10_describeLake_93 : decode cX10_describeLake 93 = .ok (.goto 4, 3) := by decide +kernel
theorem dX10_describeLake_96 : decode cX10_describeLake 96 = .ok (.iload_n 2, 1) := by decide +kernel
theorem dX10_describeLake_97 : decode cX10_describeLake 97 = .ok (.istore_n 2, 1) := by decide +kernel
theorem dX10_describeLake_98 : decode cX10_describeLake 98 = .ok (.iinc 3 1, 3) := by decide +kernel
theorem dX10_describeLake_101 : decode cX10_describeLake 101 = .ok (.goto (-83), 3) := by decide +kernel
theorem dX10_describeLake_104 : decode cX10_describeLake 104 = .ok (.aload_n 0, 1) := by decide +kernel
theorem dX10_describeLake_105 : decode cX10_describeLake 105 = .ok (.iload_n 2, 1) := by decide +kernel
theorem dX10_describeLake_106 : decode cX10_describeLake 106 = .ok (.putfield 185, 3) := by decide +kernel
theorem dX10_describeLake_109 : decode cX10_describeLake 109 = .ok (.iload_n 2, 1) := by decide +kernel
theorem dX10_describeLake_110 : decode cX10_describeLake 110 = .ok (.ireturn, 1) := by decide +kernel
theorem dX10_lineAt_0 : decode cX10_lineAt 0 = .ok (.aload_n 0, 1) := by decide +kernel
theorem dX10_lineAt_1 : decode cX10_lineAt 1 = .ok (.iload_n 1, 1) := by decide +kernel
theorem dX10_lineAt_2 : decode cX10_lineAt 2 = .ok (.iconst 0, 1) := by decide +kernel
theorem dX10_lineAt_3 : decode cX10_lineAt 3 = .ok (.aload_n 0, 1) := by decide +kernel
theorem dX10_lineAt_4 : decode cX10_lineAt 4 = .ok (.getfield 185, 3) := by decide +kernel
theorem dX10_lineAt_7 : decode cX10_lineAt 7 = .ok (.iconst 1, 1) := by decide +kernel
theorem dX10_lineAt_8 : decode cX10_lineAt 8 = .ok (.isub, 1) := by decide +kernel
theorem dX10_lineAt_9 : decode cX10_lineAt 9 = .ok (.invokestatic 69, 3) := by decide +kernel
theorem dX10_lineAt_12 : decode cX10_lineAt 12 = .ok (.invokevirtual 61, 3) := by decide +kernel
theorem dX10_lineAt_15 : decode cX10_lineAt 15 = .ok (.ifCond .eq 13, 3) := by decide +kernel
theorem dX10_lineAt_18 : decode cX10_lineAt 18 = .ok (.aload_n 0, 1) := by decide +kernel
theorem dX10_lineAt_19 : decode cX10_lineAt 19 = .ok (.getfield 38, 3) := by decide +kernel
theorem dX10_lineAt_22 : decode cX10_lineAt 22 = .ok (.iload_n 1, 1) := by decide +kernel
theorem dX10_lineAt_23 : decode cX10_lineAt 23 = .ok (.iaload, 1) := by decide +kernel
theorem dX10_lineAt_24 : decode cX10_lineAt 24 = .ok (.i2c, 1) := by decide +kernel
theorem dX10_lineAt_25 : decode cX10_lineAt 25 = .ok (.goto 4, 3) := by decide +kernel
theorem dX10_lineAt_28 : decode cX10_lineAt 28 = .ok (.iconst 0, 1) := by decide +kernel
theorem dX10_lineAt_29 : decode cX10_lineAt 29 = .ok (.ireturn, 1) := by decide +kernel
theorem dX10_append_0 : decode cX10_append 0 = .ok (.aload_n 0, 1) := by decide +kernel
theorem dX10_append_1 : decode cX10_append 1 = .ok (.iload_n 1, 1) := by decide +kernel
theorem dX10_append_2 : decode cX10_append 2 = .ok (.bipush 32, 2) := by decide +kernel
theorem dX10_append_4 : decode cX10_append 4 = .ok (.bipush 126, 2) := by decide +kernel
theorem dX10_append_6 : decode cX10_append 6 = .ok (.invokestatic 69, 3) := by decide +kernel
theorem dX10_append_9 : decode cX10_append 9 = .ok (.aload_n 0, 1) := by decide +kernel
theorem dX10_append_10 : decode cX10_append 10 = .ok (.getfield 188, 3) := by decide +kernel
theorem dX10_append_13 : decode cX10_append 13 = .ok (.bipush 60, 2) := by decide +kernel
theorem dX10_append_15 : decode cX10_append 15 = .ok (.if_icmp .ge 7, 3) := by decide +kernel
theorem dX10_append_18 : decode cX10_append 18 = .ok (.iconst 1, 1) := by decide +kernel
theorem dX10_append_19 : decode cX10_append 19 = .ok (.goto 4, 3) := by decide +kernel
theorem dX10_append_22 : decode cX10_append 22 = .ok (.iconst 0, 1) := by decide +kernel
theorem dX10_append_23 : decode cX10_append 23 = .ok (.iconst 1, 1) := by decide +kernel
theorem dX10_append_24 : decode cX10_append 24 = .ok (.iconst 1, 1) := by decide +kernel
theorem dX10_append_25 : decode cX10_append 25 = .ok (.invokevirtual 47, 3) := by decide +kernel
theorem dX10_append_28 : decode cX10_append 28 = .ok (.ifCond .ne 5, 3) := by decide +kernel
theorem dX10_append_31 : decode cX10_append 31 = .ok (.iconst 0, 1) := by decide +kernel
theorem dX10_append_32 : decode cX10_append 32 = .ok (.ireturn, 1) := by decide +kernel
theorem dX10_append_33 : decode cX10_append 33 = .ok (.aload_n 0, 1) := by decide +kernel
theorem dX10_append_34 : decode cX10_append 34 = .ok (.getfield 35, 3) := by decide +kernel
theorem dX10_append_37 : decode cX10_append 37 = .ok (.aload_n 0, 1) := by decide +kernel
theorem dX10_append_38 : decode cX10_append 38 = .ok (.getfield 188, 3) := by decide +kernel
theorem dX10_append_41 : decode cX10_append 41 = .ok (.iload_n 1, 1) := by decide +kernel
theorem dX10_append_42 : decode cX10_append 42 = .ok (.iastore, 1) := by decide +kernel
theorem dX10_append_43 : decode cX10_append 43 = .ok (.aload_n 0, 1) := by decide +kernel
theorem dX10_append_44 : decode cX10_append 44 = .ok (.dup, 1) := by decide +kernel
theorem dX10_append_45 : decode cX10_append 45 = .ok (.getfield 188, 3) := by decide +kernel
theorem dX10_append_48 : decode cX10_append 48 = .ok (.iconst 1, 1) := by decide +kernel
theorem dX10_append_49 : decode cX10_append 49 = .ok (.iadd, 1) := by decide +kernel
theorem dX10_append_50 : decode cX10_append 50 = .ok (.putfield 188, 3) := by decide +kernel
theorem dX10_append_53 : decode cX10_append 53 = .ok (.aload_n 0, 1) := by decide +kernel
theorem dX10_append_54 : decode cX10_append 54 = .ok (.getfield 188, 3) := by decide +kernel
theorem dX10_append_57 : decode cX10_append 57 = .ok (.ireturn, 1) := by decide +kernel
theorem dX10_letterHere_0 : decode cX10_letterHere 0 = .ok (.aload_n 0, 1) := by decide +kernel
theorem dX10_letterHere_1 : decode cX10_letterHere 1 = .ok (.getfield 191, 3) := by decide +kernel
theorem dX10_letterHere_4 : decode cX10_letterHere 4 = .ok (.aload_n 0, 1) := by decide +kernel
theorem dX10_letterHere_5 : decode cX10_letterHere 5 = .ok (.getfield 194, 3) := by decide +kernel
theorem dX10_letterHere_8 : decode cX10_letterHere 8 = .ok (.if_icmp .ge 15, 3) := by decide +kernel
theorem dX10_letterHere_11 : decode cX10_letterHere 11 = .ok (.aload_n 0, 1) := by decide +kernel
theorem dX10_letterHere_12 : decode cX10_letterHere 12 = .ok (.getfield 35, 3) := by decide +kernel
theorem dX10_letterHere_15 : decode cX10_letterHere 15 = .ok (.aload_n 0, 1) := by decide +kernel
theorem dX10_letterHere_16 : decode cX10_letterHere 16 = .ok (.getfield 191, 3) := by decide +kernel
theorem dX10_letterHere_19 : decode cX10_letterHere 19 = .ok (.iaload, 1) := by decide +kernel
theorem dX10_letterHere_20 : decode cX10_letterHere 20 = .ok (.goto 4, 3) := by decide +kernel
theorem dX10_letterHere_23 : decode cX10_letterHere 23 = .ok (.iconst (-1), 1) := by decide +kernel
theorem dX10_letterHere_24 : decode cX10_letterHere 24 = .ok (.ireturn, 1) := by decide +kernel
theorem dX10_reads_0 : decode cX10_reads 0 = .ok (.aload_n 0, 1) := by decide +kernel
theorem dX10_reads_1 : decode cX10_reads 1 = .ok (.getfield 197, 3) := by decide +kernel
theorem dX10_reads_4 : decode cX10_reads 4 = .ok (.iconst (-1), 1) := by decide +kernel
theorem dX10_reads_5 : decode cX10_reads 5 = .ok (.if_icmp .ne 39, 3) := by decide +kernel
theorem dX10_reads_8 : decode cX10_reads 8 = .ok (.aload_n 0, 1) := by decide +kernel
theorem dX10_reads_9 : decode cX10_reads 9 = .ok (.invokevirtual 200, 3) := by decide +kernel
theorem dX10_reads_12 : decode cX10_reads 12 = .ok (.iload_n 1, 1) := by decide +kernel
theorem dX10_reads_13 : decode cX10_reads 13 = .ok (.iload_n 2, 1) := by decide +kernel
theorem dX10_reads_14 : decode cX10_reads 14 = .ok (.invokestatic 69, 3) := by decide +kernel
theorem dX10_reads_17 : decode cX10_reads 17 = .ok (.ifCond .eq 27, 3) := by decide +kernel
theorem dX10_reads_20 : decode cX10_reads 20 = .ok (.aload_n 0, 1) := by decide +kernel
theorem dX10_reads_21 : decode cX10_reads 21 = .ok (.dup, 1) := by decide +kernel
theorem dX10_reads_22 : decode cX10_reads 22 = .ok (.getfield 191, 3) := by decide +kernel
theorem dX10_reads_25 : decode cX10_reads 25 = .ok (.iconst 1, 1) := by decide +kernel
theorem dX10_reads_26 : decode cX10_reads 26 = .ok (.iadd, 1) := by decide +kernel
theorem dX10_reads_27 : decode cX10_reads 27 = .ok (.putfield 191, 3) := by decide +kernel
theorem dX10_reads_30 : decode cX10_reads 30 = .ok (.aload_n 0, 1) := by decide +kernel
theorem dX10_reads_31 : decode cX10_reads 31 = .ok (.getfield 35, 3) := by decide +kernel
theorem dX10_reads_34 : decode cX10_reads 34 = .ok (.aload_n 0, 1) := by decide +kernel
theorem dX10_reads_35 : decode cX10_reads 35 = .ok (.getfield 191, 3) := by decide +kernel
theorem dX10_reads_38 : decode cX10_reads 38 = .ok (.iconst 1, 1) := by decide +kernel
theorem dX10_reads_39 : decode cX10_reads 39 = .ok (.isub, 1) := by decide +kernel
theorem dX10_reads_40 : decode cX10_reads 40 = .ok (.iaload, 1) := by decide +kernel
theorem dX10_reads_41 : decode cX10_reads 41 = .ok (.iload_n 1, 1) := by decide +kernel
theorem dX10_reads_42 : decode cX10_reads 42 = .ok (.isub, 1) := by decide +kernel
theorem dX10_reads_43 : decode cX10_reads 43 = .ok (.ireturn, 1) := by decide +kernel
theorem dX10_reads_44 : decode cX10_reads 44 = .ok (.aload_n 0, 1) := by decide +kernel
theorem dX10_reads_45 : decode cX10_reads 45 = .ok (.aload_n 0, 1) := by decide +kernel
theorem dX10_reads_46 : decode cX10_reads 46 = .ok (.getfield 197, 3) := by decide +kernel
theorem dX10_reads_49 : decode cX10_reads 49 = .ok (.iconst (-1), 1) := by decide +kernel
theorem dX10_reads_50 : decode cX10_reads 50 = .ok (.if_icmp .ne 10, 3) := by decide +kernel
theorem dX10_reads_53 : decode cX10_reads 53 = .ok (.aload_n 0, 1) := by decide +kernel
theorem dX10_reads_54 : decode cX10_reads 54 = .ok (.getfield 191, 3) := by decide +kernel
theorem dX10_reads_57 : decode cX10_reads 57 = .ok (.goto 7, 3) := by decide +kernel
theorem dX10_reads_60 : decode cX10_reads 60 = .ok (.aload_n 0, 1) := by decide +kernel
theorem dX10_reads_61 : decode cX10_reads 61 = .ok (.getfield 197, 3) := by decide +kernel
theorem dX10_reads_64 : decode cX10_reads 64 = .ok (.putfield 197, 3) := by decide +kernel
theorem dX10_reads_67 : decode cX10_reads 67 = .ok (.iconst 0, 1) := by decide +kernel
theorem dX10_reads_68 : decode cX10_reads 68 = .ok (.ireturn, 1) := by decide +kernel
theorem dX10_digit_0 : decode cX10_digit 0 = .ok (.aload_n 0, 1) := by decide +kernel
theorem dX10_digit_1 : decode cX10_digit 1 = .ok (.bipush 48, 2) := by decide +kernel
theorem dX10_digit_3 : decode cX10_digit 3 = .ok (.bipush 57, 2) := by decide +kernel
theorem dX10_digit_5 : decode cX10_digit 5 = .ok (.invokevirtual 203, 3) := by decide +kernel
theorem dX10_digit_8 : decode cX10_digit 8 = .ok (.ireturn, 1) := by decide +kernel
theorem dX10_number_0 : decode cX10_number 0 = .ok (.aload_n 0, 1) := by decide +kernel
theorem dX10_number_1 : decode cX10_number 1 = .ok (.invokevirtual 206, 3) := by decide +kernel
theorem dX10_number_4 : decode cX10_number 4 = .ok (.istore_n 1, 1) := by decide +kernel
theorem dX10_number_5 : decode cX10_number 5 = .ok (.iconst 1, 1) := by decide +kernel
theorem dX10_number_6 : decode cX10_number 6 = .ok (.istore_n 2, 1) := by decide +kernel
theorem dX10_number_7 : decode cX10_number 7 = .ok (.iload_n 2, 1) := by decide +kernel
theorem dX10_number_8 : decode cX10_number 8 = .ok (.iconst 3, 1) := by decide +kernel
theorem dX10_number_9 : decode cX10_number 9 = .ok (.if_icmp .ge 41, 3) := by decide +kernel
theorem dX10_number_12 : decode cX10_number 12 = .ok (.aload_n 0, 1) := by decide +kernel
theorem dX10_number_13 : decode cX10_number 13 = .ok (.getfield 197, 3) := by decide +kernel
theorem dX10_number_16 : decode cX10_number 16 = .ok (.iconst (-1), 1) := by decide +kernel
theorem dX10_number_17 : decode cX10_number 17 = .ok (.if_icmp .ne 33, 3) := by decide +kernel
theorem dX10_number_20 : decode cX10_number 20 = .ok (.aload_n 0, 1) := by decide +kernel
theorem dX10_number_21 : decode cX10_number 21 = .ok (.invokevirtual 200, 3) := by decide +kernel
theorem dX10_number_24 : decode cX10_number 24 = .ok (.bipush 48, 2) := by decide +kernel
theorem dX10_number_26 : decode cX10_number 26 = .ok (.bipush 57, 2) := by decide +kernel
theorem dX10_number_28 : decode cX10_number 28 = .ok (.invokestatic 69, 3) := by decide +kernel
theorem dX10_number_31 : decode cX10_number 31 = .ok (.ifCond .eq 19, 3) := by decide +kernel
theorem dX10_number_34 : decode cX10_number 34 = .ok (.bipush 10, 2) := by decide +kernel
theorem dX10_number_36 : decode cX10_number 36 = .ok (.iload_n 1, 1) := by decide +kernel
theorem dX10_number_37 : decode cX10_number 37 = .ok (.imul, 1) := by decide +kernel
theorem dX10_number_38 : decode cX10_number 38 = .ok (.aload_n 0, 1) := by decide +kernel
theorem dX10_number_39 : decode cX10_number 39 = .ok (.invokevirtual 206, 3) := by decide +kernel
theorem dX10_number_42 : decode cX10_number 42 = .ok (.iadd, 1) := by decide +kernel
theorem dX10_number_43 : decode cX10_number 43 = .ok (.istore_n 1, 1) := by decide +kernel
theorem dX10_number_44 : decode cX10_number 44 = .ok (.iinc 2 1, 3) := by decide +kernel
theorem dX10_number_47 : decode cX10_number 47 = .ok (.goto (-40), 3) := by decide +kernel
theorem dX10_number_50 : decode cX10_number 50 = .ok (.iload_n 1, 1) := by decide +kernel
theorem dX10_number_51 : decode cX10_number 51 = .ok (.ireturn, 1) := by decide +kernel
theorem dX10_degrees_0 : decode cX10_degrees 0 = .ok (.aload_n 0, 1) := by decide +kernel
theorem dX10_degrees_1 : decode cX10_degrees 1 = .ok (.invokevirtual 200, 3) := by decide +kernel
theorem dX10_degrees_4 : decode cX10_degrees 4 = .ok (.bipush 45, 2) := by decide +kernel
theorem dX10_degrees_6 : decode cX10_degrees 6 = .ok (.if_icmp .eq 8, 3) := by decide +kernel
theorem dX10_degrees_9 : decode cX10_degrees 9 = .ok (.aload_n 0, 1) := by decide +kernel
theorem dX10_degrees_10 : decode cX10_degrees 10 = .ok (.invokevirtual 209, 3) := by decide +kernel
theorem dX10_degrees_13 : decode cX10_degrees 13 = .ok (.ireturn, 1) := by decide +kernel
theorem dX10_degrees_14 : decode cX10_degrees 14 = .ok (.aload_n 0, 1) := by decide +kernel
theorem dX10_degrees_15 : decode cX10_degrees 15 = .ok (.bipush 45, 2) := by decide +kernel
theorem dX10_degrees_17 : decode cX10_degrees 17 = .ok (.bipush 45, 2) := by decide +kernel
theorem dX10_degrees_19 : decode cX10_degrees 19 = .ok (.invokevirtual 203, 3) := by decide +kernel
theorem dX10_degrees_22 : decode cX10_degrees 22 = .ok (.istore_n 1, 1) := by decide +kernel
theorem dX10_degrees_23 : decode cX10_degrees 23 = .ok (.aload_n 0, 1) := by decide +kernel
theorem dX10_degrees_24 : decode cX10_degrees 24 = .ok (.invokevirtual 209, 3) := by decide +kernel
theorem dX10_degrees_27 : decode cX10_degrees 27 = .ok (.ineg, 1) := by decide +kernel
theorem dX10_degrees_28 : decode cX10_degrees 28 = .ok (.ireturn, 1) := by decide +kernel
theorem dX10_sign_0 : decode cX10_sign 0 = .ok (.aload_n 0, 1) := by decide +kernel
theorem dX10_sign_1 : decode cX10_sign 1 = .ok (.iload_n 1, 1) := by decide +kernel
theorem dX10_sign_2 : decode cX10_sign 2 = .ok (.iload_n 1, 1) := by decide +kernel
theorem dX10_sign_3 : decode cX10_sign 3 = .ok (.invokevirtual 203, 3) := by decide +kernel
theorem dX10_sign_6 : decode cX10_sign 6 = .ok (.istore_n 2, 1) := by decide +kernel
theorem dX10_sign_7 : decode cX10_sign 7 = .ok (.return_, 1) := by decide +kernel
theorem dX10_startOf_0 : decode cX10_startOf 0 = .ok (.iload_n 0, 1) := by decide +kernel
theorem dX10_startOf_1 : decode cX10_startOf 1 = .ok (.tableswitch 62 0 6 #[43, 45, 47, 50, 53, 56, 59], 43) := by decide +kernel
theorem dX10_startOf_44 : decode cX10_startOf 44 = .ok (.iconst 0, 1) := by decide +kernel
theorem dX10_startOf_45 : decode cX10_startOf 45 = .ok (.ireturn, 1) := by decide +kernel
theorem dX10_startOf_46 : decode cX10_startOf 46 = .ok (.iconst 5, 1) := by decide +kernel
theorem dX10_startOf_47 : decode cX10_startOf 47 = .ok (.ireturn, 1) := by decide +kernel
theorem dX10_startOf_48 : decode cX10_startOf 48 = .ok (.bipush 12, 2) := by decide +kernel
theorem dX10_startOf_50 : decode cX10_startOf 50 = .ok (.ireturn, 1) := by decide +kernel
theorem dX10_startOf_51 : decode cX10_startOf 51 = .ok (.bipush 16, 2) := by decide +kernel
theorem dX10_startOf_53 : decode cX10_startOf 53 = .ok (.ireturn, 1) := by decide +kernel
theorem dX10_startOf_54 : decode cX10_startOf 54 = .ok (.bipush 21, 2) := by decide +kernel
theorem dX10_startOf_56 : decode cX10_startOf 56 = .ok (.ireturn, 1) := by decide +kernel
theorem dX10_startOf_57 : decode cX10_startOf 57 = .ok (.bipush 28, 2) := by decide +kernel
theorem dX10_startOf_59 : decode cX10_startOf 59 = .ok (.ireturn, 1) := by decide +kernel
theorem dX10_startOf_60 : decode cX10_startOf 60 = .ok (.bipush 33, 2) := by decide +kernel
theorem dX10_startOf_62 : decode cX10_startOf 62 = .ok (.ireturn, 1) := by decide +kernel
theorem dX10_startOf_63 : decode cX10_startOf 63 = .ok (.bipush 40, 2) := by decide +kernel
theorem dX10_startOf_65 : decode cX10_startOf 65 = .ok (.ireturn, 1) := by decide +kernel
theorem dX10_kindHere_0 : decode cX10_kindHere 0 = .ok (.aload_n 0, 1) := by decide +kernel
theorem dX10_kindHere_1 : decode cX10_kindHere 1 = .ok (.getfield 191, 3) := by decide +kernel
theorem dX10_kindHere_4 : decode cX10_kindHere 4 = .ok (.istore_n 1, 1) := by decide +kernel
theorem dX10_kindHere_5 : decode cX10_kindHere 5 = .ok (.iconst (-1), 1) := by decide +kernel
theorem dX10_kindHere_6 : decode cX10_kindHere 6 = .ok (.istore_n 2, 1) := by decide +kernel
theorem dX10_kindHere_7 : decode cX10_kindHere 7 = .ok (.iconst 0, 1) := by decide +kernel
theorem dX10_kindHere_8 : decode cX10_kindHere 8 = .ok (.istore_n 3, 1) := by decide +kernel
theorem dX10_kindHere_9 : decode cX10_kindHere 9 = .ok (.iload_n 3, 1) := by decide +kernel
theorem dX10_kindHere_10 : decode cX10_kindHere 10 = .ok (.bipush 7, 2) := by decide +kernel
theorem dX10_kindHere_12 : decode cX10_kindHere 12 = .ok (.if_icmp .ge 109, 3) := by decide +kernel
theorem dX10_kindHere_15 : decode cX10_kindHere 15 = .ok (.iload_n 2, 1) := by decide +kernel
theorem dX10_kindHere_16 : decode cX10_kindHere 16 = .ok (.iconst (-1), 1) := by decide +kernel
theorem dX10_kindHere_17 : decode cX10_kindHere 17 = .ok (.if_icmp .ne 104, 3) := by decide +kernel
theorem dX10_kindHere_20 : decode cX10_kindHere 20 = .ok (.iload_n 3, 1) := by decide +kernel
theorem dX10_kindHere_21 : decode cX10_kindHere 21 = .ok (.iconst 1, 1) := by decide +kernel
theorem dX10_kindHere_22 : decode cX10_kindHere 22 = .ok (.iadd, 1) := by decide +kernel
theorem dX10_kindHere_23 : decode cX10_kindHere 23 = .ok (.invokestatic 212, 3) := by decide +kernel
theorem dX10_kindHere_26 : decode cX10_kindHere 26 = .ok (.iload_n 3, 1) := by decide +kernel
theorem dX10_kindHere_27 : decode cX10_kindHere 27 = .ok (.invokestatic 212, 3) := by decide +kernel
theorem dX10_kindHere_30 : decode cX10_kindHere 30 = .ok (.isub, 1) := by decide +kernel
theorem dX10_kindHere_31 : decode cX10_kindHere 31 = .ok (.istore 4, 2) := by decide +kernel
theorem dX10_kindHere_33 : decode cX10_kindHere 33 = .ok (.iconst 0, 1) := by decide +kernel
theorem dX10_kindHere_34 : decode cX10_kindHere 34 = .ok (.istore 5, 2) := by decide +kernel
theorem dX10_kindHere_36 : decode cX10_kindHere 36 = .ok (.iload 5, 2) := by decide +kernel
theorem dX10_kindHere_38 : decode cX10_kindHere 38 = .ok (.iload 4, 2) := by decide +kernel
theorem dX10_kindHere_40 : decode cX10_kindHere 40 = .ok (.if_icmp .ge 50, 3) := by decide +kernel
theorem dX10_kindHere_43 : decode cX10_kindHere 43 = .ok (.aload_n 0, 1) := by decide +kernel
theorem dX10_kindHere_44 : decode cX10_kindHere 44 = .ok (.getfield 191, 3) := by decide +kernel
theorem dX10_kindHere_47 : decode cX10_kindHere 47 = .ok (.iload 5, 2) := by decide +kernel
theorem dX10_kindHere_49 : decode cX10_kindHere 49 = .ok (.iadd, 1) := by decide +kernel
theorem dX10_kindHere_50 : decode cX10_kindHere 50 = .ok (.aload_n 0, 1) := by decide +kernel
theorem dX10_kindHere_51 : decode cX10_kindHere 51 = .ok (.getfield 194, 3) := by decide +kernel
theorem dX10_kindHere_54 : decode cX10_kindHere 54 = .ok (.if_icmp .ge 36, 3) := by decide +kernel
theorem dX10_kindHere_57 : decode cX10_kindHere 57 = .ok (.aload_n 0, 1) := by decide +kernel
theorem dX10_kindHere_58 : decode cX10_kindHere 58 = .ok (.getfield 35, 3) := by decide +kernel
theorem dX10_kindHere_61 : decode cX10_kindHere 61 = .ok (.aload_n 0, 1) := by decide +kernel
theorem dX10_kindHere_62 : decode cX10_kindHere 62 = .ok (.getfield 191, 3) := by decide +kernel
theorem dX10_kindHere_65 : decode cX10_kindHere 65 = .ok (.iload 5, 2) := by decide +kernel
theorem dX10_kindHere_67 : decode cX10_kindHere 67 = .ok (.iadd, 1) := by decide +kernel
theorem dX10_kindHere_68 : decode cX10_kindHere 68 = .ok (.iaload, 1) := by decide +kernel
theorem dX10_kindHere_69 : decode cX10_kindHere 69 = .ok (.ldc 215, 2) := by decide +kernel
theorem dX10_kindHere_71 : decode cX10_kindHere 71 = .ok (.iload_n 3, 1) := by decide +kernel
theorem dX10_kindHere_72 : decode cX10_kindHere 72 = .ok (.invokestatic 212, 3) := by decide +kernel
theorem dX10_kindHere_75 : decode cX10_kindHere 75 = .ok (.iload 5, 2) := by decide +kernel
theorem dX10_kindHere_77 : decode cX10_kindHere 77 = .ok (.iadd, 1) := by decide +kernel
theorem dX10_kindHere_78 : decode cX10_kindHere 78 = .ok (.invokevirtual 217, 3) := by decide +kernel
theorem dX10_kindHere_81 : decode cX10_kindHere 81 = .ok (.if_icmp .ne 9, 3) := by decide +kernel
theorem dX10_kindHere_84 : decode cX10_kindHere 84 = .ok (.iinc 5 1, 3) := by decide +kernel
theorem dX10_kindHere_87 : decode cX10_kindHere 87 = .ok (.goto (-51), 3) := by decide +kernel
theorem dX10_kindHere_90 : decode cX10_kindHere 90 = .ok (.iload_n 1, 1) := by decide +kernel
theorem dX10_kindHere_91 : decode cX10_kindHere 91 = .ok (.aload_n 0, 1) := by decide +kernel
theorem dX10_kindHere_92 : decode cX10_kindHere 92 = .ok (.getfield 191, 3) := by decide +kernel
theorem dX10_kindHere_95 : decode cX10_kindHere 95 = .ok (.iload 5, 2) := by decide +kernel
theorem dX10_kindHere_97 : decode cX10_kindHere 97 = .ok (.iadd, 1) := by decide +kernel
theorem dX10_kindHere_98 : decode cX10_kindHere 98 = .ok (.invokestatic 135, 3) := by decide +kernel
theorem dX10_kindHere_101 : decode cX10_kindHere 101 = .ok (.istore_n 1, 1) := by decide +kernel
theorem dX10_kindHere_102 : decode cX10_kindHere 102 = .ok (.iload 5, 2) := by decide +kernel
theorem dX10_kindHere_104 : decode cX10_kindHere 104 = .ok (.iload 4, 2) := by decide +kernel
theorem dX10_kindHere_106 : decode cX10_kindHere 106 = .ok (.if_icmp .ne 7, 3) := by decide +kernel
theorem dX10_kindHere_109 : decode cX10_kindHere 109 = .ok (.iload_n 3, 1) := by decide +kernel
theorem dX10_kindHere_110 : decode cX10_kindHere 110 = .ok (.goto 4, 3) := by decide +kernel
theorem dX10_kindHere_113 : decode cX10_kindHere 113 = .ok (.iload_n 2, 1) := by decide +kernel
theorem dX10_kindHere_114 : decode cX10_kindHere 114 = .ok (.istore_n 2, 1) := by decide +kernel
theorem dX10_kindHere_115 : decode cX10_kindHere 115 = .ok (.iinc 3 1, 3) := by decide +kernel
theorem dX10_kindHere_118 : decode cX10_kindHere 118 = .ok (.goto (-109), 3) := by decide +kernel
theorem dX10_kindHere_121 : decode cX10_kindHere 121 = .ok (.aload_n 0, 1) := by decide +kernel
theorem dX10_kindHere_122 : decode cX10_kindHere 122 = .ok (.iload_n 2, 1) := by decide +kernel
theorem dX10_kindHere_123 : decode cX10_kindHere 123 = .ok (.iconst (-1), 1) := by decide +kernel
theorem dX10_kindHere_124 : decode cX10_kindHere 124 = .ok (.if_icmp .ne 7, 3) := by decide +kernel
theorem dX10_kindHere_127 : decode cX10_kindHere 127 = .ok (.iload_n 1, 1) := by decide +kernel
theorem dX10_kindHere_128 : decode cX10_kindHere 128 = .ok (.goto 7, 3) := by decide +kernel
theorem dX10_kindHere_131 : decode cX10_kindHere 131 = .ok (.aload_n 0, 1) := by decide +kernel
theorem dX10_kindHere_132 : decode cX10_kindHere 132 = .ok (.getfield 197, 3) := by decide +kernel
theorem dX10_kindHere_135 : decode cX10_kindHere 135 = .ok (.putfield 197, 3) := by decide +kernel
theorem dX10_kindHere_138 : decode cX10_kindHere 138 = .ok (.aload_n 0, 1) := by decide +kernel
theorem dX10_kindHere_139 : decode cX10_kindHere 139 = .ok (.dup, 1) := by decide +kernel
theorem dX10_kindHere_140 : decode cX10_kindHere 140 = .ok (.getfield 191, 3) := by decide +kernel
theorem dX10_kindHere_143 : decode cX10_kindHere 143 = .ok (.iload_n 2, 1) := by decide +kernel
theorem dX10_kindHere_144 : decode cX10_kindHere 144 = .ok (.iconst (-1), 1) := by decide +kernel
theorem dX10_kindHere_145 : decode cX10_kindHere 145 = .ok (.if_icmp .ne 7, 3) := by decide +kernel
theorem dX10_kindHere_148 : decode cX10_kindHere 148 = .ok (.iconst 0, 1) := by decide +kernel
theorem dX10_kindHere_149 : decode cX10_kindHere 149 = .ok (.goto 14, 3) := by decide +kernel
theorem dX10_kindHere_152 : decode cX10_kindHere 152 = .ok (.iload_n 2, 1) := by decide +kernel
theorem dX10_kindHere_153 : decode cX10_kindHere 153 = .ok (.iconst 1, 1) := by decide +kernel
theorem dX10_kindHere_154 : decode cX10_kindHere 154 = .ok (.iadd, 1) := by decide +kernel
theorem dX10_kindHere_155 : decode cX10_kindHere 155 = .ok (.invokestatic 212, 3) := by decide +kernel
theorem dX10_kindHere_158 : decode cX10_kindHere 158 = .ok (.iload_n 2, 1) := by decide +kernel
theorem dX10_kindHere_159 : decode cX10_kindHere 159 = .ok (.invokestatic 212, 3) := by decide +kernel
theorem dX10_kindHere_162 : decode cX10_kindHere 162 = .ok (.isub, 1) := by decide +kernel
theorem dX10_kindHere_163 : decode cX10_kindHere 163 = .ok (.iadd, 1) := by decide +kernel
theorem dX10_kindHere_164 : decode cX10_kindHere 164 = .ok (.putfield 191, 3) := by decide +kernel
theorem dX10_kindHere_167 : decode cX10_kindHere 167 = .ok (.iload_n 2, 1) := by decide +kernel
theorem dX10_kindHere_168 : decode cX10_kindHere 168 = .ok (.ireturn, 1) := by decide +kernel
theorem dX10_readsCommand_0 : decode cX10_readsCommand 0 = .ok (.iconst 4, 1) := by decide +kernel
theorem dX10_readsCommand_1 : decode cX10_readsCommand 1 = .ok (.aload_n 0, 1) := by decide +kernel
theorem dX10_readsCommand_2 : decode cX10_readsCommand 2 = .ok (.getfield 223, 3) := by decide +kernel
theorem dX10_readsCommand_5 : decode cX10_readsCommand 5 = .ok (.imul, 1) := by decide +kernel
theorem dX10_readsCommand_6 : decode cX10_readsCommand 6 = .ok (.istore_n 1, 1) := by decide +kernel
theorem dX10_readsCommand_7 : decode cX10_readsCommand 7 = .ok (.aload_n 0, 1) := by decide +kernel
theorem dX10_readsCommand_8 : decode cX10_readsCommand 8 = .ok (.invokevirtual 226, 3) := by decide +kernel
theorem dX10_readsCommand_11 : decode cX10_readsCommand 11 = .ok (.istore_n 2, 1) := by decide +kernel
theorem dX10_readsCommand_12 : decode cX10_readsCommand 12 = .ok (.aload_n 0, 1) := by decide +kernel
theorem dX10_readsCommand_13 : decode cX10_readsCommand 13 = .ok (.getfield 41, 3) := by decide +kernel
theorem dX10_readsCommand_16 : decode cX10_readsCommand 16 = .ok (.iload_n 1, 1) := by decide +kernel
theorem dX10_readsCommand_17 : decode cX10_readsCommand 17 = .ok (.iload_n 2, 1) := by decide +kernel
theorem dX10_readsCommand_18 : decode cX10_readsCommand 18 = .ok (.iastore, 1) := by decide +kernel
theorem dX10_readsCommand_19 : decode cX10_readsCommand 19 = .ok (.aload_n 0, 1) := by decide +kernel
theorem dX10_readsCommand_20 : decode cX10_readsCommand 20 = .ok (.dup, 1) := by decide +kernel
theorem dX10_readsCommand_21 : decode cX10_readsCommand 21 = .ok (.getfield 223, 3) := by decide +kernel
theorem dX10_readsCommand_24 : decode cX10_readsCommand 24 = .ok (.iconst 1, 1) := by decide +kernel
theorem dX10_readsCommand_25 : decode cX10_readsCommand 25 = .ok (.iadd, 1) := by decide +kernel
theorem dX10_readsCommand_26 : decode cX10_readsCommand 26 = .ok (.putfield 223, 3) := by decide +kernel
theorem dX10_readsCommand_29 : decode cX10_readsCommand 29 = .ok (.aload_n 0, 1) := by decide +kernel
theorem dX10_readsCommand_30 : decode cX10_readsCommand 30 = .ok (.getfield 197, 3) := by decide +kernel
theorem dX10_readsCommand_33 : decode cX10_readsCommand 33 = .ok (.iconst (-1), 1) := by decide +kernel
theorem dX10_readsCommand_34 : decode cX10_readsCommand 34 = .ok (.if_icmp .eq 4, 3) := by decide +kernel
theorem dX10_readsCommand_37 : decode cX10_readsCommand 37 = .ok (.return_, 1) := by decide +kernel
theorem dX10_readsCommand_38 : decode cX10_readsCommand 38 = .ok (.iload_n 2, 1) := by decide +kernel
theorem dX10_readsCommand_39 : decode cX10_readsCommand 39 = .ok (.iconst 1, 1) := by decide +kernel
theorem dX10_readsCommand_40 : decode cX10_readsCommand 40 = .ok (.if_icmp .eq 14, 3) := by decide +kernel
theorem dX10_readsCommand_43 : decode cX10_readsCommand 43 = .ok (.iload_n 2, 1) := by decide +kernel
theorem dX10_readsCommand_44 : decode cX10_readsCommand 44 = .ok (.iconst 5, 1) := by decide +kernel
theorem dX10_readsCommand_45 : decode cX10_readsCommand 45 = .ok (.if_icmp .eq 9, 3) := by decide +kernel
theorem dX10_readsCommand_48 : decode cX10_readsCommand 48 = .ok (.iload_n 2, 1) := by decide +kernel
theorem dX10_readsCommand_49 : decode cX10_readsCommand 49 = .ok (.bipush 6, 2) := by decide +kernel
theorem dX10_readsCommand_51 : decode cX10_readsCommand 51 = .ok (.if_icmp .ne 7, 3) := by decide +kernel
theorem dX10_readsCommand_54 : decode cX10_readsCommand 54 = .ok (.iconst 1, 1) := by decide +kernel
theorem dX10_readsCommand_55 : decode cX10_readsCommand 55 = .ok (.goto 4, 3) := by decide +kernel
theorem dX10_readsCommand_58 : decode cX10_readsCommand 58 = .ok (.iconst 0, 1) := by decide +kernel
theorem dX10_readsCommand_59 : decode cX10_readsCommand 59 = .ok (.istore_n 3, 1) := by decide +kernel
theorem dX10_readsCommand_60 : decode cX10_readsCommand 60 = .ok (.aload_n 0, 1) := by decide +kernel
theorem dX10_readsCommand_61 : decode cX10_readsCommand 61 = .ok (.getfield 41, 3) := by decide +kernel
theorem dX10_readsCommand_64 : decode cX10_readsCommand 64 = .ok (.iload_n 1, 1) := by decide +kernel
theorem dX10_readsCommand_65 : decode cX10_readsCommand 65 = .ok (.iconst 1, 1) := by decide +kernel
theorem dX10_readsCommand_66 : decode cX10_readsCommand 66 = .ok (.iadd, 1) := by decide +kernel
theorem dX10_readsCommand_67 : decode cX10_readsCommand 67 = .ok (.iload_n 3, 1) := by decide +kernel
theorem dX10_readsCommand_68 : decode cX10_readsCommand 68 = .ok (.ifCond .eq 10, 3) := by decide +kernel
theorem dX10_readsCommand_71 : decode cX10_readsCommand 71 = .ok (.aload_n 0, 1) := by decide +kernel
theorem dX10_readsCommand_72 : decode cX10_readsCommand 72 = .ok (.invokevirtual 206, 3) := by decide +kernel
theorem dX10_readsCommand_75 : decode cX10_readsCommand 75 = .ok (.goto 19, 3) := by decide +kernel
theorem dX10_readsCommand_78 : decode cX10_readsCommand 78 = .ok (.iload_n 2, 1) := by decide +kernel
theorem dX10_readsCommand_79 : decode cX10_readsCommand 79 = .ok (.iconst 2, 1) := by decide +kernel
theorem dX10_readsCommand_80 : decode cX10_readsCommand 80 = .ok (.if_icmp .ne 10, 3) := by decide +kernel
theorem dX10_readsCommand_83 : decode cX10_readsCommand 83 = .ok (.aload_n 0, 1) := by decide +kernel
theorem dX10_readsCommand_84 : decode cX10_readsCommand 84 = .ok (.invokevirtual 229, 3) := by decide +kernel
theorem dX10_readsCommand_87 : decode cX10_readsCommand 87 = .ok (.goto 7, 3) := by decide +kernel
theorem dX10_readsCommand_90 : decode cX10_readsCommand 90 = .ok (.aload_n 0, 1) := by decide +kernel
theorem dX10_readsCommand_91 : decode cX10_readsCommand 91 = .ok (.invokevirtual 209, 3) := by decide +kernel
theorem dX10_readsCommand_94 : decode cX10_readsCommand 94 = .ok (.iastore, 1) := by decide +kernel
theorem dX10_readsCommand_95 : decode cX10_readsCommand 95 = .ok (.iload_n 2, 1) := by decide +kernel
theorem dX10_readsCommand_96 : decode cX10_readsCommand 96 = .ok (.iconst 1, 1) := by decide +kernel
theorem dX10_readsCommand_97 : decode cX10_readsCommand 97 = .ok (.if_icmp .ne 39, 3) := by decide +kernel
theorem dX10_readsCommand_100 : decode cX10_readsCommand 100 = .ok (.aload_n 0, 1) := by decide +kernel
theorem dX10_readsCommand_101 : decode cX10_readsCommand 101 = .ok (.bipush 32, 2) := by decide +kernel
theorem dX10_readsCommand_103 : decode cX10_readsCommand 103 = .ok (.invokevirtual 232, 3) := by decide +kernel
theorem dX10_readsCommand_106 : decode cX10_readsCommand 106 = .ok (.aload_n 0, 1) := by decide +kernel
theorem dX10_readsCommand_107 : decode cX10_readsCommand 107 = .ok (.getfield 41, 3) := by decide +kernel
theorem dX10_readsCommand_110 : decode cX10_readsCommand 110 = .ok (.iload_n 1, 1) := by decide +kernel
theorem dX10_readsCommand_111 : decode cX10_readsCommand 111 = .ok (.iconst 2, 1) := by decide +kernel
theorem dX10_readsCommand_112 : decode cX10_readsCommand 112 = .ok (.iadd, 1) := by decide +kernel
theorem dX10_readsCommand_113 : decode cX10_readsCommand 113 = .ok (.aload_n 0, 1) := by decide +kernel
theorem dX10_readsCommand_114 : decode cX10_readsCommand 114 = .ok (.invokevirtual 209, 3) := by decide +kernel
theorem dX10_readsCommand_117 : decode cX10_readsCommand 117 = .ok (.iastore, 1) := by decide +kernel
theorem dX10_readsCommand_118 : decode cX10_readsCommand 118 = .ok (.aload_n 0, 1) := by decide +kernel
theorem dX10_readsCommand_119 : decode cX10_readsCommand 119 = .ok (.bipush 32, 2) := by decide +kernel
theorem dX10_readsCommand_121 : decode cX10_readsCommand 121 = .ok (.invokevirtual 232, 3) := by decide +kernel
theorem dX10_readsCommand_124 : decode cX10_readsCommand 124 = .ok (.aload_n 0, 1) := by decide +kernel
theorem dX10_readsCommand_125 : decode cX10_readsCommand 125 = .ok (.getfield 41, 3) := by decide +kernel
theorem dX10_readsCommand_128 : decode cX10_readsCommand 128 = .ok (.iload_n 1, 1) := by decide +kernel
theorem dX10_readsCommand_129 : decode cX10_readsCommand 129 = .ok (.iconst 3, 1) := by decide +kernel
theorem dX10_readsCommand_130 : decode cX10_readsCommand 130 = .ok (.iadd, 1) := by decide +kernel
theorem dX10_readsCommand_131 : decode cX10_readsCommand 131 = .ok (.aload_n 0, 1) := by decide +kernel
theorem dX10_readsCommand_132 : decode cX10_readsCommand 132 = .ok (.invokevirtual 229, 3) := by decide +kernel
theorem dX10_readsCommand_135 : decode cX10_readsCommand 135 = .ok (.iastore, 1) := by decide +kernel
theorem dX10_readsCommand_136 : decode cX10_readsCommand 136 = .ok (.iload_n 2, 1) := by decide +kernel
theorem dX10_readsCommand_137 : decode cX10_readsCommand 137 = .ok (.iconst 4, 1) := by decide +kernel
theorem dX10_readsCommand_138 : decode cX10_readsCommand 138 = .ok (.if_icmp .ne 21, 3) := by decide +kernel
theorem dX10_readsCommand_141 : decode cX10_readsCommand 141 = .ok (.aload_n 0, 1) := by decide +kernel
theorem dX10_readsCommand_142 : decode cX10_readsCommand 142 = .ok (.bipush 45, 2) := by decide +kernel
theorem dX10_readsCommand_144 : decode cX10_readsCommand 144 = .ok (.invokevirtual 232, 3) := by decide +kernel
theorem dX10_readsCommand_147 : decode cX10_readsCommand 147 = .ok (.aload_n 0, 1) := by decide +kernel
theorem dX10_readsCommand_148 : decode cX10_readsCommand 148 = .ok (.getfield 41, 3) := by decide +kernel
theorem dX10_readsCommand_151 : decode cX10_readsCommand 151 = .ok (.iload_n 1, 1) := by decide +kernel
theorem dX10_readsCommand_152 : decode cX10_readsCommand 152 = .ok (.iconst 2, 1) := by decide +kernel
theorem dX10_readsCommand_153 : decode cX10_readsCommand 153 = .ok (.iadd, 1) := by decide +kernel
theorem dX10_readsCommand_154 : decode cX10_readsCommand 154 = .ok (.aload_n 0, 1) := by decide +kernel
theorem dX10_readsCommand_155 : decode cX10_readsCommand 155 = .ok (.invokevirtual 209, 3) := by decide +kernel
theorem dX10_readsCommand_158 : decode cX10_readsCommand 158 = .ok (.iastore, 1) := by decide +kernel
theorem dX10_readsCommand_159 : decode cX10_readsCommand 159 = .ok (.iload_n 2, 1) := by decide +kernel
theorem dX10_readsCommand_160 : decode cX10_readsCommand 160 = .ok (.bipush 6, 2) := by decide +kernel
theorem dX10_readsCommand_162 : decode cX10_readsCommand 162 = .ok (.if_icmp .ne 15, 3) := by decide +kernel
theorem dX10_readsCommand_165 : decode cX10_readsCommand 165 = .ok (.aload_n 0, 1) := by decide +kernel
theorem dX10_readsCommand_166 : decode cX10_readsCommand 166 = .ok (.getfield 41, 3) := by decide +kernel
theorem dX10_readsCommand_169 : decode cX10_readsCommand 169 = .ok (.iload_n 1, 1) := by decide +kernel
theorem dX10_readsCommand_170 : decode cX10_readsCommand 170 = .ok (.iconst 2, 1) := by decide +kernel
theorem dX10_readsCommand_171 : decode cX10_readsCommand 171 = .ok (.iadd, 1) := by decide +kernel
theorem dX10_readsCommand_172 : decode cX10_readsCommand 172 = .ok (.aload_n 0, 1) := by decide +kernel
theorem dX10_readsCommand_173 : decode cX10_readsCommand 173 = .ok (.invokevirtual 206, 3) := by decide +kernel
theorem dX10_readsCommand_176 : decode cX10_readsCommand 176 = .ok (.iastore, 1) := by decide +kernel
theorem dX10_readsCommand_177 : decode cX10_readsCommand 177 = .ok (.return_, 1) := by decide +kernel
theorem dX10_readsAll_0 : decode cX10_readsAll 0 = .ok (.aload_n 0, 1) := by decide +kernel
theorem dX10_readsAll_1 : decode cX10_readsAll 1 = .ok (.aload_n 0, 1) := by decide +kernel
theorem dX10_readsAll_2 : decode cX10_readsAll 2 = .ok (.getfield 188, 3) := by decide +kernel
theorem dX10_readsAll_5 : decode cX10_readsAll 5 = .ok (.putfield 194, 3) := by decide +kernel
theorem dX10_readsAll_8 : decode cX10_readsAll 8 = .ok (.aload_n 0, 1) := by decide +kernel
theorem dX10_readsAll_9 : decode cX10_readsAll 9 = .ok (.iconst 0, 1) := by decide +kernel
theorem dX10_readsAll_10 : decode cX10_readsAll 10 = .ok (.putfield 188, 3) := by decide +kernel
theorem dX10_readsAll_13 : decode cX10_readsAll 13 = .ok (.aload_n 0, 1) := by decide +kernel
theorem dX10_readsAll_14 : decode cX10_readsAll 14 = .ok (.iconst 0, 1) := by decide +kernel
theorem dX10_readsAll_15 : decode cX10_readsAll 15 = .ok (.putfield 191, 3) := by decide +kernel
theorem dX10_readsAll_18 : decode cX10_readsAll 18 = .ok (.aload_n 0, 1) := by decide +kernel
theorem dX10_readsAll_19 : decode cX10_readsAll 19 = .ok (.iconst (-1), 1) := by decide +kernel
theorem dX10_readsAll_20 : decode cX10_readsAll 20 = .ok (.putfield 197, 3) := by decide +kernel
theorem dX10_readsAll_23 : decode cX10_readsAll 23 = .ok (.aload_n 0, 1) := by decide +kernel
theorem dX10_readsAll_24 : decode cX10_readsAll 24 = .ok (.iconst 0, 1) := by decide +kernel
theorem dX10_readsAll_25 : decode cX10_readsAll 25 = .ok (.putfield 223, 3) := by decide +kernel
theorem dX10_readsAll_28 : decode cX10_readsAll 28 = .ok (.aload_n 0, 1) := by decide +kernel
theorem dX10_readsAll_29 : decode cX10_readsAll 29 = .ok (.invokevirtual 235, 3) := by decide +kernel
theorem dX10_readsAll_32 : decode cX10_readsAll 32 = .ok (.aload_n 0, 1) := by decide +kernel
theorem dX10_readsAll_33 : decode cX10_readsAll 33 = .ok (.getfield 197, 3) := by decide +kernel
theorem dX10_readsAll_36 : decode cX10_readsAll 36 = .ok (.iconst (-1), 1) := by decide +kernel
theorem dX10_readsAll_37 : decode cX10_readsAll 37 = .ok (.if_icmp .ne 35, 3) := by decide +kernel
theorem dX10_readsAll_40 : decode cX10_readsAll 40 = .ok (.aload_n 0, 1) := by decide +kernel
theorem dX10_readsAll_41 : decode cX10_readsAll 41 = .ok (.getfield 191, 3) := by decide +kernel
theorem dX10_readsAll_44 : decode cX10_readsAll 44 = .ok (.aload_n 0, 1) := by decide +kernel
theorem dX10_readsAll_45 : decode cX10_readsAll 45 = .ok (.getfield 194, 3) := by decide +kernel
theorem dX10_readsAll_48 : decode cX10_readsAll 48 = .ok (.if_icmp .ge 24, 3) := by decide +kernel
theorem dX10_readsAll_51 : decode cX10_readsAll 51 = .ok (.aload_n 0, 1) := by decide +kernel
theorem dX10_readsAll_52 : decode cX10_readsAll 52 = .ok (.bipush 59, 2) := by decide +kernel
theorem dX10_readsAll_54 : decode cX10_readsAll 54 = .ok (.invokevirtual 232, 3) := by decide +kernel
theorem dX10_readsAll_57 : decode cX10_readsAll 57 = .ok (.aload_n 0, 1) := by decide +kernel
theorem dX10_readsAll_58 : decode cX10_readsAll 58 = .ok (.getfield 197, 3) := by decide +kernel
theorem dX10_readsAll_61 : decode cX10_readsAll 61 = .ok (.iconst (-1), 1) := by decide +kernel
theorem dX10_readsAll_62 : decode cX10_readsAll 62 = .ok (.if_icmp .ne (-30), 3) := by decide +kernel
theorem dX10_readsAll_65 : decode cX10_readsAll 65 = .ok (.aload_n 0, 1) := by decide +kernel
theorem dX10_readsAll_66 : decode cX10_readsAll 66 = .ok (.invokevirtual 235, 3) := by decide +kernel
theorem dX10_readsAll_69 : decode cX10_readsAll 69 = .ok (.goto (-37), 3) := by decide +kernel
theorem dX10_readsAll_72 : decode cX10_readsAll 72 = .ok (.return_, 1) := by decide +kernel
theorem dX10_does_0 : decode cX10_does 0 = .ok (.aload_n 0, 1) := by decide +kernel
theorem dX10_does_1 : decode cX10_does 1 = .ok (.getfield 41, 3) := by decide +kernel
theorem dX10_does_4 : decode cX10_does 4 = .ok (.iload_n 1, 1) := by decide +kernel
theorem dX10_does_5 : decode cX10_does 5 = .ok (.iconst 1, 1) := by decide +kernel
theorem dX10_does_6 : decode cX10_does 6 = .ok (.iadd, 1) := by decide +kernel
theorem dX10_does_7 : decode cX10_does 7 = .ok (.iaload, 1) := by decide +kernel
theorem dX10_does_8 : decode cX10_does 8 = .ok (.istore_n 2, 1) := by decide +kernel
theorem dX10_does_9 : decode cX10_does 9 = .ok (.aload_n 0, 1) := by decide +kernel
theorem dX10_does_10 : decode cX10_does 10 = .ok (.getfield 41, 3) := by decide +kernel
theorem dX10_does_13 : decode cX10_does 13 = .ok (.iload_n 1, 1) := by decide +kernel
theorem dX10_does_14 : decode cX10_does 14 = .ok (.iconst 2, 1) := by decide +kernel
theorem dX10_does_15 : decode cX10_does 15 = .ok (.iadd, 1) := by decide +kernel
theorem dX10_does_16 : decode cX10_does 16 = .ok (.iaload, 1) := by decide +kernel
theorem dX10_does_17 : decode cX10_does 17 = .ok (.istore_n 3, 1) := by decide +kernel
theorem dX10_does_18 : decode cX10_does 18 = .ok (.aload_n 0, 1) := by decide +kernel
theorem dX10_does_19 : decode cX10_does 19 = .ok (.getfield 41, 3) := by decide +kernel
theorem dX10_does_22 : decode cX10_does 22 = .ok (.iload_n 1, 1) := by decide +kernel
theorem dX10_does_23 : decode cX10_does 23 = .ok (.iaload, 1) := by decide +kernel
theorem dX10_does_24 : decode cX10_does 24 = .ok (.tableswitch 86 0 5 #[40, 46, 61, 67, 73, 80], 40) := by decide +kernel
theorem dX10_does_64 : decode cX10_does 64 = .ok (.aload_n 0, 1) := by decide +kernel
theorem dX10_does_65 : decode cX10_does 65 = .ok (.iload_n 2, 1) := by decide +kernel
theorem dX10_does_66 : decode cX10_does 66 = .ok (.invokevirtual 100, 3) := by decide +kernel
theorem dX10_does_69 : decode cX10_does 69 = .ok (.ireturn, 1) := by decide +kernel
theorem dX10_does_70 : decode cX10_does 70 = .ok (.aload_n 0, 1) := by decide +kernel
theorem dX10_does_71 : decode cX10_does 71 = .ok (.iload_n 2, 1) := by decide +kernel
theorem dX10_does_72 : decode cX10_does 72 = .ok (.iload_n 3, 1) := by decide +kernel
theorem dX10_does_73 : decode cX10_does 73 = .ok (.aload_n 0, 1) := by decide +kernel
theorem dX10_does_74 : decode cX10_does 74 = .ok (.getfield 41, 3) := by decide +kernel
theorem dX10_does_77 : decode cX10_does 77 = .ok (.iload_n 1, 1) := by decide +kernel
theorem dX10_does_78 : decode cX10_does 78 = .ok (.iconst 3, 1) := by decide +kernel
theorem dX10_does_79 : decode cX10_does 79 = .ok (.iadd, 1) := by decide +kernel
theorem dX10_does_80 : decode cX10_does 80 = .ok (.iaload, 1) := by decide +kernel
theorem dX10_does_81 : decode cX10_does 81 = .ok (.invokevirtual 110, 3) := by decide +kernel
theorem dX10_does_84 : decode cX10_does 84 = .ok (.ireturn, 1) := by decide +kernel
theorem dX10_does_85 : decode cX10_does 85 = .ok (.aload_n 0, 1) := by decide +kernel
theorem dX10_does_86 : decode cX10_does 86 = .ok (.iload_n 2, 1) := by decide +kernel
theorem dX10_does_87 : decode cX10_does 87 = .ok (.invokevirtual 113, 3) := by decide +kernel
theorem dX10_does_90 : decode cX10_does 90 = .ok (.ireturn, 1) := by decide +kernel
theorem dX10_does_91 : decode cX10_does 91 = .ok (.aload_n 0, 1) := by decide +kernel
theorem dX10_does_92 : decode cX10_does 92 = .ok (.iload_n 2, 1) := by decide +kernel
theorem dX10_does_93 : decode cX10_does 93 = .ok (.invokevirtual 158, 3) := by decide +kernel
theorem dX10_does_96 : decode cX10_does 96 = .ok (.ireturn, 1) := by decide +kernel
theorem dX10_does_97 : decode cX10_does 97 = .ok (.aload_n 0, 1) := by decide +kernel
theorem dX10_does_98 : decode cX10_does 98 = .ok (.iload_n 2, 1) := by decide +kernel
theorem dX10_does_99 : decode cX10_does 99 = .ok (.iload_n 3, 1) := by decide +kernel
theorem dX10_does_100 : decode cX10_does 100 = .ok (.invokevirtual 116, 3) := by decide +kernel
theorem dX10_does_103 : decode cX10_does 103 = .ok (.ireturn, 1) := by decide +kernel
theorem dX10_does_104 : decode cX10_does 104 = .ok (.aload_n 0, 1) := by decide +kernel
theorem dX10_does_105 : decode cX10_does 105 = .ok (.iload_n 2, 1) := by decide +kernel
theorem dX10_does_106 : decode cX10_does 106 = .ok (.invokevirtual 119, 3) := by decide +kernel
theorem dX10_does_109 : decode cX10_does 109 = .ok (.ireturn, 1) := by decide +kernel
theorem dX10_does_110 : decode cX10_does 110 = .ok (.aload_n 0, 1) := by decide +kernel
theorem dX10_does_111 : decode cX10_does 111 = .ok (.iload_n 2, 1) := by decide +kernel
theorem dX10_does_112 : decode cX10_does 112 = .ok (.iload_n 3, 1) := by decide +kernel
theorem dX10_does_113 : decode cX10_does 113 = .ok (.invokevirtual 129, 3) := by decide +kernel
theorem dX10_does_116 : decode cX10_does 116 = .ok (.ireturn, 1) := by decide +kernel
theorem dX10_letterFor_0 : decode cX10_letterFor 0 = .ok (.iload_n 1, 1) := by decide +kernel
theorem dX10_letterFor_1 : decode cX10_letterFor 1 = .ok (.iconst 5, 1) := by decide +kernel
theorem dX10_letterFor_2 : decode cX10_letterFor 2 = .ok (.if_icmp .eq 9, 3) := by decide +kernel
theorem dX10_letterFor_5 : decode cX10_letterFor 5 = .ok (.iload_n 1, 1) := by decide +kernel
theorem dX10_letterFor_6 : decode cX10_letterFor 6 = .ok (.bipush 6, 2) := by decide +kernel
theorem dX10_letterFor_8 : decode cX10_letterFor 8 = .ok (.if_icmp .ne 19, 3) := by decide +kernel
theorem dX10_letterFor_11 : decode cX10_letterFor 11 = .ok (.aload_n 0, 1) := by decide +kernel
theorem dX10_letterFor_12 : decode cX10_letterFor 12 = .ok (.getfield 44, 3) := by decide +kernel
theorem dX10_letterFor_15 : decode cX10_letterFor 15 = .ok (.iconst 1, 1) := by decide +kernel
theorem dX10_letterFor_16 : decode cX10_letterFor 16 = .ok (.if_icmp .ne 8, 3) := by decide +kernel
theorem dX10_letterFor_19 : decode cX10_letterFor 19 = .ok (.bipush 98, 2) := by decide +kernel
theorem dX10_letterFor_21 : decode cX10_letterFor 21 = .ok (.goto 5, 3) := by decide +kernel
theorem dX10_letterFor_24 : decode cX10_letterFor 24 = .ok (.bipush 117, 2) := by decide +kernel
theorem dX10_letterFor_26 : decode cX10_letterFor 26 = .ok (.ireturn, 1) := by decide +kernel
theorem dX10_letterFor_27 : decode cX10_letterFor 27 = .ok (.iload_n 1, 1) := by decide +kernel
theorem dX10_letterFor_28 : decode cX10_letterFor 28 = .ok (.iconst 1, 1) := by decide +kernel
theorem dX10_letterFor_29 : decode cX10_letterFor 29 = .ok (.if_icmp .ne 10, 3) := by decide +kernel
theorem dX10_letterFor_32 : decode cX10_letterFor 32 = .ok (.aload_n 0, 1) := by decide +kernel
theorem dX10_letterFor_33 : decode cX10_letterFor 33 = .ok (.getfield 44, 3) := by decide +kernel
theorem dX10_letterFor_36 : decode cX10_letterFor 36 = .ok (.goto 9, 3) := by decide +kernel
theorem dX10_letterFor_39 : decode cX10_letterFor 39 = .ok (.aload_n 0, 1) := by decide +kernel
theorem dX10_letterFor_40 : decode cX10_letterFor 40 = .ok (.getfield 44, 3) := by decide +kernel
theorem dX10_letterFor_43 : decode cX10_letterFor 43 = .ok (.iconst 1, 1) := by decide +kernel
theorem dX10_letterFor_44 : decode cX10_letterFor 44 = .ok (.iadd, 1) := by decide +kernel
theorem dX10_letterFor_45 : decode cX10_letterFor 45 = .ok (.istore_n 2, 1) := by decide +kernel
theorem dX10_letterFor_46 : decode cX10_letterFor 46 = .ok (.iload_n 2, 1) := by decide +kernel
theorem dX10_letterFor_47 : decode cX10_letterFor 47 = .ok (.iconst 1, 1) := by decide +kernel
theorem dX10_letterFor_48 : decode cX10_letterFor 48 = .ok (.if_icmp .ne 8, 3) := by decide +kernel
theorem dX10_letterFor_51 : decode cX10_letterFor 51 = .ok (.bipush 98, 2) := by decide +kernel
theorem dX10_letterFor_53 : decode cX10_letterFor 53 = .ok (.goto 25, 3) := by decide +kernel
theorem dX10_letterFor_56 : decode cX10_letterFor 56 = .ok (.iload_n 2, 1) := by decide +kernel
theorem dX10_letterFor_57 : decode cX10_letterFor 57 = .ok (.iconst 2, 1) := by decide +kernel
theorem dX10_letterFor_58 : decode cX10_letterFor 58 = .ok (.if_icmp .ne 8, 3) := by decide +kernel
theorem dX10_letterFor_61 : decode cX10_letterFor 61 = .ok (.bipush 97, 2) := by decide +kernel
theorem dX10_letterFor_63 : decode cX10_letterFor 63 = .ok (.goto 15, 3) := by decide +kernel
theorem dX10_letterFor_66 : decode cX10_letterFor 66 = .ok (.iload_n 2, 1) := by decide +kernel
theorem dX10_letterFor_67 : decode cX10_letterFor 67 = .ok (.iconst 3, 1) := by decide +kernel
theorem dX10_letterFor_68 : decode cX10_letterFor 68 = .ok (.if_icmp .ne 8, 3) := by decide +kernel
theorem dX10_letterFor_71 : decode cX10_letterFor 71 = .ok (.bipush 115, 2) := by decide +kernel
theorem dX10_letterFor_73 : decode cX10_letterFor 73 = .ok (.goto 5, 3) := by decide +kernel
theorem dX10_letterFor_76 : decode cX10_letterFor 76 = .ok (.bipush 117, 2) := by decide +kernel
theorem dX10_letterFor_78 : decode cX10_letterFor 78 = .ok (.ireturn, 1) := by decide +kernel
theorem dX10_run_0 : decode cX10_run 0 = .ok (.aload_n 0, 1) := by decide +kernel
theorem dX10_run_1 : decode cX10_run 1 = .ok (.invokevirtual 238, 3) := by decide +kernel
theorem dX10_run_4 : decode cX10_run 4 = .ok (.aload_n 0, 1) := by decide +kernel
theorem dX10_run_5 : decode cX10_run 5 = .ok (.getfield 197, 3) := by decide +kernel
theorem dX10_run_8 : decode cX10_run 8 = .ok (.iconst (-1), 1) := by decide +kernel
theorem dX10_run_9 : decode cX10_run 9 = .ok (.if_icmp .eq 18, 3) := by decide +kernel
theorem dX10_run_12 : decode cX10_run 12 = .ok (.aload_n 0, 1) := by decide +kernel
theorem dX10_run_13 : decode cX10_run 13 = .ok (.aload_n 0, 1) := by decide +kernel
theorem dX10_run_14 : decode cX10_run 14 = .ok (.getfield 197, 3) := by decide +kernel
theorem dX10_run_17 : decode cX10_run 17 = .ok (.putfield 25, 3) := by decide +kernel
theorem dX10_run_20 : decode cX10_run 20 = .ok (.aload_n 0, 1) := by decide +kernel
theorem dX10_run_21 : decode cX10_run 21 = .ok (.iconst 1, 1) := by decide +kernel
theorem dX10_run_22 : decode cX10_run 22 = .ok (.putfield 44, 3) := by decide +kernel
theorem dX10_run_25 : decode cX10_run 25 = .ok (.iconst 0, 1) := by decide +kernel
theorem dX10_run_26 : decode cX10_run 26 = .ok (.ireturn, 1) := by decide +kernel
theorem dX10_run_27 : decode cX10_run 27 = .ok (.aload_n 0, 1) := by decide +kernel
theorem dX10_run_28 : decode cX10_run 28 = .ok (.invokevirtual 97, 3) := by decide +kernel
theorem dX10_run_31 : decode cX10_run 31 = .ok (.aload_n 0, 1) := by decide +kernel
theorem dX10_run_32 : decode cX10_run 32 = .ok (.iconst 0, 1) := by decide +kernel
theorem dX10_run_33 : decode cX10_run 33 = .ok (.putfield 44, 3) := by decide +kernel
theorem dX10_run_36 : decode cX10_run 36 = .ok (.iconst 0, 1) := by decide +kernel
theorem dX10_run_37 : decode cX10_run 37 = .ok (.istore_n 1, 1) := by decide +kernel
theorem dX10_run_38 : decode cX10_run 38 = .ok (.iload_n 1, 1) := by decide +kernel
theorem dX10_run_39 : decode cX10_run 39 = .ok (.aload_n 0, 1) := by decide +kernel
theorem dX10_run_40 : decode cX10_run 40 = .ok (.getfield 223, 3) := by decide +kernel
theorem dX10_run_43 : decode cX10_run 43 = .ok (.if_icmp .ge 65, 3) := by decide +kernel
theorem dX10_run_46 : decode cX10_run 46 = .ok (.aload_n 0, 1) := by decide +kernel
theorem dX10_run_47 : decode cX10_run 47 = .ok (.iconst 4, 1) := by decide +kernel
theorem dX10_run_48 : decode cX10_run 48 = .ok (.iload_n 1, 1) := by decide +kernel
theorem dX10_run_49 : decode cX10_run 49 = .ok (.imul, 1) := by decide +kernel
theorem dX10_run_50 : decode cX10_run 50 = .ok (.invokevirtual 241, 3) := by decide +kernel
theorem dX10_run_53 : decode cX10_run 53 = .ok (.istore_n 2, 1) := by decide +kernel
theorem dX10_run_54 : decode cX10_run 54 = .ok (.aload_n 0, 1) := by decide +kernel
theorem dX10_run_55 : decode cX10_run 55 = .ok (.getfield 44, 3) := by decide +kernel
theorem dX10_run_58 : decode cX10_run 58 = .ok (.ifCond .eq 44, 3) := by decide +kernel
theorem dX10_run_61 : decode cX10_run 61 = .ok (.aload_n 0, 1) := by decide +kernel
theorem dX10_run_62 : decode cX10_run 62 = .ok (.iload_n 1, 1) := by decide +kernel
theorem dX10_run_63 : decode cX10_run 63 = .ok (.putfield 29, 3) := by decide +kernel
theorem dX10_run_66 : decode cX10_run 66 = .ok (.aload_n 0, 1) := by decide +kernel
theorem dX10_run_67 : decode cX10_run 67 = .ok (.aload_n 0, 1) := by decide +kernel
theorem dX10_run_68 : decode cX10_run 68 = .ok (.aload_n 0, 1) := by decide +kernel
theorem dX10_run_69 : decode cX10_run 69 = .ok (.getfield 41, 3) := by decide +kernel
theorem dX10_run_72 : decode cX10_run 72 = .ok (.iconst 4, 1) := by decide +kernel
theorem dX10_run_73 : decode cX10_run 73 = .ok (.iload_n 1, 1) := by decide +kernel
theorem dX10_run_74 : decode cX10_run 74 = .ok (.imul, 1) := by decide +kernel
theorem dX10_run_75 : decode cX10_run 75 = .ok (.iaload, 1) := by decide +kernel
theorem dX10_run_76 : decode cX10_run 76 = .ok (.invokevirtual 244, 3) := by decide +kernel
theorem dX10_run_79 : decode cX10_run 79 = .ok (.putfield 247, 3) := by decide +kernel
theorem dX10_run_82 : decode cX10_run 82 = .ok (.aload_n 0, 1) := by decide +kernel
theorem dX10_run_83 : decode cX10_run 83 = .ok (.iconst 2, 1) := by decide +kernel
theorem dX10_run_84 : decode cX10_run 84 = .ok (.putfield 44, 3) := by decide +kernel
theorem dX10_run_87 : decode cX10_run 87 = .ok (.aload_n 0, 1) := by decide +kernel
theorem dX10_run_88 : decode cX10_run 88 = .ok (.getfield 13, 3) := by decide +kernel
theorem dX10_run_91 : decode cX10_run 91 = .ok (.iconst 0, 1) := by decide +kernel
theorem dX10_run_92 : decode cX10_run 92 = .ok (.aload_n 0, 1) := by decide +kernel
theorem dX10_run_93 : decode cX10_run 93 = .ok (.getfield 9, 3) := by decide +kernel
theorem dX10_run_96 : decode cX10_run 96 = .ok (.iconst 0, 1) := by decide +kernel
theorem dX10_run_97 : decode cX10_run 97 = .ok (.invokestatic 51, 3) := by decide +kernel
theorem dX10_run_100 : decode cX10_run 100 = .ok (.iconst 0, 1) := by decide +kernel
theorem dX10_run_101 : decode cX10_run 101 = .ok (.ireturn, 1) := by decide +kernel
theorem dX10_run_102 : decode cX10_run 102 = .ok (.iinc 1 1, 3) := by decide +kernel
theorem dX10_run_105 : decode cX10_run 105 = .ok (.goto (-67), 3) := by decide +kernel
theorem dX10_run_108 : decode cX10_run 108 = .ok (.aload_n 0, 1) := by decide +kernel
theorem dX10_run_109 : decode cX10_run 109 = .ok (.aload_n 0, 1) := by decide +kernel
theorem dX10_run_110 : decode cX10_run 110 = .ok (.getfield 223, 3) := by decide +kernel
theorem dX10_run_113 : decode cX10_run 113 = .ok (.invokevirtual 104, 3) := by decide +kernel
theorem dX10_run_116 : decode cX10_run 116 = .ok (.ireturn, 1) := by decide +kernel
theorem dX10_errorPosition_0 : decode cX10_errorPosition 0 = .ok (.aload_n 0, 1) := by decide +kernel
theorem dX10_errorPosition_1 : decode cX10_errorPosition 1 = .ok (.aload_n 0, 1) := by decide +kernel
theorem dX10_errorPosition_2 : decode cX10_errorPosition 2 = .ok (.getfield 25, 3) := by decide +kernel
theorem dX10_errorPosition_5 : decode cX10_errorPosition 5 = .ok (.iconst (-1), 1) := by decide +kernel
theorem dX10_errorPosition_6 : decode cX10_errorPosition 6 = .ok (.if_icmp .eq 7, 3) := by decide +kernel
theorem dX10_errorPosition_9 : decode cX10_errorPosition 9 = .ok (.iconst 1, 1) := by decide +kernel
theorem dX10_errorPosition_10 : decode cX10_errorPosition 10 = .ok (.goto 4, 3) := by decide +kernel
theorem dX10_errorPosition_13 : decode cX10_errorPosition 13 = .ok (.iconst 0, 1) := by decide +kernel
theorem dX10_errorPosition_14 : decode cX10_errorPosition 14 = .ok (.invokevirtual 61, 3) := by decide +kernel
theorem dX10_errorPosition_17 : decode cX10_errorPosition 17 = .ok (.ifCond .eq 10, 3) := by decide +kernel
theorem dX10_errorPosition_20 : decode cX10_errorPosition 20 = .ok (.aload_n 0, 1) := by decide +kernel
theorem dX10_errorPosition_21 : decode cX10_errorPosition 21 = .ok (.getfield 25, 3) := by decide +kernel
theorem dX10_errorPosition_24 : decode cX10_errorPosition 24 = .ok (.goto 4, 3) := by decide +kernel
theorem dX10_errorPosition_27 : decode cX10_errorPosition 27 = .ok (.iconst 0, 1) := by decide +kernel
theorem dX10_errorPosition_28 : decode cX10_errorPosition 28 = .ok (.ireturn, 1) := by decide +kernel
theorem dX10_failedCommand_0 : decode cX10_failedCommand 0 = .ok (.aload_n 0, 1) := by decide +kernel
theorem dX10_failedCommand_1 : decode cX10_failedCommand 1 = .ok (.aload_n 0, 1) := by decide +kernel
theorem dX10_failedCommand_2 : decode cX10_failedCommand 2 = .ok (.getfield 29, 3) := by decide +kernel
theorem dX10_failedCommand_5 : decode cX10_failedCommand 5 = .ok (.iconst (-1), 1) := by decide +kernel
theorem dX10_failedCommand_6 : decode cX10_failedCommand 6 = .ok (.if_icmp .eq 7, 3) := by decide +kernel
theorem dX10_failedCommand_9 : decode cX10_failedCommand 9 = .ok (.iconst 1, 1) := by decide +kernel
theorem dX10_failedCommand_10 : decode cX10_failedCommand 10 = .ok (.goto 4, 3) := by decide +kernel
theorem dX10_failedCommand_13 : decode cX10_failedCommand 13 = .ok (.iconst 0, 1) := by decide +kernel
theorem dX10_failedCommand_14 : decode cX10_failedCommand 14 = .ok (.invokevirtual 61, 3) := by decide +kernel
theorem dX10_failedCommand_17 : decode cX10_failedCommand 17 = .ok (.ifCond .eq 10, 3) := by decide +kernel
theorem dX10_failedCommand_20 : decode cX10_failedCommand 20 = .ok (.aload_n 0, 1) := by decide +kernel
theorem dX10_failedCommand_21 : decode cX10_failedCommand 21 = .ok (.getfield 29, 3) := by decide +kernel
theorem dX10_failedCommand_24 : decode cX10_failedCommand 24 = .ok (.goto 4, 3) := by decide +kernel
theorem dX10_failedCommand_27 : decode cX10_failedCommand 27 = .ok (.iconst 0, 1) := by decide +kernel
theorem dX10_failedCommand_28 : decode cX10_failedCommand 28 = .ok (.ireturn, 1) := by decide +kernel
theorem dX10_failureKind_0 : decode cX10_failureKind 0 = .ok (.aload_n 0, 1) := by decide +kernel
theorem dX10_failureKind_1 : decode cX10_failureKind 1 = .ok (.aload_n 0, 1) := by decide +kernel
theorem dX10_failureKind_2 : decode cX10_failureKind 2 = .ok (.getfield 29, 3) := by decide +kernel
theorem dX10_failureKind_5 : decode cX10_failureKind 5 = .ok (.iconst (-1), 1) := by decide +kernel
theorem dX10_failureKind_6 : decode cX10_failureKind 6 = .ok (.if_icmp .eq 7, 3) := by decide +kernel
theorem dX10_failureKind_9 : decode cX10_failureKind 9 = .ok (.iconst 1, 1) := by decide +kernel
theorem dX10_failureKind_10 : decode cX10_failureKind 10 = .ok (.goto 4, 3) := by decide +kernel
theorem dX10_failureKind_13 : decode cX10_failureKind 13 = .ok (.iconst 0, 1) := by decide +kernel
theorem dX10_failureKind_14 : decode cX10_failureKind 14 = .ok (.invokevirtual 61, 3) := by decide +kernel
theorem dX10_failureKind_17 : decode cX10_failureKind 17 = .ok (.ifCond .eq 11, 3) := by decide +kernel
theorem dX10_failureKind_20 : decode cX10_failureKind 20 = .ok (.aload_n 0, 1) := by decide +kernel
theorem dX10_failureKind_21 : decode cX10_failureKind 21 = .ok (.getfield 247, 3) := by decide +kernel
theorem dX10_failureKind_24 : decode cX10_failureKind 24 = .ok (.i2c, 1) := by decide +kernel
theorem dX10_failureKind_25 : decode cX10_failureKind 25 = .ok (.goto 4, 3) := by decide +kernel
theorem dX10_failureKind_28 : decode cX10_failureKind 28 = .ok (.iconst 0, 1) := by decide +kernel
theorem dX10_failureKind_29 : decode cX10_failureKind 29 = .ok (.ireturn, 1) := by decide +kernel
