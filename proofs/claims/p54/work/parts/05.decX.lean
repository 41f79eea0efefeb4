theorem dX1_init_0 : decode cX1_init 0 = .ok (.aload_n 0, 1) := by decide +kernel
theorem dX1_init_1 : decode cX1_init 1 = .ok (.invokespecial 3, 3) := by decide +kernel
theorem dX1_init_4 : decode cX1_init 4 = .ok (.aload_n 0, 1) := by decide +kernel
theorem dX1_init_5 : decode cX1_init 5 = .ok (.getstatic 9, 3) := by decide +kernel
theorem dX1_init_8 : decode cX1_init 8 = .ok (.putfield 15, 3) := by decide +kernel
theorem dX1_init_11 : decode cX1_init 11 = .ok (.aload_n 0, 1) := by decide +kernel
theorem dX1_init_12 : decode cX1_init 12 = .ok (.iconst 3, 1) := by decide +kernel
theorem dX1_init_13 : decode cX1_init 13 = .ok (.newarray .int, 2) := by decide +kernel
theorem dX1_init_15 : decode cX1_init 15 = .ok (.putfield 20, 3) := by decide +kernel
theorem dX1_init_18 : decode cX1_init 18 = .ok (.aload_n 0, 1) := by decide +kernel
theorem dX1_init_19 : decode cX1_init 19 = .ok (.iconst 0, 1) := by decide +kernel
theorem dX1_init_20 : decode cX1_init 20 = .ok (.putfield 24, 3) := by decide +kernel
theorem dX1_init_23 : decode cX1_init 23 = .ok (.return_, 1) := by decide +kernel
theorem dX1_begin_0 : decode cX1_begin 0 = .ok (.aload_n 0, 1) := by decide +kernel
theorem dX1_begin_1 : decode cX1_begin 1 = .ok (.aload_n 1, 1) := by decide +kernel
theorem dX1_begin_2 : decode cX1_begin 2 = .ok (.putfield 15, 3) := by decide +kernel
theorem dX1_begin_5 : decode cX1_begin 5 = .ok (.aload_n 0, 1) := by decide +kernel
theorem dX1_begin_6 : decode cX1_begin 6 = .ok (.iconst 0, 1) := by decide +kernel
theorem dX1_begin_7 : decode cX1_begin 7 = .ok (.putfield 24, 3) := by decide +kernel
theorem dX1_begin_10 : decode cX1_begin 10 = .ok (.return_, 1) := by decide +kernel
theorem dX1_addNumber_0 : decode cX1_addNumber 0 = .ok (.aload_n 0, 1) := by decide +kernel
theorem dX1_addNumber_1 : decode cX1_addNumber 1 = .ok (.getfield 24, 3) := by decide +kernel
theorem dX1_addNumber_4 : decode cX1_addNumber 4 = .ok (.iconst 3, 1) := by decide +kernel
theorem dX1_addNumber_5 : decode cX1_addNumber 5 = .ok (.if_icmp .ge 23, 3) := by decide +kernel
theorem dX1_addNumber_8 : decode cX1_addNumber 8 = .ok (.aload_n 0, 1) := by decide +kernel
theorem dX1_addNumber_9 : decode cX1_addNumber 9 = .ok (.getfield 20, 3) := by decide +kernel
theorem dX1_addNumber_12 : decode cX1_addNumber 12 = .ok (.aload_n 0, 1) := by decide +kernel
theorem dX1_addNumber_13 : decode cX1_addNumber 13 = .ok (.getfield 24, 3) := by decide +kernel
theorem dX1_addNumber_16 : decode cX1_addNumber 16 = .ok (.iload_n 1, 1) := by decide +kernel
theorem dX1_addNumber_17 : decode cX1_addNumber 17 = .ok (.iastore, 1) := by decide +kernel
theorem dX1_addNumber_18 : decode cX1_addNumber 18 = .ok (.aload_n 0, 1) := by decide +kernel
theorem dX1_addNumber_19 : decode cX1_addNumber 19 = .ok (.dup, 1) := by decide +kernel
theorem dX1_addNumber_20 : decode cX1_addNumber 20 = .ok (.getfield 24, 3) := by decide +kernel
theorem dX1_addNumber_23 : decode cX1_addNumber 23 = .ok (.iconst 1, 1) := by decide +kernel
theorem dX1_addNumber_24 : decode cX1_addNumber 24 = .ok (.iadd, 1) := by decide +kernel
theorem dX1_addNumber_25 : decode cX1_addNumber 25 = .ok (.putfield 24, 3) := by decide +kernel
theorem dX1_addNumber_28 : decode cX1_addNumber 28 = .ok (.return_, 1) := by decide +kernel
theorem dX2_init_0 : decode cX2_init 0 = .ok (.aload_n 0, 1) := by decide +kernel
theorem dX2_init_1 : decode cX2_init 1 = .ok (.invokespecial 3, 3) := by decide +kernel
theorem dX2_init_4 : decode cX2_init 4 = .ok (.aload_n 0, 1) := by decide +kernel
theorem dX2_init_5 : decode cX2_init 5 = .ok (.bipush 60, 2) := by decide +kernel
theorem dX2_init_7 : decode cX2_init 7 = .ok (.newarray .char, 2) := by decide +kernel
theorem dX2_init_9 : decode cX2_init 9 = .ok (.putfield 9, 3) := by decide +kernel
theorem dX2_init_12 : decode cX2_init 12 = .ok (.aload_n 0, 1) := by decide +kernel
theorem dX2_init_13 : decode cX2_init 13 = .ok (.iconst 0, 1) := by decide +kernel
theorem dX2_init_14 : decode cX2_init 14 = .ok (.putfield 15, 3) := by decide +kernel
theorem dX2_init_17 : decode cX2_init 17 = .ok (.aload_n 0, 1) := by decide +kernel
theorem dX2_init_18 : decode cX2_init 18 = .ok (.iconst 0, 1) := by decide +kernel
theorem dX2_init_19 : decode cX2_init 19 = .ok (.putfield 19, 3) := by decide +kernel
theorem dX2_init_22 : decode cX2_init 22 = .ok (.aload_n 0, 1) := by decide +kernel
theorem dX2_init_23 : decode cX2_init 23 = .ok (.bipush 12, 2) := by decide +kernel
theorem dX2_init_25 : decode cX2_init 25 = .ok (.anewarray 22, 3) := by decide +kernel
theorem dX2_init_28 : decode cX2_init 28 = .ok (.putfield 24, 3) := by decide +kernel
theorem dX2_init_31 : decode cX2_init 31 = .ok (.aload_n 0, 1) := by decide +kernel
theorem dX2_init_32 : decode cX2_init 32 = .ok (.iconst 0, 1) := by decide +kernel
theorem dX2_init_33 : decode cX2_init 33 = .ok (.putfield 28, 3) := by decide +kernel
theorem dX2_init_36 : decode cX2_init 36 = .ok (.iconst 0, 1) := by decide +kernel
theorem dX2_init_37 : decode cX2_init 37 = .ok (.istore_n 1, 1) := by decide +kernel
theorem dX2_init_38 : decode cX2_init 38 = .ok (.iload_n 1, 1) := by decide +kernel
theorem dX2_init_39 : decode cX2_init 39 = .ok (.bipush 12, 2) := by decide +kernel
theorem dX2_init_41 : decode cX2_init 41 = .ok (.if_icmp .ge 22, 3) := by decide +kernel
theorem dX2_init_44 : decode cX2_init 44 = .ok (.aload_n 0, 1) := by decide +kernel
theorem dX2_init_45 : decode cX2_init 45 = .ok (.getfield 24, 3) := by decide +kernel
theorem dX2_init_48 : decode cX2_init 48 = .ok (.iload_n 1, 1) := by decide +kernel
theorem dX2_init_49 : decode cX2_init 49 = .ok (.new 22, 3) := by decide +kernel
theorem dX2_init_52 : decode cX2_init 52 = .ok (.dup, 1) := by decide +kernel
theorem dX2_init_53 : decode cX2_init 53 = .ok (.invokespecial 31, 3) := by decide +kernel
theorem dX2_init_56 : decode cX2_init 56 = .ok (.aastore, 1) := by decide +kernel
theorem dX2_init_57 : decode cX2_init 57 = .ok (.iinc 1 1, 3) := by decide +kernel
theorem dX2_init_60 : decode cX2_init 60 = .ok (.goto (-22), 3) := by decide +kernel
theorem dX2_init_63 : decode cX2_init 63 = .ok (.return_, 1) := by decide +kernel
theorem dX2_clear_0 : decode cX2_clear 0 = .ok (.aload_n 0, 1) := by decide +kernel
theorem dX2_clear_1 : decode cX2_clear 1 = .ok (.iconst 0, 1) := by decide +kernel
theorem dX2_clear_2 : decode cX2_clear 2 = .ok (.putfield 15, 3) := by decide +kernel
theorem dX2_clear_5 : decode cX2_clear 5 = .ok (.return_, 1) := by decide +kernel
theorem dX2_parse_0 : decode cX2_parse 0 = .ok (.aload_n 0, 1) := by decide +kernel
theorem dX2_parse_1 : decode cX2_parse 1 = .ok (.iconst 0, 1) := by decide +kernel
theorem dX2_parse_2 : decode cX2_parse 2 = .ok (.putfield 19, 3) := by decide +kernel
theorem dX2_parse_5 : decode cX2_parse 5 = .ok (.aload_n 0, 1) := by decide +kernel
theorem dX2_parse_6 : decode cX2_parse 6 = .ok (.iconst 0, 1) := by decide +kernel
theorem dX2_parse_7 : decode cX2_parse 7 = .ok (.putfield 28, 3) := by decide +kernel
theorem dX2_parse_10 : decode cX2_parse 10 = .ok (.iconst 0, 1) := by decide +kernel
theorem dX2_parse_11 : decode cX2_parse 11 = .ok (.istore_n 1, 1) := by decide +kernel
theorem dX2_parse_12 : decode cX2_parse 12 = .ok (.iload_n 1, 1) := by decide +kernel
theorem dX2_parse_13 : decode cX2_parse 13 = .ok (.bipush 12, 2) := by decide +kernel
theorem dX2_parse_15 : decode cX2_parse 15 = .ok (.if_icmp .ge 58, 3) := by decide +kernel
theorem dX2_parse_18 : decode cX2_parse 18 = .ok (.aload_n 0, 1) := by decide +kernel
theorem dX2_parse_19 : decode cX2_parse 19 = .ok (.aload_n 0, 1) := by decide +kernel
theorem dX2_parse_20 : decode cX2_parse 20 = .ok (.getfield 24, 3) := by decide +kernel
theorem dX2_parse_23 : decode cX2_parse 23 = .ok (.iload_n 1, 1) := by decide +kernel
theorem dX2_parse_24 : decode cX2_parse 24 = .ok (.aaload, 1) := by decide +kernel
theorem dX2_parse_25 : decode cX2_parse 25 = .ok (.invokevirtual 32, 3) := by decide +kernel
theorem dX2_parse_28 : decode cX2_parse 28 = .ok (.ifCond .ne 5, 3) := by decide +kernel
theorem dX2_parse_31 : decode cX2_parse 31 = .ok (.iconst 0, 1) := by decide +kernel
theorem dX2_parse_32 : decode cX2_parse 32 = .ok (.ireturn, 1) := by decide +kernel
theorem dX2_parse_33 : decode cX2_parse 33 = .ok (.aload_n 0, 1) := by decide +kernel
theorem dX2_parse_34 : decode cX2_parse 34 = .ok (.dup, 1) := by decide +kernel
theorem dX2_parse_35 : decode cX2_parse 35 = .ok (.getfield 28, 3) := by decide +kernel
theorem dX2_parse_38 : decode cX2_parse 38 = .ok (.iconst 1, 1) := by decide +kernel
theorem dX2_parse_39 : decode cX2_parse 39 = .ok (.iadd, 1) := by decide +kernel
theorem dX2_parse_40 : decode cX2_parse 40 = .ok (.putfield 28, 3) := by decide +kernel
theorem dX2_parse_43 : decode cX2_parse 43 = .ok (.aload_n 0, 1) := by decide +kernel
theorem dX2_parse_44 : decode cX2_parse 44 = .ok (.getfield 19, 3) := by decide +kernel
theorem dX2_parse_47 : decode cX2_parse 47 = .ok (.aload_n 0, 1) := by decide +kernel
theorem dX2_parse_48 : decode cX2_parse 48 = .ok (.getfield 15, 3) := by decide +kernel
theorem dX2_parse_51 : decode cX2_parse 51 = .ok (.if_icmp .lt 5, 3) := by decide +kernel
theorem dX2_parse_54 : decode cX2_parse 54 = .ok (.iconst 1, 1) := by decide +kernel
theorem dX2_parse_55 : decode cX2_parse 55 = .ok (.ireturn, 1) := by decide +kernel
theorem dX2_parse_56 : decode cX2_parse 56 = .ok (.aload_n 0, 1) := by decide +kernel
theorem dX2_parse_57 : decode cX2_parse 57 = .ok (.bipush 59, 2) := by decide +kernel
theorem dX2_parse_59 : decode cX2_parse 59 = .ok (.invokevirtual 36, 3) := by decide +kernel
theorem dX2_parse_62 : decode cX2_parse 62 = .ok (.ifCond .ne 5, 3) := by decide +kernel
theorem dX2_parse_65 : decode cX2_parse 65 = .ok (.iconst 0, 1) := by decide +kernel
theorem dX2_parse_66 : decode cX2_parse 66 = .ok (.ireturn, 1) := by decide +kernel
theorem dX2_parse_67 : decode cX2_parse 67 = .ok (.iinc 1 1, 3) := by decide +kernel
theorem dX2_parse_70 : decode cX2_parse 70 = .ok (.goto (-58), 3) := by decide +kernel
theorem dX2_parse_73 : decode cX2_parse 73 = .ok (.iconst 0, 1) := by decide +kernel
theorem dX2_parse_74 : decode cX2_parse 74 = .ok (.ireturn, 1) := by decide +kernel
theorem dX2_readCommand_0 : decode cX2_readCommand 0 = .ok (.iconst 0, 1) := by decide +kernel
theorem dX2_readCommand_1 : decode cX2_readCommand 1 = .ok (.istore_n 2, 1) := by decide +kernel
theorem dX2_readCommand_2 : decode cX2_readCommand 2 = .ok (.iload_n 2, 1) := by decide +kernel
theorem dX2_readCommand_3 : decode cX2_readCommand 3 = .ok (.getstatic 40, 3) := by decide +kernel
theorem dX2_readCommand_6 : decode cX2_readCommand 6 = .ok (.arraylength, 1) := by decide +kernel
theorem dX2_readCommand_7 : decode cX2_readCommand 7 = .ok (.if_icmp .ge 53, 3) := by decide +kernel
theorem dX2_readCommand_10 : decode cX2_readCommand 10 = .ok (.getstatic 40, 3) := by decide +kernel
theorem dX2_readCommand_13 : decode cX2_readCommand 13 = .ok (.iload_n 2, 1) := by decide +kernel
theorem dX2_readCommand_14 : decode cX2_readCommand 14 = .ok (.aaload, 1) := by decide +kernel
theorem dX2_readCommand_15 : decode cX2_readCommand 15 = .ok (.getfield 44, 3) := by decide +kernel
theorem dX2_readCommand_18 : decode cX2_readCommand 18 = .ok (.astore_n 3, 1) := by decide +kernel
theorem dX2_readCommand_19 : decode cX2_readCommand 19 = .ok (.aload_n 3, 1) := by decide +kernel
theorem dX2_readCommand_20 : decode cX2_readCommand 20 = .ok (.invokevirtual 50, 3) := by decide +kernel
theorem dX2_readCommand_23 : decode cX2_readCommand 23 = .ok (.ifCond .ne 31, 3) := by decide +kernel
theorem dX2_readCommand_26 : decode cX2_readCommand 26 = .ok (.aload_n 0, 1) := by decide +kernel
theorem dX2_readCommand_27 : decode cX2_readCommand 27 = .ok (.aload_n 3, 1) := by decide +kernel
theorem dX2_readCommand_28 : decode cX2_readCommand 28 = .ok (.iconst 0, 1) := by decide +kernel
theorem dX2_readCommand_29 : decode cX2_readCommand 29 = .ok (.invokevirtual 56, 3) := by decide +kernel
theorem dX2_readCommand_32 : decode cX2_readCommand 32 = .ok (.invokevirtual 60, 3) := by decide +kernel
theorem dX2_readCommand_35 : decode cX2_readCommand 35 = .ok (.ifCond .eq 19, 3) := by decide +kernel
theorem dX2_readCommand_38 : decode cX2_readCommand 38 = .ok (.aload_n 1, 1) := by decide +kernel
theorem dX2_readCommand_39 : decode cX2_readCommand 39 = .ok (.getstatic 40, 3) := by decide +kernel
theorem dX2_readCommand_42 : decode cX2_readCommand 42 = .ok (.iload_n 2, 1) := by decide +kernel
theorem dX2_readCommand_43 : decode cX2_readCommand 43 = .ok (.aaload, 1) := by decide +kernel
theorem dX2_readCommand_44 : decode cX2_readCommand 44 = .ok (.invokevirtual 63, 3) := by decide +kernel
theorem dX2_readCommand_47 : decode cX2_readCommand 47 = .ok (.aload_n 0, 1) := by decide +kernel
theorem dX2_readCommand_48 : decode cX2_readCommand 48 = .ok (.aload_n 3, 1) := by decide +kernel
theorem dX2_readCommand_49 : decode cX2_readCommand 49 = .ok (.aload_n 1, 1) := by decide +kernel
theorem dX2_readCommand_50 : decode cX2_readCommand 50 = .ok (.invokevirtual 67, 3) := by decide +kernel
theorem dX2_readCommand_53 : decode cX2_readCommand 53 = .ok (.ireturn, 1) := by decide +kernel
theorem dX2_readCommand_54 : decode cX2_readCommand 54 = .ok (.iinc 2 1, 3) := by decide +kernel
theorem dX2_readCommand_57 : decode cX2_readCommand 57 = .ok (.goto (-55), 3) := by decide +kernel
theorem dX2_readCommand_60 : decode cX2_readCommand 60 = .ok (.iconst 0, 1) := by decide +kernel
theorem dX2_readCommand_61 : decode cX2_readCommand 61 = .ok (.ireturn, 1) := by decide +kernel
theorem dX2_readForm_0 : decode cX2_readForm 0 = .ok (.iconst 0, 1) := by decide +kernel
theorem dX2_readForm_1 : decode cX2_readForm 1 = .ok (.istore_n 3, 1) := by decide +kernel
theorem dX2_readForm_2 : decode cX2_readForm 2 = .ok (.iload_n 3, 1) := by decide +kernel
theorem dX2_readForm_3 : decode cX2_readForm 3 = .ok (.aload_n 1, 1) := by decide +kernel
theorem dX2_readForm_4 : decode cX2_readForm 4 = .ok (.invokevirtual 71, 3) := by decide +kernel
theorem dX2_readForm_7 : decode cX2_readForm 7 = .ok (.if_icmp .ge 24, 3) := by decide +kernel
theorem dX2_readForm_10 : decode cX2_readForm 10 = .ok (.aload_n 0, 1) := by decide +kernel
theorem dX2_readForm_11 : decode cX2_readForm 11 = .ok (.aload_n 1, 1) := by decide +kernel
theorem dX2_readForm_12 : decode cX2_readForm 12 = .ok (.iload_n 3, 1) := by decide +kernel
theorem dX2_readForm_13 : decode cX2_readForm 13 = .ok (.invokevirtual 56, 3) := by decide +kernel
theorem dX2_readForm_16 : decode cX2_readForm 16 = .ok (.aload_n 2, 1) := by decide +kernel
theorem dX2_readForm_17 : decode cX2_readForm 17 = .ok (.invokevirtual 74, 3) := by decide +kernel
theorem dX2_readForm_20 : decode cX2_readForm 20 = .ok (.ifCond .ne 5, 3) := by decide +kernel
theorem dX2_readForm_23 : decode cX2_readForm 23 = .ok (.iconst 0, 1) := by decide +kernel
theorem dX2_readForm_24 : decode cX2_readForm 24 = .ok (.ireturn, 1) := by decide +kernel
theorem dX2_readForm_25 : decode cX2_readForm 25 = .ok (.iinc 3 1, 3) := by decide +kernel
theorem dX2_readForm_28 : decode cX2_readForm 28 = .ok (.goto (-26), 3) := by decide +kernel
theorem dX2_readForm_31 : decode cX2_readForm 31 = .ok (.iconst 1, 1) := by decide +kernel
theorem dX2_readForm_32 : decode cX2_readForm 32 = .ok (.ireturn, 1) := by decide +kernel
theorem dX2_readPart_0 : decode cX2_readPart 0 = .ok (.iload_n 1, 1) := by decide +kernel
theorem dX2_readPart_1 : decode cX2_readPart 1 = .ok (.bipush 68, 2) := by decide +kernel
theorem dX2_readPart_3 : decode cX2_readPart 3 = .ok (.if_icmp .ne 11, 3) := by decide +kernel
theorem dX2_readPart_6 : decode cX2_readPart 6 = .ok (.aload_n 0, 1) := by decide +kernel
theorem dX2_readPart_7 : decode cX2_readPart 7 = .ok (.iconst 1, 1) := by decide +kernel
theorem dX2_readPart_8 : decode cX2_readPart 8 = .ok (.iconst 1, 1) := by decide +kernel
theorem dX2_readPart_9 : decode cX2_readPart 9 = .ok (.aload_n 2, 1) := by decide +kernel
theorem dX2_readPart_10 : decode cX2_readPart 10 = .ok (.invokevirtual 78, 3) := by decide +kernel
theorem dX2_readPart_13 : decode cX2_readPart 13 = .ok (.ireturn, 1) := by decide +kernel
theorem dX2_readPart_14 : decode cX2_readPart 14 = .ok (.iload_n 1, 1) := by decide +kernel
theorem dX2_readPart_15 : decode cX2_readPart 15 = .ok (.bipush 78, 2) := by decide +kernel
theorem dX2_readPart_17 : decode cX2_readPart 17 = .ok (.if_icmp .ne 11, 3) := by decide +kernel
theorem dX2_readPart_20 : decode cX2_readPart 20 = .ok (.aload_n 0, 1) := by decide +kernel
theorem dX2_readPart_21 : decode cX2_readPart 21 = .ok (.iconst 3, 1) := by decide +kernel
theorem dX2_readPart_22 : decode cX2_readPart 22 = .ok (.iconst 1, 1) := by decide +kernel
theorem dX2_readPart_23 : decode cX2_readPart 23 = .ok (.aload_n 2, 1) := by decide +kernel
theorem dX2_readPart_24 : decode cX2_readPart 24 = .ok (.invokevirtual 78, 3) := by decide +kernel
theorem dX2_readPart_27 : decode cX2_readPart 27 = .ok (.ireturn, 1) := by decide +kernel
theorem dX2_readPart_28 : decode cX2_readPart 28 = .ok (.iload_n 1, 1) := by decide +kernel
theorem dX2_readPart_29 : decode cX2_readPart 29 = .ok (.bipush 84, 2) := by decide +kernel
theorem dX2_readPart_31 : decode cX2_readPart 31 = .ok (.if_icmp .ne 24, 3) := by decide +kernel
theorem dX2_readPart_34 : decode cX2_readPart 34 = .ok (.aload_n 0, 1) := by decide +kernel
theorem dX2_readPart_35 : decode cX2_readPart 35 = .ok (.iconst 3, 1) := by decide +kernel
theorem dX2_readPart_36 : decode cX2_readPart 36 = .ok (.aload_n 0, 1) := by decide +kernel
theorem dX2_readPart_37 : decode cX2_readPart 37 = .ok (.bipush 45, 2) := by decide +kernel
theorem dX2_readPart_39 : decode cX2_readPart 39 = .ok (.invokevirtual 36, 3) := by decide +kernel
theorem dX2_readPart_42 : decode cX2_readPart 42 = .ok (.ifCond .eq 7, 3) := by decide +kernel
theorem dX2_readPart_45 : decode cX2_readPart 45 = .ok (.iconst (-1), 1) := by decide +kernel
theorem dX2_readPart_46 : decode cX2_readPart 46 = .ok (.goto 4, 3) := by decide +kernel
theorem dX2_readPart_49 : decode cX2_readPart 49 = .ok (.iconst 1, 1) := by decide +kernel
theorem dX2_readPart_50 : decode cX2_readPart 50 = .ok (.aload_n 2, 1) := by decide +kernel
theorem dX2_readPart_51 : decode cX2_readPart 51 = .ok (.invokevirtual 78, 3) := by decide +kernel
theorem dX2_readPart_54 : decode cX2_readPart 54 = .ok (.ireturn, 1) := by decide +kernel
theorem dX2_readPart_55 : decode cX2_readPart 55 = .ok (.aload_n 0, 1) := by decide +kernel
theorem dX2_readPart_56 : decode cX2_readPart 56 = .ok (.iload_n 1, 1) := by decide +kernel
theorem dX2_readPart_57 : decode cX2_readPart 57 = .ok (.invokevirtual 36, 3) := by decide +kernel
theorem dX2_readPart_60 : decode cX2_readPart 60 = .ok (.ireturn, 1) := by decide +kernel
theorem dX2_readNumber_0 : decode cX2_readNumber 0 = .ok (.iconst 0, 1) := by decide +kernel
theorem dX2_readNumber_1 : decode cX2_readNumber 1 = .ok (.istore 4, 2) := by decide +kernel
theorem dX2_readNumber_3 : decode cX2_readNumber 3 = .ok (.iconst 0, 1) := by decide +kernel
theorem dX2_readNumber_4 : decode cX2_readNumber 4 = .ok (.istore 5, 2) := by decide +kernel
theorem dX2_readNumber_6 : decode cX2_readNumber 6 = .ok (.iload 5, 2) := by decide +kernel
theorem dX2_readNumber_8 : decode cX2_readNumber 8 = .ok (.iload_n 1, 1) := by decide +kernel
theorem dX2_readNumber_9 : decode cX2_readNumber 9 = .ok (.if_icmp .ge 46, 3) := by decide +kernel
theorem dX2_readNumber_12 : decode cX2_readNumber 12 = .ok (.aload_n 0, 1) := by decide +kernel
theorem dX2_readNumber_13 : decode cX2_readNumber 13 = .ok (.invokevirtual 82, 3) := by decide +kernel
theorem dX2_readNumber_16 : decode cX2_readNumber 16 = .ok (.ifCond .eq 39, 3) := by decide +kernel
theorem dX2_readNumber_19 : decode cX2_readNumber 19 = .ok (.iload 4, 2) := by decide +kernel
theorem dX2_readNumber_21 : decode cX2_readNumber 21 = .ok (.bipush 10, 2) := by decide +kernel
theorem dX2_readNumber_23 : decode cX2_readNumber 23 = .ok (.imul, 1) := by decide +kernel
theorem dX2_readNumber_24 : decode cX2_readNumber 24 = .ok (.aload_n 0, 1) := by decide +kernel
theorem dX2_readNumber_25 : decode cX2_readNumber 25 = .ok (.getfield 9, 3) := by decide +kernel
theorem dX2_readNumber_28 : decode cX2_readNumber 28 = .ok (.aload_n 0, 1) := by decide +kernel
theorem dX2_readNumber_29 : decode cX2_readNumber 29 = .ok (.getfield 19, 3) := by decide +kernel
theorem dX2_readNumber_32 : decode cX2_readNumber 32 = .ok (.caload, 1) := by decide +kernel
theorem dX2_readNumber_33 : decode cX2_readNumber 33 = .ok (.bipush 48, 2) := by decide +kernel
theorem dX2_readNumber_35 : decode cX2_readNumber 35 = .ok (.isub, 1) := by decide +kernel
theorem dX2_readNumber_36 : decode cX2_readNumber 36 = .ok (.iadd, 1) := by decide +kernel
theorem dX2_readNumber_37 : decode cX2_readNumber 37 = .ok (.istore 4, 2) := by decide +kernel
theorem dX2_readNumber_39 : decode cX2_readNumber 39 = .ok (.aload_n 0, 1) := by decide +kernel
theorem dX2_readNumber_40 : decode cX2_readNumber 40 = .ok (.dup, 1) := by decide +kernel
theorem dX2_readNumber_41 : decode cX2_readNumber 41 = .ok (.getfield 19, 3) := by decide +kernel
theorem dX2_readNumber_44 : decode cX2_readNumber 44 = .ok (.iconst 1, 1) := by decide +kernel
theorem dX2_readNumber_45 : decode cX2_readNumber 45 = .ok (.iadd, 1) := by decide +kernel
theorem dX2_readNumber_46 : decode cX2_readNumber 46 = .ok (.putfield 19, 3) := by decide +kernel
theorem dX2_readNumber_49 : decode cX2_readNumber 49 = .ok (.iinc 5 1, 3) := by decide +kernel
theorem dX2_readNumber_52 : decode cX2_readNumber 52 = .ok (.goto (-46), 3) := by decide +kernel
theorem dX2_readNumber_55 : decode cX2_readNumber 55 = .ok (.aload_n 3, 1) := by decide +kernel
theorem dX2_readNumber_56 : decode cX2_readNumber 56 = .ok (.iload_n 2, 1) := by decide +kernel
theorem dX2_readNumber_57 : decode cX2_readNumber 57 = .ok (.iload 4, 2) := by decide +kernel
theorem dX2_readNumber_59 : decode cX2_readNumber 59 = .ok (.imul, 1) := by decide +kernel
theorem dX2_readNumber_60 : decode cX2_readNumber 60 = .ok (.invokevirtual 85, 3) := by decide +kernel
theorem dX2_readNumber_63 : decode cX2_readNumber 63 = .ok (.iload 5, 2) := by decide +kernel
theorem dX2_readNumber_65 : decode cX2_readNumber 65 = .ok (.ifCond .le 7, 3) := by decide +kernel
theorem dX2_readNumber_68 : decode cX2_readNumber 68 = .ok (.iconst 1, 1) := by decide +kernel
theorem dX2_readNumber_69 : decode cX2_readNumber 69 = .ok (.goto 4, 3) := by decide +kernel
theorem dX2_readNumber_72 : decode cX2_readNumber 72 = .ok (.iconst 0, 1) := by decide +kernel
theorem dX2_readNumber_73 : decode cX2_readNumber 73 = .ok (.ireturn, 1) := by decide +kernel
theorem dX2_digitStands_0 : decode cX2_digitStands 0 = .ok (.aload_n 0, 1) := by decide +kernel
theorem dX2_digitStands_1 : decode cX2_digitStands 1 = .ok (.getfield 19, 3) := by decide +kernel
theorem dX2_digitStands_4 : decode cX2_digitStands 4 = .ok (.aload_n 0, 1) := by decide +kernel
theorem dX2_digitStands_5 : decode cX2_digitStands 5 = .ok (.getfield 15, 3) := by decide +kernel
theorem dX2_digitStands_8 : decode cX2_digitStands 8 = .ok (.if_icmp .ge 35, 3) := by decide +kernel
theorem dX2_digitStands_11 : decode cX2_digitStands 11 = .ok (.aload_n 0, 1) := by decide +kernel
theorem dX2_digitStands_12 : decode cX2_digitStands 12 = .ok (.getfield 9, 3) := by decide +kernel
theorem dX2_digitStands_15 : decode cX2_digitStands 15 = .ok (.aload_n 0, 1) := by decide +kernel
theorem dX2_digitStands_16 : decode cX2_digitStands 16 = .ok (.getfield 19, 3) := by decide +kernel
theorem dX2_digitStands_19 : decode cX2_digitStands 19 = .ok (.caload, 1) := by decide +kernel
theorem dX2_digitStands_20 : decode cX2_digitStands 20 = .ok (.bipush 48, 2) := by decide +kernel
theorem dX2_digitStands_22 : decode cX2_digitStands 22 = .ok (.if_icmp .lt 21, 3) := by decide +kernel
theorem dX2_digitStands_25 : decode cX2_digitStands 25 = .ok (.aload_n 0, 1) := by decide +kernel
theorem dX2_digitStands_26 : decode cX2_digitStands 26 = .ok (.getfield 9, 3) := by decide +kernel
theorem dX2_digitStands_29 : decode cX2_digitStands 29 = .ok (.aload_n 0, 1) := by decide +kernel
theorem dX2_digitStands_30 : decode cX2_digitStands 30 = .ok (.getfield 19, 3) := by decide +kernel
theorem dX2_digitStands_33 : decode cX2_digitStands 33 = .ok (.caload, 1) := by decide +kernel
theorem dX2_digitStands_34 : decode cX2_digitStands 34 = .ok (.bipush 57, 2) := by decide +kernel
theorem dX2_digitStands_36 : decode cX2_digitStands 36 = .ok (.if_icmp .gt 7, 3) := by decide +kernel
theorem dX2_digitStands_39 : decode cX2_digitStands 39 = .ok (.iconst 1, 1) := by decide +kernel
theorem dX2_digitStands_40 : decode cX2_digitStands 40 = .ok (.goto 4, 3) := by decide +kernel
theorem dX2_digitStands_43 : decode cX2_digitStands 43 = .ok (.iconst 0, 1) := by decide +kernel
theorem dX2_digitStands_44 : decode cX2_digitStands 44 = .ok (.ireturn, 1) := by decide +kernel
theorem dX2_readSign_0 : decode cX2_readSign 0 = .ok (.aload_n 0, 1) := by decide +kernel
theorem dX2_readSign_1 : decode cX2_readSign 1 = .ok (.iload_n 1, 1) := by decide +kernel
theorem dX2_readSign_2 : decode cX2_readSign 2 = .ok (.invokevirtual 60, 3) := by decide +kernel
theorem dX2_readSign_5 : decode cX2_readSign 5 = .ok (.ifCond .ne 5, 3) := by decide +kernel
theorem dX2_readSign_8 : decode cX2_readSign 8 = .ok (.iconst 0, 1) := by decide +kernel
theorem dX2_readSign_9 : decode cX2_readSign 9 = .ok (.ireturn, 1) := by decide +kernel
theorem dX2_readSign_10 : decode cX2_readSign 10 = .ok (.aload_n 0, 1) := by decide +kernel
theorem dX2_readSign_11 : decode cX2_readSign 11 = .ok (.dup, 1) := by decide +kernel
theorem dX2_readSign_12 : decode cX2_readSign 12 = .ok (.getfield 19, 3) := by decide +kernel
theorem dX2_readSign_15 : decode cX2_readSign 15 = .ok (.iconst 1, 1) := by decide +kernel
theorem dX2_readSign_16 : decode cX2_readSign 16 = .ok (.iadd, 1) := by decide +kernel
theorem dX2_readSign_17 : decode cX2_readSign 17 = .ok (.putfield 19, 3) := by decide +kernel
theorem dX2_readSign_20 : decode cX2_readSign 20 = .ok (.iconst 1, 1) := by decide +kernel
theorem dX2_readSign_21 : decode cX2_readSign 21 = .ok (.ireturn, 1) := by decide +kernel
theorem dX2_stands_0 : decode cX2_stands 0 = .ok (.aload_n 0, 1) := by decide +kernel
theorem dX2_stands_1 : decode cX2_stands 1 = .ok (.getfield 19, 3) := by decide +kernel
theorem dX2_stands_4 : decode cX2_stands 4 = .ok (.aload_n 0, 1) := by decide +kernel
theorem dX2_stands_5 : decode cX2_stands 5 = .ok (.getfield 15, 3) := by decide +kernel
theorem dX2_stands_8 : decode cX2_stands 8 = .ok (.if_icmp .ge 20, 3) := by decide +kernel
theorem dX2_stands_11 : decode cX2_stands 11 = .ok (.aload_n 0, 1) := by decide +kernel
theorem dX2_stands_12 : decode cX2_stands 12 = .ok (.getfield 9, 3) := by decide +kernel
theorem dX2_stands_15 : decode cX2_stands 15 = .ok (.aload_n 0, 1) := by decide +kernel
theorem dX2_stands_16 : decode cX2_stands 16 = .ok (.getfield 19, 3) := by decide +kernel
theorem dX2_stands_19 : decode cX2_stands 19 = .ok (.caload, 1) := by decide +kernel
theorem dX2_stands_20 : decode cX2_stands 20 = .ok (.iload_n 1, 1) := by decide +kernel
theorem dX2_stands_21 : decode cX2_stands 21 = .ok (.if_icmp .ne 7, 3) := by decide +kernel
theorem dX2_stands_24 : decode cX2_stands 24 = .ok (.iconst 1, 1) := by decide +kernel
theorem dX2_stands_25 : decode cX2_stands 25 = .ok (.goto 4, 3) := by decide +kernel
theorem dX2_stands_28 : decode cX2_stands 28 = .ok (.iconst 0, 1) := by decide +kernel
theorem dX2_stands_29 : decode cX2_stands 29 = .ok (.ireturn, 1) := by decide +kernel
theorem dX3_init_0 : decode cX3_init 0 = .ok (.aload_n 0, 1) := by decide +kernel
theorem dX3_init_1 : decode cX3_init 1 = .ok (.invokespecial 3, 3) := by decide +kernel
theorem dX3_init_4 : decode cX3_init 4 = .ok (.aload_n 0, 1) := by decide +kernel
theorem dX3_init_5 : decode cX3_init 5 = .ok (.bipush 8, 2) := by decide +kernel
theorem dX3_init_7 : decode cX3_init 7 = .ok (.anewarray 9, 3) := by decide +kernel
theorem dX3_init_10 : decode cX3_init 10 = .ok (.putfield 11, 3) := by decide +kernel
theorem dX3_init_13 : decode cX3_init 13 = .ok (.aload_n 0, 1) := by decide +kernel
theorem dX3_init_14 : decode cX3_init 14 = .ok (.iconst 0, 1) := by decide +kernel
theorem dX3_init_15 : decode cX3_init 15 = .ok (.putfield 17, 3) := by decide +kernel
theorem dX3_init_18 : decode cX3_init 18 = .ok (.aload_n 0, 1) := by decide +kernel
theorem dX3_init_19 : decode cX3_init 19 = .ok (.iconst 0, 1) := by decide +kernel
theorem dX3_init_20 : decode cX3_init 20 = .ok (.putfield 21, 3) := by decide +kernel
theorem dX3_init_23 : decode cX3_init 23 = .ok (.iconst 0, 1) := by decide +kernel
theorem dX3_init_24 : decode cX3_init 24 = .ok (.istore_n 1, 1) := by decide +kernel
theorem dX3_init_25 : decode cX3_init 25 = .ok (.iload_n 1, 1) := by decide +kernel
theorem dX3_init_26 : decode cX3_init 26 = .ok (.bipush 8, 2) := by decide +kernel
theorem dX3_init_28 : decode cX3_init 28 = .ok (.if_icmp .ge 22, 3) := by decide +kernel
theorem dX3_init_31 : decode cX3_init 31 = .ok (.aload_n 0, 1) := by decide +kernel
theorem dX3_init_32 : decode cX3_init 32 = .ok (.getfield 11, 3) := by decide +kernel
theorem dX3_init_35 : decode cX3_init 35 = .ok (.iload_n 1, 1) := by decide +kernel
theorem dX3_init_36 : decode cX3_init 36 = .ok (.new 9, 3) := by decide +kernel
theorem dX3_init_39 : decode cX3_init 39 = .ok (.dup, 1) := by decide +kernel
theorem dX3_init_40 : decode cX3_init 40 = .ok (.invokespecial 24, 3) := by decide +kernel
theorem dX3_init_43 : decode cX3_init 43 = .ok (.aastore, 1) := by decide +kernel
theorem dX3_init_44 : decode cX3_init 44 = .ok (.iinc 1 1, 3) := by decide +kernel
theorem dX3_init_47 : decode cX3_init 47 = .ok (.goto (-22), 3) := by decide +kernel
theorem dX3_init_50 : decode cX3_init 50 = .ok (.return_, 1) := by decide +kernel
theorem dX3_remember_0 : decode cX3_remember 0 = .ok (.aload_n 0, 1) := by decide +kernel
theorem dX3_remember_1 : decode cX3_remember 1 = .ok (.getfield 11, 3) := by decide +kernel
theorem dX3_remember_4 : decode cX3_remember 4 = .ok (.aload_n 0, 1) := by decide +kernel
theorem dX3_remember_5 : decode cX3_remember 5 = .ok (.getfield 21, 3) := by decide +kernel
theorem dX3_remember_8 : decode cX3_remember 8 = .ok (.aaload, 1) := by decide +kernel
theorem dX3_remember_9 : decode cX3_remember 9 = .ok (.aload_n 1, 1) := by decide +kernel
theorem dX3_remember_10 : decode cX3_remember 10 = .ok (.invokevirtual 25, 3) := by decide +kernel
theorem dX3_remember_13 : decode cX3_remember 13 = .ok (.aload_n 0, 1) := by decide +kernel
theorem dX3_remember_14 : decode cX3_remember 14 = .ok (.aload_n 0, 1) := by decide +kernel
theorem dX3_remember_15 : decode cX3_remember 15 = .ok (.getfield 21, 3) := by decide +kernel
theorem dX3_remember_18 : decode cX3_remember 18 = .ok (.iconst 1, 1) := by decide +kernel
theorem dX3_remember_19 : decode cX3_remember 19 = .ok (.iadd, 1) := by decide +kernel
theorem dX3_remember_20 : decode cX3_remember 20 = .ok (.bipush 8, 2) := by decide +kernel
theorem dX3_remember_22 : decode cX3_remember 22 = .ok (.irem, 1) := by decide +kernel
theorem dX3_remember_23 : decode cX3_remember 23 = .ok (.putfield 21, 3) := by decide +kernel
theorem dX3_remember_26 : decode cX3_remember 26 = .ok (.aload_n 0, 1) := by decide +kernel
theorem dX3_remember_27 : decode cX3_remember 27 = .ok (.aload_n 0, 1) := by decide +kernel
theorem dX3_remember_28 : decode cX3_remember 28 = .ok (.getfield 17, 3) := by decide +kernel
theorem dX3_remember_31 : decode cX3_remember 31 = .ok (.iconst 1, 1) := by decide +kernel
theorem dX3_remember_32 : decode cX3_remember 32 = .ok (.iadd, 1) := by decide +kernel
theorem dX3_remember_33 : decode cX3_remember 33 = .ok (.bipush 8, 2) := by decide +kernel
theorem dX3_remember_35 : decode cX3_remember 35 = .ok (.invokestatic 29, 3) := by decide +kernel
theorem dX3_remember_38 : decode cX3_remember 38 = .ok (.putfield 17, 3) := by decide +kernel
theorem dX3_remember_41 : decode cX3_remember 41 = .ok (.return_, 1) := by decide +kernel
theorem dX3_forget_0 : decode cX3_forget 0 = .ok (.aload_n 0, 1) := by decide +kernel
theorem dX3_forget_1 : decode cX3_forget 1 = .ok (.iconst 0, 1) := by decide +kernel
theorem dX3_forget_2 : decode cX3_forget 2 = .ok (.putfield 17, 3) := by decide +kernel
theorem dX3_forget_5 : decode cX3_forget 5 = .ok (.return_, 1) := by decide +kernel
theorem dX5_init_0 : decode cX5_init 0 = .ok (.aload_n 0, 1) := by decide +kernel
theorem dX5_init_1 : decode cX5_init 1 = .ok (.invokespecial 3, 3) := by decide +kernel
theorem dX5_init_4 : decode cX5_init 4 = .ok (.aload_n 0, 1) := by decide +kernel
theorem dX5_init_5 : decode cX5_init 5 = .ok (.bipush 8, 2) := by decide +kernel
theorem dX5_init_7 : decode cX5_init 7 = .ok (.newarray .int, 2) := by decide +kernel
theorem dX5_init_9 : decode cX5_init 9 = .ok (.putfield 9, 3) := by decide +kernel
theorem dX5_init_12 : decode cX5_init 12 = .ok (.aload_n 0, 1) := by decide +kernel
theorem dX5_init_13 : decode cX5_init 13 = .ok (.bipush 8, 2) := by decide +kernel
theorem dX5_init_15 : decode cX5_init 15 = .ok (.newarray .int, 2) := by decide +kernel
theorem dX5_init_17 : decode cX5_init 17 = .ok (.putfield 15, 3) := by decide +kernel
theorem dX5_init_20 : decode cX5_init 20 = .ok (.aload_n 0, 1) := by decide +kernel
theorem dX5_init_21 : decode cX5_init 21 = .ok (.bipush 8, 2) := by decide +kernel
theorem dX5_init_23 : decode cX5_init 23 = .ok (.newarray .int, 2) := by decide +kernel
theorem dX5_init_25 : decode cX5_init 25 = .ok (.putfield 18, 3) := by decide +kernel
theorem dX5_init_28 : decode cX5_init 28 = .ok (.aload_n 0, 1) := by decide +kernel
theorem dX5_init_29 : decode cX5_init 29 = .ok (.iconst 0, 1) := by decide +kernel
theorem dX5_init_30 : decode cX5_init 30 = .ok (.putfield 21, 3) := by decide +kernel
theorem dX5_init_33 : decode cX5_init 33 = .ok (.aload_n 0, 1) := by decide +kernel
theorem dX5_init_34 : decode cX5_init 34 = .ok (.bipush 20, 2) := by decide +kernel
theorem dX5_init_36 : decode cX5_init 36 = .ok (.putfield 25, 3) := by decide +kernel
theorem dX5_init_39 : decode cX5_init 39 = .ok (.aload_n 0, 1) := by decide +kernel
theorem dX5_init_40 : decode cX5_init 40 = .ok (.iconst 0, 1) := by decide +kernel
theorem dX5_init_41 : decode cX5_init 41 = .ok (.putfield 28, 3) := by decide +kernel
theorem dX5_init_44 : decode cX5_init 44 = .ok (.return_, 1) := by decide +kernel
theorem dX5_begin_0 : decode cX5_begin 0 = .ok (.aload_n 0, 1) := by decide +kernel
theorem dX5_begin_1 : decode cX5_begin 1 = .ok (.iload_n 1, 1) := by decide +kernel
theorem dX5_begin_2 : decode cX5_begin 2 = .ok (.putfield 25, 3) := by decide +kernel
theorem dX5_begin_5 : decode cX5_begin 5 = .ok (.aload_n 0, 1) := by decide +kernel
theorem dX5_begin_6 : decode cX5_begin 6 = .ok (.iconst 0, 1) := by decide +kernel
theorem dX5_begin_7 : decode cX5_begin 7 = .ok (.putfield 21, 3) := by decide +kernel
theorem dX5_begin_10 : decode cX5_begin 10 = .ok (.aload_n 0, 1) := by decide +kernel
theorem dX5_begin_11 : decode cX5_begin 11 = .ok (.iconst 0, 1) := by decide +kernel
theorem dX5_begin_12 : decode cX5_begin 12 = .ok (.putfield 28, 3) := by decide +kernel
theorem dX5_begin_15 : decode cX5_begin 15 = .ok (.return_, 1) := by decide +kernel
theorem dX5_copyFrom_0 : decode cX5_copyFrom 0 = .ok (.aload_n 1, 1) := by decide +kernel
theorem dX5_copyFrom_1 : decode cX5_copyFrom 1 = .ok (.getfield 9, 3) := by decide +kernel
theorem dX5_copyFrom_4 : decode cX5_copyFrom 4 = .ok (.iconst 0, 1) := by decide +kernel
theorem dX5_copyFrom_5 : decode cX5_copyFrom 5 = .ok (.aload_n 0, 1) := by decide +kernel
theorem dX5_copyFrom_6 : decode cX5_copyFrom 6 = .ok (.getfield 9, 3) := by decide +kernel
theorem dX5_copyFrom_9 : decode cX5_copyFrom 9 = .ok (.iconst 0, 1) := by decide +kernel
theorem dX5_copyFrom_10 : decode cX5_copyFrom 10 = .ok (.bipush 8, 2) := by decide +kernel
theorem dX5_copyFrom_12 : decode cX5_copyFrom 12 = .ok (.invokestatic 31, 3) := by decide +kernel
theorem dX5_copyFrom_15 : decode cX5_copyFrom 15 = .ok (.aload_n 1, 1) := by decide +kernel
theorem dX5_copyFrom_16 : decode cX5_copyFrom 16 = .ok (.getfield 15, 3) := by decide +kernel
theorem dX5_copyFrom_19 : decode cX5_copyFrom 19 = .ok (.iconst 0, 1) := by decide +kernel
theorem dX5_copyFrom_20 : decode cX5_copyFrom 20 = .ok (.aload_n 0, 1) := by decide +kernel
theorem dX5_copyFrom_21 : decode cX5_copyFrom 21 = .ok (.getfield 15, 3) := by decide +kernel
theorem dX5_copyFrom_24 : decode cX5_copyFrom 24 = .ok (.iconst 0, 1) := by decide +kernel
theorem dX5_copyFrom_25 : decode cX5_copyFrom 25 = .ok (.bipush 8, 2) := by decide +kernel
theorem dX5_copyFrom_27 : decode cX5_copyFrom 27 = .ok (.invokestatic 31, 3) := by decide +kernel
theorem dX5_copyFrom_30 : decode cX5_copyFrom 30 = .ok (.aload_n 1, 1) := by decide +kernel
theorem dX5_copyFrom_31 : decode cX5_copyFrom 31 = .ok (.getfield 18, 3) := by decide +kernel
theorem dX5_copyFrom_34 : decode cX5_copyFrom 34 = .ok (.iconst 0, 1) := by decide +kernel
theorem dX5_copyFrom_35 : decode cX5_copyFrom 35 = .ok (.aload_n 0, 1) := by decide +kernel
theorem dX5_copyFrom_36 : decode cX5_copyFrom 36 = .ok (.getfield 18, 3) := by decide +kernel
theorem dX5_copyFrom_39 : decode cX5_copyFrom 39 = .ok (.iconst 0, 1) := by decide +kernel
theorem dX5_copyFrom_40 : decode cX5_copyFrom 40 = .ok (.bipush 8, 2) := by decide +kernel
theorem dX5_copyFrom_42 : decode cX5_copyFrom 42 = .ok (.invokestatic 31, 3) := by decide +kernel
theorem dX5_copyFrom_45 : decode cX5_copyFrom 45 = .ok (.aload_n 0, 1) := by decide +kernel
theorem dX5_copyFrom_46 : decode cX5_copyFrom 46 = .ok (.aload_n 1, 1) := by decide +kernel
theorem dX5_copyFrom_47 : decode cX5_copyFrom 47 = .ok (.getfield 21, 3) := by decide +kernel
theorem dX5_copyFrom_50 : decode cX5_copyFrom 50 = .ok (.putfield 21, 3) := by decide +kernel
theorem dX5_copyFrom_53 : decode cX5_copyFrom 53 = .ok (.aload_n 0, 1) := by decide +kernel
theorem dX5_copyFrom_54 : decode cX5_copyFrom 54 = .ok (.aload_n 1, 1) := by decide +kernel
theorem dX5_copyFrom_55 : decode cX5_copyFrom 55 = .ok (.getfield 25, 3) := by decide +kernel
theorem dX5_copyFrom_58 : decode cX5_copyFrom 58 = .ok (.putfield 25, 3) := by decide +kernel
theorem dX5_copyFrom_61 : decode cX5_copyFrom 61 = .ok (.aload_n 0, 1) := by decide +kernel
theorem dX5_copyFrom_62 : decode cX5_copyFrom 62 = .ok (.aload_n 1, 1) := by decide +kernel
theorem dX5_copyFrom_63 : decode cX5_copyFrom 63 = .ok (.getfield 28, 3) := by decide +kernel
theorem dX5_copyFrom_66 : decode cX5_copyFrom 66 = .ok (.putfield 28, 3) := by decide +kernel
theorem dX5_copyFrom_69 : decode cX5_copyFrom 69 = .ok (.return_, 1) := by decide +kernel
theorem dX5_hasLayer_0 : decode cX5_hasLayer 0 = .ok (.iload_n 1, 1) := by decide +kernel
theorem dX5_hasLayer_1 : decode cX5_hasLayer 1 = .ok (.ifCond .lt 15, 3) := by decide +kernel
theorem dX5_hasLayer_4 : decode cX5_hasLayer 4 = .ok (.iload_n 1, 1) := by decide +kernel
theorem dX5_hasLayer_5 : decode cX5_hasLayer 5 = .ok (.aload_n 0, 1) := by decide +kernel
theorem dX5_hasLayer_6 : decode cX5_hasLayer 6 = .ok (.getfield 21, 3) := by decide +kernel
theorem dX5_hasLayer_9 : decode cX5_hasLayer 9 = .ok (.if_icmp .ge 7, 3) := by decide +kernel
theorem dX5_hasLayer_12 : decode cX5_hasLayer 12 = .ok (.iconst 1, 1) := by decide +kernel
theorem dX5_hasLayer_13 : decode cX5_hasLayer 13 = .ok (.goto 4, 3) := by decide +kernel
theorem dX5_hasLayer_16 : decode cX5_hasLayer 16 = .ok (.iconst 0, 1) := by decide +kernel
theorem dX5_hasLayer_17 : decode cX5_hasLayer 17 = .ok (.ireturn, 1) := by decide +kernel
theorem dX5_addLayer_0 : decode cX5_addLayer 0 = .ok (.aload_n 0, 1) := by decide +kernel
theorem dX5_addLayer_1 : decode cX5_addLayer 1 = .ok (.getfield 9, 3) := by decide +kernel
theorem dX5_addLayer_4 : decode cX5_addLayer 4 = .ok (.aload_n 0, 1) := by decide +kernel
theorem dX5_addLayer_5 : decode cX5_addLayer 5 = .ok (.getfield 21, 3) := by decide +kernel
theorem dX5_addLayer_8 : decode cX5_addLayer 8 = .ok (.iload_n 1, 1) := by decide +kernel
theorem dX5_addLayer_9 : decode cX5_addLayer 9 = .ok (.iastore, 1) := by decide +kernel
theorem dX5_addLayer_10 : decode cX5_addLayer 10 = .ok (.aload_n 0, 1) := by decide +kernel
theorem dX5_addLayer_11 : decode cX5_addLayer 11 = .ok (.getfield 15, 3) := by decide +kernel
theorem dX5_addLayer_14 : decode cX5_addLayer 14 = .ok (.aload_n 0, 1) := by decide +kernel
theorem dX5_addLayer_15 : decode cX5_addLayer 15 = .ok (.getfield 21, 3) := by decide +kernel
theorem dX5_addLayer_18 : decode cX5_addLayer 18 = .ok (.iload_n 2, 1) := by decide +kernel
theorem dX5_addLayer_19 : decode cX5_addLayer 19 = .ok (.iastore, 1) := by decide +kernel
theorem dX5_addLayer_20 : decode cX5_addLayer 20 = .ok (.aload_n 0, 1) := by decide +kernel
theorem dX5_addLayer_21 : decode cX5_addLayer 21 = .ok (.getfield 18, 3) := by decide +kernel
theorem dX5_addLayer_24 : decode cX5_addLayer 24 = .ok (.aload_n 0, 1) := by decide +kernel
theorem dX5_addLayer_25 : decode cX5_addLayer 25 = .ok (.getfield 21, 3) := by decide +kernel
theorem dX5_addLayer_28 : decode cX5_addLayer 28 = .ok (.iconst 0, 1) := by decide +kernel
theorem dX5_addLayer_29 : decode cX5_addLayer 29 = .ok (.iastore, 1) := by decide +kernel
theorem dX5_addLayer_30 : decode cX5_addLayer 30 = .ok (.aload_n 0, 1) := by decide +kernel
theorem dX5_addLayer_31 : decode cX5_addLayer 31 = .ok (.dup, 1) := by decide +kernel
theorem dX5_addLayer_32 : decode cX5_addLayer 32 = .ok (.getfield 21, 3) := by decide +kernel
theorem dX5_addLayer_35 : decode cX5_addLayer 35 = .ok (.iconst 1, 1) := by decide +kernel
theorem dX5_addLayer_36 : decode cX5_addLayer 36 = .ok (.iadd, 1) := by decide +kernel
theorem dX5_addLayer_37 : decode cX5_addLayer 37 = .ok (.putfield 21, 3) := by decide +kernel
theorem dX5_addLayer_40 : decode cX5_addLayer 40 = .ok (.aload_n 0, 1) := by decide +kernel
theorem dX5_addLayer_41 : decode cX5_addLayer 41 = .ok (.getfield 21, 3) := by decide +kernel
theorem dX5_addLayer_44 : decode cX5_addLayer 44 = .ok (.ireturn, 1) := by decide +kernel
theorem dX5_iceByLayers_0 : decode cX5_iceByLayers 0 = .ok (.aload_n 0, 1) := by decide +kernel
theorem dX5_iceByLayers_1 : decode cX5_iceByLayers 1 = .ok (.aload_n 0, 1) := by decide +kernel
theorem dX5_iceByLayers_2 : decode cX5_iceByLayers 2 = .ok (.getfield 9, 3) := by decide +kernel
theorem dX5_iceByLayers_5 : decode cX5_iceByLayers 5 = .ok (.invokevirtual 37, 3) := by decide +kernel
theorem dX5_iceByLayers_8 : decode cX5_iceByLayers 8 = .ok (.ireturn, 1) := by decide +kernel
theorem dX5_iceByHalves_0 : decode cX5_iceByHalves 0 = .ok (.aload_n 0, 1) := by decide +kernel
theorem dX5_iceByHalves_1 : decode cX5_iceByHalves 1 = .ok (.getfield 9, 3) := by decide +kernel
theorem dX5_iceByHalves_4 : decode cX5_iceByHalves 4 = .ok (.iconst 0, 1) := by decide +kernel
theorem dX5_iceByHalves_5 : decode cX5_iceByHalves 5 = .ok (.aload_n 0, 1) := by decide +kernel
theorem dX5_iceByHalves_6 : decode cX5_iceByHalves 6 = .ok (.getfield 21, 3) := by decide +kernel
theorem dX5_iceByHalves_9 : decode cX5_iceByHalves 9 = .ok (.iconst 0, 1) := by decide +kernel
theorem dX5_iceByHalves_10 : decode cX5_iceByHalves 10 = .ok (.invokestatic 41, 3) := by decide +kernel
theorem dX5_iceByHalves_13 : decode cX5_iceByHalves 13 = .ok (.ireturn, 1) := by decide +kernel
theorem dX5_sumOfHalves_0 : decode cX5_sumOfHalves 0 = .ok (.iload_n 1, 1) := by decide +kernel
theorem dX5_sumOfHalves_1 : decode cX5_sumOfHalves 1 = .ok (.ifCond .lt 20, 3) := by decide +kernel
theorem dX5_sumOfHalves_4 : decode cX5_sumOfHalves 4 = .ok (.iload_n 1, 1) := by decide +kernel
theorem dX5_sumOfHalves_5 : decode cX5_sumOfHalves 5 = .ok (.iload_n 2, 1) := by decide +kernel
theorem dX5_sumOfHalves_6 : decode cX5_sumOfHalves 6 = .ok (.if_icmp .ge 15, 3) := by decide +kernel
theorem dX5_sumOfHalves_9 : decode cX5_sumOfHalves 9 = .ok (.iload_n 2, 1) := by decide +kernel
theorem dX5_sumOfHalves_10 : decode cX5_sumOfHalves 10 = .ok (.aload_n 0, 1) := by decide +kernel
theorem dX5_sumOfHalves_11 : decode cX5_sumOfHalves 11 = .ok (.arraylength, 1) := by decide +kernel
theorem dX5_sumOfHalves_12 : decode cX5_sumOfHalves 12 = .ok (.if_icmp .gt 9, 3) := by decide +kernel
theorem dX5_sumOfHalves_15 : decode cX5_sumOfHalves 15 = .ok (.iload_n 3, 1) := by decide +kernel
theorem dX5_sumOfHalves_16 : decode cX5_sumOfHalves 16 = .ok (.bipush 8, 2) := by decide +kernel
theorem dX5_sumOfHalves_18 : decode cX5_sumOfHalves 18 = .ok (.if_icmp .le 5, 3) := by decide +kernel
theorem dX5_sumOfHalves_21 : decode cX5_sumOfHalves 21 = .ok (.iconst 0, 1) := by decide +kernel
theorem dX5_sumOfHalves_22 : decode cX5_sumOfHalves 22 = .ok (.ireturn, 1) := by decide +kernel
theorem dX5_sumOfHalves_23 : decode cX5_sumOfHalves 23 = .ok (.iload_n 2, 1) := by decide +kernel
theorem dX5_sumOfHalves_24 : decode cX5_sumOfHalves 24 = .ok (.iload_n 1, 1) := by decide +kernel
theorem dX5_sumOfHalves_25 : decode cX5_sumOfHalves 25 = .ok (.isub, 1) := by decide +kernel
theorem dX5_sumOfHalves_26 : decode cX5_sumOfHalves 26 = .ok (.iconst 1, 1) := by decide +kernel
theorem dX5_sumOfHalves_27 : decode cX5_sumOfHalves 27 = .ok (.if_icmp .ne 7, 3) := by decide +kernel
theorem dX5_sumOfHalves_30 : decode cX5_sumOfHalves 30 = .ok (.aload_n 0, 1) := by decide +kernel
theorem dX5_sumOfHalves_31 : decode cX5_sumOfHalves 31 = .ok (.iload_n 1, 1) := by decide +kernel
theorem dX5_sumOfHalves_32 : decode cX5_sumOfHalves 32 = .ok (.iaload, 1) := by decide +kernel
theorem dX5_sumOfHalves_33 : decode cX5_sumOfHalves 33 = .ok (.ireturn, 1) := by decide +kernel
theorem dX5_sumOfHalves_34 : decode cX5_sumOfHalves 34 = .ok (.iload_n 1, 1) := by decide +kernel
theorem dX5_sumOfHalves_35 : decode cX5_sumOfHalves 35 = .ok (.iload_n 2, 1) := by decide +kernel
theorem dX5_sumOfHalves_36 : decode cX5_sumOfHalves 36 = .ok (.iload_n 1, 1) := by decide +kernel
theorem dX5_sumOfHalves_37 : decode cX5_sumOfHalves 37 = .ok (.isub, 1) := by decide +kernel
theorem dX5_sumOfHalves_38 : decode cX5_sumOfHalves 38 = .ok (.iconst 2, 1) := by decide +kernel
theorem dX5_sumOfHalves_39 : decode cX5_sumOfHalves 39 = .ok (.idiv, 1) := by decide +kernel
theorem dX5_sumOfHalves_40 : decode cX5_sumOfHalves 40 = .ok (.iadd, 1) := by decide +kernel
theorem dX5_sumOfHalves_41 : decode cX5_sumOfHalves 41 = .ok (.istore 4, 2) := by decide +kernel
theorem dX5_sumOfHalves_43 : decode cX5_sumOfHalves 43 = .ok (.aload_n 0, 1) := by decide +kernel
theorem dX5_sumOfHalves_44 : decode cX5_sumOfHalves 44 = .ok (.iload_n 1, 1) := by decide +kernel
theorem dX5_sumOfHalves_45 : decode cX5_sumOfHalves 45 = .ok (.iload 4, 2) := by decide +kernel
theorem dX5_sumOfHalves_47 : decode cX5_sumOfHalves 47 = .ok (.iload_n 3, 1) := by decide +kernel
theorem dX5_sumOfHalves_48 : decode cX5_sumOfHalves 48 = .ok (.iconst 1, 1) := by decide +kernel
theorem dX5_sumOfHalves_49 : decode cX5_sumOfHalves 49 = .ok (.iadd, 1) := by decide +kernel
theorem dX5_sumOfHalves_50 : decode cX5_sumOfHalves 50 = .ok (.invokestatic 41, 3) := by decide +kernel
theorem dX5_sumOfHalves_53 : decode cX5_sumOfHalves 53 = .ok (.aload_n 0, 1) := by decide +kernel
theorem dX5_sumOfHalves_54 : decode cX5_sumOfHalves 54 = .ok (.iload 4, 2) := by decide +kernel
theorem dX5_sumOfHalves_56 : decode cX5_sumOfHalves 56 = .ok (.iload_n 2, 1) := by decide +kernel
theorem dX5_sumOfHalves_57 : decode cX5_sumOfHalves 57 = .ok (.iload_n 3, 1) := by decide +kernel
theorem dX5_sumOfHalves_58 : decode cX5_sumOfHalves 58 = .ok (.iconst 1, 1) := by decide +kernel
theorem dX5_sumOfHalves_59 : decode cX5_sumOfHalves 59 = .ok (.iadd, 1) := by decide +kernel
theorem dX5_sumOfHalves_60 : decode cX5_sumOfHalves 60 = .ok (.invokestatic 41, 3) := by decide +kernel
theorem dX5_sumOfHalves_63 : decode cX5_sumOfHalves 63 = .ok (.iadd, 1) := by decide +kernel
theorem dX5_sumOfHalves_64 : decode cX5_sumOfHalves 64 = .ok (.ireturn, 1) := by decide +kernel
theorem dX5_layerContaining_0 : decode cX5_layerContaining 0 = .ok (.iload_n 1, 1) := by decide +kernel
theorem dX5_layerContaining_1 : decode cX5_layerContaining 1 = .ok (.ifCond .ge 5, 3) := by decide +kernel
theorem dX5_layerContaining_4 : decode cX5_layerContaining 4 = .ok (.iconst (-1), 1) := by decide +kernel
theorem dX5_layerContaining_5 : decode cX5_layerContaining 5 = .ok (.ireturn, 1) := by decide +kernel
theorem dX5_layerContaining_6 : decode cX5_layerContaining 6 = .ok (.iconst 0, 1) := by decide +kernel
theorem dX5_layerContaining_7 : decode cX5_layerContaining 7 = .ok (.istore_n 2, 1) := by decide +kernel
theorem dX5_layerContaining_8 : decode cX5_layerContaining 8 = .ok (.iconst 0, 1) := by decide +kernel
theorem dX5_layerContaining_9 : decode cX5_layerContaining 9 = .ok (.istore_n 3, 1) := by decide +kernel
theorem dX5_layerContaining_10 : decode cX5_layerContaining 10 = .ok (.iload_n 3, 1) := by decide +kernel
theorem dX5_layerContaining_11 : decode cX5_layerContaining 11 = .ok (.aload_n 0, 1) := by decide +kernel
theorem dX5_layerContaining_12 : decode cX5_layerContaining 12 = .ok (.getfield 21, 3) := by decide +kernel
theorem dX5_layerContaining_15 : decode cX5_layerContaining 15 = .ok (.if_icmp .ge 25, 3) := by decide +kernel
theorem dX5_layerContaining_18 : decode cX5_layerContaining 18 = .ok (.iload_n 2, 1) := by decide +kernel
theorem dX5_layerContaining_19 : decode cX5_layerContaining 19 = .ok (.aload_n 0, 1) := by decide +kernel
theorem dX5_layerContaining_20 : decode cX5_layerContaining 20 = .ok (.getfield 9, 3) := by decide +kernel
theorem dX5_layerContaining_23 : decode cX5_layerContaining 23 = .ok (.iload_n 3, 1) := by decide +kernel
theorem dX5_layerContaining_24 : decode cX5_layerContaining 24 = .ok (.iaload, 1) := by decide +kernel
theorem dX5_layerContaining_25 : decode cX5_layerContaining 25 = .ok (.iadd, 1) := by decide +kernel
theorem dX5_layerContaining_26 : decode cX5_layerContaining 26 = .ok (.istore_n 2, 1) := by decide +kernel
theorem dX5_layerContaining_27 : decode cX5_layerContaining 27 = .ok (.iload_n 1, 1) := by decide +kernel
theorem dX5_layerContaining_28 : decode cX5_layerContaining 28 = .ok (.iload_n 2, 1) := by decide +kernel
theorem dX5_layerContaining_29 : decode cX5_layerContaining 29 = .ok (.if_icmp .ge 5, 3) := by decide +kernel
theorem dX5_layerContaining_32 : decode cX5_layerContaining 32 = .ok (.iload_n 3, 1) := by decide +kernel
theorem dX5_layerContaining_33 : decode cX5_layerContaining 33 = .ok (.ireturn, 1) := by decide +kernel
theorem dX5_layerContaining_34 : decode cX5_layerContaining 34 = .ok (.iinc 3 1, 3) := by decide +kernel
theorem dX5_layerContaining_37 : decode cX5_layerContaining 37 = .ok (.goto (-27), 3) := by decide +kernel
theorem dX5_layerContaining_40 : decode cX5_layerContaining 40 = .ok (.iconst (-1), 1) := by decide +kernel
theorem dX5_layerContaining_41 : decode cX5_layerContaining 41 = .ok (.ireturn, 1) := by decide +kernel
theorem dX5_temperatureSum_0 : decode cX5_temperatureSum 0 = .ok (.aload_n 0, 1) := by decide +kernel
theorem dX5_temperatureSum_1 : decode cX5_temperatureSum 1 = .ok (.aload_n 0, 1) := by decide +kernel
theorem dX5_temperatureSum_2 : decode cX5_temperatureSum 2 = .ok (.getfield 15, 3) := by decide +kernel
theorem dX5_temperatureSum_5 : decode cX5_temperatureSum 5 = .ok (.invokevirtual 37, 3) := by decide +kernel
theorem dX5_temperatureSum_8 : decode cX5_temperatureSum 8 = .ok (.ireturn, 1) := by decide +kernel
theorem dX5_sumOfLayers_0 : decode cX5_sumOfLayers 0 = .ok (.iconst 0, 1) := by decide +kernel
theorem dX5_sumOfLayers_1 : decode cX5_sumOfLayers 1 = .ok (.istore_n 2, 1) := by decide +kernel
theorem dX5_sumOfLayers_2 : decode cX5_sumOfLayers 2 = .ok (.iconst 0, 1) := by decide +kernel
theorem dX5_sumOfLayers_3 : decode cX5_sumOfLayers 3 = .ok (.istore_n 3, 1) := by decide +kernel
theorem dX5_sumOfLayers_4 : decode cX5_sumOfLayers 4 = .ok (.iload_n 3, 1) := by decide +kernel
theorem dX5_sumOfLayers_5 : decode cX5_sumOfLayers 5 = .ok (.aload_n 0, 1) := by decide +kernel
theorem dX5_sumOfLayers_6 : decode cX5_sumOfLayers 6 = .ok (.getfield 21, 3) := by decide +kernel
theorem dX5_sumOfLayers_9 : decode cX5_sumOfLayers 9 = .ok (.if_icmp .ge 15, 3) := by decide +kernel
theorem dX5_sumOfLayers_12 : decode cX5_sumOfLayers 12 = .ok (.iload_n 2, 1) := by decide +kernel
theorem dX5_sumOfLayers_13 : decode cX5_sumOfLayers 13 = .ok (.aload_n 1, 1) := by decide +kernel
theorem dX5_sumOfLayers_14 : decode cX5_sumOfLayers 14 = .ok (.iload_n 3, 1) := by decide +kernel
theorem dX5_sumOfLayers_15 : decode cX5_sumOfLayers 15 = .ok (.iaload, 1) := by decide +kernel
theorem dX5_sumOfLayers_16 : decode cX5_sumOfLayers 16 = .ok (.iadd, 1) := by decide +kernel
theorem dX5_sumOfLayers_17 : decode cX5_sumOfLayers 17 = .ok (.istore_n 2, 1) := by decide +kernel
theorem dX5_sumOfLayers_18 : decode cX5_sumOfLayers 18 = .ok (.iinc 3 1, 3) := by decide +kernel
theorem dX5_sumOfLayers_21 : decode cX5_sumOfLayers 21 = .ok (.goto (-17), 3) := by decide +kernel
theorem dX5_sumOfLayers_24 : decode cX5_sumOfLayers 24 = .ok (.iload_n 2, 1) := by decide +kernel
theorem dX5_sumOfLayers_25 : decode cX5_sumOfLayers 25 = .ok (.ireturn, 1) := by decide +kernel
theorem dX5_moveTemperatures_0 : decode cX5_moveTemperatures 0 = .ok (.iload_n 1, 1) := by decide +kernel
theorem dX5_moveTemperatures_1 : decode cX5_moveTemperatures 1 = .ok (.istore_n 2, 1) := by decide +kernel
theorem dX5_moveTemperatures_2 : decode cX5_moveTemperatures 2 = .ok (.iconst 0, 1) := by decide +kernel
theorem dX5_moveTemperatures_3 : decode cX5_moveTemperatures 3 = .ok (.istore_n 3, 1) := by decide +kernel
theorem dX5_moveTemperatures_4 : decode cX5_moveTemperatures 4 = .ok (.iload_n 3, 1) := by decide +kernel
theorem dX5_moveTemperatures_5 : decode cX5_moveTemperatures 5 = .ok (.aload_n 0, 1) := by decide +kernel
theorem dX5_moveTemperatures_6 : decode cX5_moveTemperatures 6 = .ok (.getfield 21, 3) := by decide +kernel
theorem dX5_moveTemperatures_9 : decode cX5_moveTemperatures 9 = .ok (.if_icmp .ge 73, 3) := by decide +kernel
theorem dX5_moveTemperatures_12 : decode cX5_moveTemperatures 12 = .ok (.aload_n 0, 1) := by decide +kernel
theorem dX5_moveTemperatures_13 : decode cX5_moveTemperatures 13 = .ok (.getfield 15, 3) := by decide +kernel
theorem dX5_moveTemperatures_16 : decode cX5_moveTemperatures 16 = .ok (.iload_n 3, 1) := by decide +kernel
theorem dX5_moveTemperatures_17 : decode cX5_moveTemperatures 17 = .ok (.iaload, 1) := by decide +kernel
theorem dX5_moveTemperatures_18 : decode cX5_moveTemperatures 18 = .ok (.istore 4, 2) := by decide +kernel
theorem dX5_moveTemperatures_20 : decode cX5_moveTemperatures 20 = .ok (.iload_n 2, 1) := by decide +kernel
theorem dX5_moveTemperatures_21 : decode cX5_moveTemperatures 21 = .ok (.aload_n 0, 1) := by decide +kernel
theorem dX5_moveTemperatures_22 : decode cX5_moveTemperatures 22 = .ok (.iload_n 3, 1) := by decide +kernel
theorem dX5_moveTemperatures_23 : decode cX5_moveTemperatures 23 = .ok (.invokevirtual 45, 3) := by decide +kernel
theorem dX5_moveTemperatures_26 : decode cX5_moveTemperatures 26 = .ok (.iadd, 1) := by decide +kernel
theorem dX5_moveTemperatures_27 : decode cX5_moveTemperatures 27 = .ok (.iconst 2, 1) := by decide +kernel
theorem dX5_moveTemperatures_28 : decode cX5_moveTemperatures 28 = .ok (.idiv, 1) := by decide +kernel
theorem dX5_moveTemperatures_29 : decode cX5_moveTemperatures 29 = .ok (.istore 5, 2) := by decide +kernel
theorem dX5_moveTemperatures_31 : decode cX5_moveTemperatures 31 = .ok (.iload 4, 2) := by decide +kernel
theorem dX5_moveTemperatures_33 : decode cX5_moveTemperatures 33 = .ok (.iload 5, 2) := by decide +kernel
theorem dX5_moveTemperatures_35 : decode cX5_moveTemperatures 35 = .ok (.if_icmp .ge 21, 3) := by decide +kernel
theorem dX5_moveTemperatures_38 : decode cX5_moveTemperatures 38 = .ok (.iload 4, 2) := by decide +kernel
theorem dX5_moveTemperatures_40 : decode cX5_moveTemperatures 40 = .ok (.ifCond .ge 16, 3) := by decide +kernel
theorem dX5_moveTemperatures_43 : decode cX5_moveTemperatures 43 = .ok (.aload_n 0, 1) := by decide +kernel
theorem dX5_moveTemperatures_44 : decode cX5_moveTemperatures 44 = .ok (.getfield 15, 3) := by decide +kernel
theorem dX5_moveTemperatures_47 : decode cX5_moveTemperatures 47 = .ok (.iload_n 3, 1) := by decide +kernel
theorem dX5_moveTemperatures_48 : decode cX5_moveTemperatures 48 = .ok (.iload 4, 2) := by decide +kernel
theorem dX5_moveTemperatures_50 : decode cX5_moveTemperatures 50 = .ok (.iconst 1, 1) := by decide +kernel
theorem dX5_moveTemperatures_51 : decode cX5_moveTemperatures 51 = .ok (.iadd, 1) := by decide +kernel
theorem dX5_moveTemperatures_52 : decode cX5_moveTemperatures 52 = .ok (.iastore, 1) := by decide +kernel
theorem dX5_moveTemperatures_53 : decode cX5_moveTemperatures 53 = .ok (.goto 20, 3) := by decide +kernel
theorem dX5_moveTemperatures_56 : decode cX5_moveTemperatures 56 = .ok (.iload 4, 2) := by decide +kernel
theorem dX5_moveTemperatures_58 : decode cX5_moveTemperatures 58 = .ok (.iload 5, 2) := by decide +kernel
theorem dX5_moveTemperatures_60 : decode cX5_moveTemperatures 60 = .ok (.if_icmp .le 13, 3) := by decide +kernel
theorem dX5_moveTemperatures_63 : decode cX5_moveTemperatures 63 = .ok (.aload_n 0, 1) := by decide +kernel
theorem dX5_moveTemperatures_64 : decode cX5_moveTemperatures 64 = .ok (.getfield 15, 3) := by decide +kernel
theorem dX5_moveTemperatures_67 : decode cX5_moveTemperatures 67 = .ok (.iload_n 3, 1) := by decide +kernel
theorem dX5_moveTemperatures_68 : decode cX5_moveTemperatures 68 = .ok (.iload 4, 2) := by decide +kernel
theorem dX5_moveTemperatures_70 : decode cX5_moveTemperatures 70 = .ok (.iconst 1, 1) := by decide +kernel
theorem dX5_moveTemperatures_71 : decode cX5_moveTemperatures 71 = .ok (.isub, 1) := by decide +kernel
theorem dX5_moveTemperatures_72 : decode cX5_moveTemperatures 72 = .ok (.iastore, 1) := by decide +kernel
theorem dX5_moveTemperatures_73 : decode cX5_moveTemperatures 73 = .ok (.iload 4, 2) := by decide +kernel
theorem dX5_moveTemperatures_75 : decode cX5_moveTemperatures 75 = .ok (.istore_n 2, 1) := by decide +kernel
theorem dX5_moveTemperatures_76 : decode cX5_moveTemperatures 76 = .ok (.iinc 3 1, 3) := by decide +kernel
theorem dX5_moveTemperatures_79 : decode cX5_moveTemperatures 79 = .ok (.goto (-75), 3) := by decide +kernel
theorem dX5_moveTemperatures_82 : decode cX5_moveTemperatures 82 = .ok (.return_, 1) := by decide +kernel
theorem dX5_temperatureBeneath_0 : decode cX5_temperatureBeneath 0 = .ok (.aload_n 0, 1) := by decide +kernel
theorem dX5_temperatureBeneath_1 : decode cX5_temperatureBeneath 1 = .ok (.iload_n 1, 1) := by decide +kernel
theorem dX5_temperatureBeneath_2 : decode cX5_temperatureBeneath 2 = .ok (.iconst 1, 1) := by decide +kernel
theorem dX5_temperatureBeneath_3 : decode cX5_temperatureBeneath 3 = .ok (.iadd, 1) := by decide +kernel
theorem dX5_temperatureBeneath_4 : decode cX5_temperatureBeneath 4 = .ok (.invokevirtual 49, 3) := by decide +kernel
theorem dX5_temperatureBeneath_7 : decode cX5_temperatureBeneath 7 = .ok (.ifCond .eq 14, 3) := by decide +kernel
theorem dX5_temperatureBeneath_10 : decode cX5_temperatureBeneath 10 = .ok (.aload_n 0, 1) := by decide +kernel
theorem dX5_temperatureBeneath_11 : decode cX5_temperatureBeneath 11 = .ok (.getfield 15, 3) := by decide +kernel
theorem dX5_temperatureBeneath_14 : decode cX5_temperatureBeneath 14 = .ok (.iload_n 1, 1) := by decide +kernel
theorem dX5_temperatureBeneath_15 : decode cX5_temperatureBeneath 15 = .ok (.iconst 1, 1) := by decide +kernel
theorem dX5_temperatureBeneath_16 : decode cX5_temperatureBeneath 16 = .ok (.iadd, 1) := by decide +kernel
theorem dX5_temperatureBeneath_17 : decode cX5_temperatureBeneath 17 = .ok (.iaload, 1) := by decide +kernel
theorem dX5_temperatureBeneath_18 : decode cX5_temperatureBeneath 18 = .ok (.goto 4, 3) := by decide +kernel
theorem dX5_temperatureBeneath_21 : decode cX5_temperatureBeneath 21 = .ok (.iconst 0, 1) := by decide +kernel
theorem dX5_temperatureBeneath_22 : decode cX5_temperatureBeneath 22 = .ok (.ireturn, 1) := by decide +kernel
theorem dX5_addStrains_0 : decode cX5_addStrains 0 = .ok (.iconst 0, 1) := by decide +kernel
theorem dX5_addStrains_1 : decode cX5_addStrains 1 = .ok (.istore_n 1, 1) := by decide +kernel
theorem dX5_addStrains_2 : decode cX5_addStrains 2 = .ok (.iload_n 1, 1) := by decide +kernel
theorem dX5_addStrains_3 : decode cX5_addStrains 3 = .ok (.aload_n 0, 1) := by decide +kernel
theorem dX5_addStrains_4 : decode cX5_addStrains 4 = .ok (.getfield 21, 3) := by decide +kernel
theorem dX5_addStrains_7 : decode cX5_addStrains 7 = .ok (.if_icmp .ge 33, 3) := by decide +kernel
theorem dX5_addStrains_10 : decode cX5_addStrains 10 = .ok (.aload_n 0, 1) := by decide +kernel
theorem dX5_addStrains_11 : decode cX5_addStrains 11 = .ok (.getfield 18, 3) := by decide +kernel
theorem dX5_addStrains_14 : decode cX5_addStrains 14 = .ok (.iload_n 1, 1) := by decide +kernel
theorem dX5_addStrains_15 : decode cX5_addStrains 15 = .ok (.dup2, 1) := by decide +kernel
theorem dX5_addStrains_16 : decode cX5_addStrains 16 = .ok (.iaload, 1) := by decide +kernel
theorem dX5_addStrains_17 : decode cX5_addStrains 17 = .ok (.aload_n 0, 1) := by decide +kernel
theorem dX5_addStrains_18 : decode cX5_addStrains 18 = .ok (.getfield 15, 3) := by decide +kernel
theorem dX5_addStrains_21 : decode cX5_addStrains 21 = .ok (.iload_n 1, 1) := by decide +kernel
theorem dX5_addStrains_22 : decode cX5_addStrains 22 = .ok (.iaload, 1) := by decide +kernel
theorem dX5_addStrains_23 : decode cX5_addStrains 23 = .ok (.aload_n 0, 1) := by decide +kernel
theorem dX5_addStrains_24 : decode cX5_addStrains 24 = .ok (.iload_n 1, 1) := by decide +kernel
theorem dX5_addStrains_25 : decode cX5_addStrains 25 = .ok (.invokevirtual 45, 3) := by decide +kernel
theorem dX5_addStrains_28 : decode cX5_addStrains 28 = .ok (.isub, 1) := by decide +kernel
theorem dX5_addStrains_29 : decode cX5_addStrains 29 = .ok (.invokestatic 53, 3) := by decide +kernel
theorem dX5_addStrains_32 : decode cX5_addStrains 32 = .ok (.iadd, 1) := by decide +kernel
theorem dX5_addStrains_33 : decode cX5_addStrains 33 = .ok (.iastore, 1) := by decide +kernel
theorem dX5_addStrains_34 : decode cX5_addStrains 34 = .ok (.iinc 1 1, 3) := by decide +kernel
theorem dX5_addStrains_37 : decode cX5_addStrains 37 = .ok (.goto (-35), 3) := by decide +kernel
theorem dX5_addStrains_40 : decode cX5_addStrains 40 = .ok (.return_, 1) := by decide +kernel
theorem dX5_crackLayers_0 : decode cX5_crackLayers 0 = .ok (.iconst 0, 1) := by decide +kernel
theorem dX5_crackLayers_1 : decode cX5_crackLayers 1 = .ok (.istore 4, 2) := by decide +kernel
theorem dX5_crackLayers_3 : decode cX5_crackLayers 3 = .ok (.iconst 0, 1) := by decide +kernel
theorem dX5_crackLayers_4 : decode cX5_crackLayers 4 = .ok (.istore 5, 2) := by decide +kernel
theorem dX5_crackLayers_6 : decode cX5_crackLayers 6 = .ok (.iload 5, 2) := by decide +kernel
theorem dX5_crackLayers_8 : decode cX5_crackLayers 8 = .ok (.aload_n 0, 1) := by decide +kernel
theorem dX5_crackLayers_9 : decode cX5_crackLayers 9 = .ok (.getfield 21, 3) := by decide +kernel
theorem dX5_crackLayers_12 : decode cX5_crackLayers 12 = .ok (.if_icmp .ge 80, 3) := by decide +kernel
theorem dX5_crackLayers_15 : decode cX5_crackLayers 15 = .ok (.aload_n 0, 1) := by decide +kernel
theorem dX5_crackLayers_16 : decode cX5_crackLayers 16 = .ok (.getfield 18, 3) := by decide +kernel
theorem dX5_crackLayers_19 : decode cX5_crackLayers 19 = .ok (.iload 5, 2) := by decide +kernel
theorem dX5_crackLayers_21 : decode cX5_crackLayers 21 = .ok (.iaload, 1) := by decide +kernel
theorem dX5_crackLayers_22 : decode cX5_crackLayers 22 = .ok (.bipush 30, 2) := by decide +kernel
theorem dX5_crackLayers_24 : decode cX5_crackLayers 24 = .ok (.if_icmp .lt 62, 3) := by decide +kernel
theorem dX5_crackLayers_27 : decode cX5_crackLayers 27 = .ok (.aload_n 0, 1) := by decide +kernel
theorem dX5_crackLayers_28 : decode cX5_crackLayers 28 = .ok (.getfield 15, 3) := by decide +kernel
theorem dX5_crackLayers_31 : decode cX5_crackLayers 31 = .ok (.iload 5, 2) := by decide +kernel
theorem dX5_crackLayers_33 : decode cX5_crackLayers 33 = .ok (.iaload, 1) := by decide +kernel
theorem dX5_crackLayers_34 : decode cX5_crackLayers 34 = .ok (.ifCond .ne 7, 3) := by decide +kernel
theorem dX5_crackLayers_37 : decode cX5_crackLayers 37 = .ok (.iconst 0, 1) := by decide +kernel
theorem dX5_crackLayers_38 : decode cX5_crackLayers 38 = .ok (.goto 9, 3) := by decide +kernel
theorem dX5_crackLayers_41 : decode cX5_crackLayers 41 = .ok (.aload_n 0, 1) := by decide +kernel
theorem dX5_crackLayers_42 : decode cX5_crackLayers 42 = .ok (.iload 5, 2) := by decide +kernel
theorem dX5_crackLayers_44 : decode cX5_crackLayers 44 = .ok (.invokevirtual 58, 3) := by decide +kernel
theorem dX5_crackLayers_47 : decode cX5_crackLayers 47 = .ok (.istore 6, 2) := by decide +kernel
theorem dX5_crackLayers_49 : decode cX5_crackLayers 49 = .ok (.aload_n 3, 1) := by decide +kernel
theorem dX5_crackLayers_50 : decode cX5_crackLayers 50 = .ok (.bipush 99, 2) := by decide +kernel
theorem dX5_crackLayers_52 : decode cX5_crackLayers 52 = .ok (.iload_n 1, 1) := by decide +kernel
theorem dX5_crackLayers_53 : decode cX5_crackLayers 53 = .ok (.iload 6, 2) := by decide +kernel
theorem dX5_crackLayers_55 : decode cX5_crackLayers 55 = .ok (.iload_n 2, 1) := by decide +kernel
theorem dX5_crackLayers_56 : decode cX5_crackLayers 56 = .ok (.invokevirtual 61, 3) := by decide +kernel
theorem dX5_crackLayers_59 : decode cX5_crackLayers 59 = .ok (.aload_n 0, 1) := by decide +kernel
theorem dX5_crackLayers_60 : decode cX5_crackLayers 60 = .ok (.getfield 18, 3) := by decide +kernel
theorem dX5_crackLayers_63 : decode cX5_crackLayers 63 = .ok (.iload 5, 2) := by decide +kernel
theorem dX5_crackLayers_65 : decode cX5_crackLayers 65 = .ok (.iconst 0, 1) := by decide +kernel
theorem dX5_crackLayers_66 : decode cX5_crackLayers 66 = .ok (.iastore, 1) := by decide +kernel
theorem dX5_crackLayers_67 : decode cX5_crackLayers 67 = .ok (.aload_n 0, 1) := by decide +kernel
theorem dX5_crackLayers_68 : decode cX5_crackLayers 68 = .ok (.iload 5, 2) := by decide +kernel
theorem dX5_crackLayers_70 : decode cX5_crackLayers 70 = .ok (.iconst 1, 1) := by decide +kernel
theorem dX5_crackLayers_71 : decode cX5_crackLayers 71 = .ok (.isub, 1) := by decide +kernel
theorem dX5_crackLayers_72 : decode cX5_crackLayers 72 = .ok (.invokevirtual 67, 3) := by decide +kernel
theorem dX5_crackLayers_75 : decode cX5_crackLayers 75 = .ok (.aload_n 0, 1) := by decide +kernel
theorem dX5_crackLayers_76 : decode cX5_crackLayers 76 = .ok (.iload 5, 2) := by decide +kernel
theorem dX5_crackLayers_78 : decode cX5_crackLayers 78 = .ok (.iconst 1, 1) := by decide +kernel
theorem dX5_crackLayers_79 : decode cX5_crackLayers 79 = .ok (.iadd, 1) := by decide +kernel
theorem dX5_crackLayers_80 : decode cX5_crackLayers 80 = .ok (.invokevirtual 67, 3) := by decide +kernel
theorem dX5_crackLayers_83 : decode cX5_crackLayers 83 = .ok (.iinc 4 1, 3) := by decide +kernel
theorem dX5_crackLayers_86 : decode cX5_crackLayers 86 = .ok (.iinc 5 1, 3) := by decide +kernel
theorem dX5_crackLayers_89 : decode cX5_crackLayers 89 = .ok (.goto (-83), 3) := by decide +kernel
theorem dX5_crackLayers_92 : decode cX5_crackLayers 92 = .ok (.aload_n 0, 1) := by decide +kernel
theorem dX5_crackLayers_93 : decode cX5_crackLayers 93 = .ok (.dup, 1) := by decide +kernel
theorem dX5_crackLayers_94 : decode cX5_crackLayers 94 = .ok (.getfield 28, 3) := by decide +kernel
theorem dX5_crackLayers_97 : decode cX5_crackLayers 97 = .ok (.iload 4, 2) := by decide +kernel
theorem dX5_crackLayers_99 : decode cX5_crackLayers 99 = .ok (.iadd, 1) := by decide +kernel
theorem dX5_crackLayers_100 : decode cX5_crackLayers 100 = .ok (.putfield 28, 3) := by decide +kernel
theorem dX5_crackLayers_103 : decode cX5_crackLayers 103 = .ok (.iload 4, 2) := by decide +kernel
theorem dX5_crackLayers_105 : decode cX5_crackLayers 105 = .ok (.ireturn, 1) := by decide +kernel
theorem dX5_pushNeighbour_0 : decode cX5_pushNeighbour 0 = .ok (.aload_n 0, 1) := by decide +kernel
theorem dX5_pushNeighbour_1 : decode cX5_pushNeighbour 1 = .ok (.iload_n 1, 1) := by decide +kernel
theorem dX5_pushNeighbour_2 : decode cX5_pushNeighbour 2 = .ok (.invokevirtual 49, 3) := by decide +kernel
theorem dX5_pushNeighbour_5 : decode cX5_pushNeighbour 5 = .ok (.ifCond .eq 13, 3) := by decide +kernel
theorem dX5_pushNeighbour_8 : decode cX5_pushNeighbour 8 = .ok (.aload_n 0, 1) := by decide +kernel
theorem dX5_pushNeighbour_9 : decode cX5_pushNeighbour 9 = .ok (.getfield 18, 3) := by decide +kernel
theorem dX5_pushNeighbour_12 : decode cX5_pushNeighbour 12 = .ok (.iload_n 1, 1) := by decide +kernel
theorem dX5_pushNeighbour_13 : decode cX5_pushNeighbour 13 = .ok (.dup2, 1) := by decide +kernel
theorem dX5_pushNeighbour_14 : decode cX5_pushNeighbour 14 = .ok (.iaload, 1) := by decide +kernel
theorem dX5_pushNeighbour_15 : decode cX5_pushNeighbour 15 = .ok (.iconst 5, 1) := by decide +kernel
theorem dX5_pushNeighbour_16 : decode cX5_pushNeighbour 16 = .ok (.iadd, 1) := by decide +kernel
theorem dX5_pushNeighbour_17 : decode cX5_pushNeighbour 17 = .ok (.iastore, 1) := by decide +kernel
theorem dX5_pushNeighbour_18 : decode cX5_pushNeighbour 18 = .ok (.return_, 1) := by decide +kernel
theorem dX5_pitchOf_0 : decode cX5_pitchOf 0 = .ok (.bipush 100, 2) := by decide +kernel
theorem dX5_pitchOf_2 : decode cX5_pitchOf 2 = .ok (.iconst 1, 1) := by decide +kernel
theorem dX5_pitchOf_3 : decode cX5_pitchOf 3 = .ok (.aload_n 0, 1) := by decide +kernel
theorem dX5_pitchOf_4 : decode cX5_pitchOf 4 = .ok (.getfield 9, 3) := by decide +kernel
theorem dX5_pitchOf_7 : decode cX5_pitchOf 7 = .ok (.iload_n 1, 1) := by decide +kernel
theorem dX5_pitchOf_8 : decode cX5_pitchOf 8 = .ok (.iaload, 1) := by decide +kernel
theorem dX5_pitchOf_9 : decode cX5_pitchOf 9 = .ok (.invokestatic 71, 3) := by decide +kernel
theorem dX5_pitchOf_12 : decode cX5_pitchOf 12 = .ok (.idiv, 1) := by decide +kernel
theorem dX5_pitchOf_13 : decode cX5_pitchOf 13 = .ok (.aload_n 0, 1) := by decide +kernel
theorem dX5_pitchOf_14 : decode cX5_pitchOf 14 = .ok (.getfield 15, 3) := by decide +kernel
theorem dX5_pitchOf_17 : decode cX5_pitchOf 17 = .ok (.iload_n 1, 1) := by decide +kernel
theorem dX5_pitchOf_18 : decode cX5_pitchOf 18 = .ok (.iaload, 1) := by decide +kernel
theorem dX5_pitchOf_19 : decode cX5_pitchOf 19 = .ok (.isub, 1) := by decide +kernel
theorem dX5_pitchOf_20 : decode cX5_pitchOf 20 = .ok (.ireturn, 1) := by decide +kernel
theorem dX5_thawTop_0 : decode cX5_thawTop 0 = .ok (.aload_n 0, 1) := by decide +kernel
theorem dX5_thawTop_1 : decode cX5_thawTop 1 = .ok (.getfield 21, 3) := by decide +kernel
theorem dX5_thawTop_4 : decode cX5_thawTop 4 = .ok (.ifCond .eq 16, 3) := by decide +kernel
theorem dX5_thawTop_7 : decode cX5_thawTop 7 = .ok (.iload_n 1, 1) := by decide +kernel
theorem dX5_thawTop_8 : decode cX5_thawTop 8 = .ok (.ifCond .le 12, 3) := by decide +kernel
theorem dX5_thawTop_11 : decode cX5_thawTop 11 = .ok (.aload_n 0, 1) := by decide +kernel
theorem dX5_thawTop_12 : decode cX5_thawTop 12 = .ok (.getfield 15, 3) := by decide +kernel
theorem dX5_thawTop_15 : decode cX5_thawTop 15 = .ok (.iconst 0, 1) := by decide +kernel
theorem dX5_thawTop_16 : decode cX5_thawTop 16 = .ok (.iaload, 1) := by decide +kernel
theorem dX5_thawTop_17 : decode cX5_thawTop 17 = .ok (.ifCond .eq 5, 3) := by decide +kernel
theorem dX5_thawTop_20 : decode cX5_thawTop 20 = .ok (.iconst 0, 1) := by decide +kernel
theorem dX5_thawTop_21 : decode cX5_thawTop 21 = .ok (.ireturn, 1) := by decide +kernel
theorem dX5_thawTop_22 : decode cX5_thawTop 22 = .ok (.aload_n 0, 1) := by decide +kernel
theorem dX5_thawTop_23 : decode cX5_thawTop 23 = .ok (.getfield 9, 3) := by decide +kernel
theorem dX5_thawTop_26 : decode cX5_thawTop 26 = .ok (.iconst 0, 1) := by decide +kernel
theorem dX5_thawTop_27 : decode cX5_thawTop 27 = .ok (.dup2, 1) := by decide +kernel
theorem dX5_thawTop_28 : decode cX5_thawTop 28 = .ok (.iaload, 1) := by decide +kernel
theorem dX5_thawTop_29 : decode cX5_thawTop 29 = .ok (.iconst 1, 1) := by decide +kernel
theorem dX5_thawTop_30 : decode cX5_thawTop 30 = .ok (.isub, 1) := by decide +kernel
theorem dX5_thawTop_31 : decode cX5_thawTop 31 = .ok (.iastore, 1) := by decide +kernel
theorem dX5_thawTop_32 : decode cX5_thawTop 32 = .ok (.aload_n 0, 1) := by decide +kernel
theorem dX5_thawTop_33 : decode cX5_thawTop 33 = .ok (.getfield 9, 3) := by decide +kernel
theorem dX5_thawTop_36 : decode cX5_thawTop 36 = .ok (.iconst 0, 1) := by decide +kernel
theorem dX5_thawTop_37 : decode cX5_thawTop 37 = .ok (.iaload, 1) := by decide +kernel
theorem dX5_thawTop_38 : decode cX5_thawTop 38 = .ok (.ifCond .gt 7, 3) := by decide +kernel
theorem dX5_thawTop_41 : decode cX5_thawTop 41 = .ok (.aload_n 0, 1) := by decide +kernel
theorem dX5_thawTop_42 : decode cX5_thawTop 42 = .ok (.invokevirtual 75, 3) := by decide +kernel
theorem dX5_thawTop_45 : decode cX5_thawTop 45 = .ok (.iconst 1, 1) := by decide +kernel
theorem dX5_thawTop_46 : decode cX5_thawTop 46 = .ok (.ireturn, 1) := by decide +kernel
theorem dX5_dropTop_0 : decode cX5_dropTop 0 = .ok (.aload_n 0, 1) := by decide +kernel
theorem dX5_dropTop_1 : decode cX5_dropTop 1 = .ok (.dup, 1) := by decide +kernel
theorem dX5_dropTop_2 : decode cX5_dropTop 2 = .ok (.getfield 21, 3) := by decide +kernel
theorem dX5_dropTop_5 : decode cX5_dropTop 5 = .ok (.iconst 1, 1) := by decide +kernel
theorem dX5_dropTop_6 : decode cX5_dropTop 6 = .ok (.isub, 1) := by decide +kernel
theorem dX5_dropTop_7 : decode cX5_dropTop 7 = .ok (.putfield 21, 3) := by decide +kernel
theorem dX5_dropTop_10 : decode cX5_dropTop 10 = .ok (.iconst 0, 1) := by decide +kernel
theorem dX5_dropTop_11 : decode cX5_dropTop 11 = .ok (.istore_n 1, 1) := by decide +kernel
theorem dX5_dropTop_12 : decode cX5_dropTop 12 = .ok (.iload_n 1, 1) := by decide +kernel
theorem dX5_dropTop_13 : decode cX5_dropTop 13 = .ok (.aload_n 0, 1) := by decide +kernel
theorem dX5_dropTop_14 : decode cX5_dropTop 14 = .ok (.getfield 21, 3) := by decide +kernel
theorem dX5_dropTop_17 : decode cX5_dropTop 17 = .ok (.if_icmp .ge 51, 3) := by decide +kernel
theorem dX5_dropTop_20 : decode cX5_dropTop 20 = .ok (.aload_n 0, 1) := by decide +kernel
theorem dX5_dropTop_21 : decode cX5_dropTop 21 = .ok (.getfield 9, 3) := by decide +kernel
theorem dX5_dropTop_24 : decode cX5_dropTop 24 = .ok (.iload_n 1, 1) := by decide +kernel
theorem dX5_dropTop_25 : decode cX5_dropTop 25 = .ok (.aload_n 0, 1) := by decide +kernel
theorem dX5_dropTop_26 : decode cX5_dropTop 26 = .ok (.getfield 9, 3) := by decide +kernel
theorem dX5_dropTop_29 : decode cX5_dropTop 29 = .ok (.iload_n 1, 1) := by decide +kernel
theorem dX5_dropTop_30 : decode cX5_dropTop 30 = .ok (.iconst 1, 1) := by decide +kernel
theorem dX5_dropTop_31 : decode cX5_dropTop 31 = .ok (.iadd, 1) := by decide +kernel
theorem dX5_dropTop_32 : decode cX5_dropTop 32 = .ok (.iaload, 1) := by decide +kernel
theorem dX5_dropTop_33 : decode cX5_dropTop 33 = .ok (.iastore, 1) := by decide +kernel
theorem dX5_dropTop_34 : decode cX5_dropTop 34 = .ok (.aload_n 0, 1) := by decide +kernel
theorem dX5_dropTop_35 : decode cX5_dropTop 35 = .ok (.getfield 15, 3) := by decide +kernel
theorem dX5_dropTop_38 : decode cX5_dropTop 38 = .ok (.iload_n 1, 1) := by decide +kernel
theorem dX5_dropTop_39 : decode cX5_dropTop 39 = .ok (.aload_n 0, 1) := by decide +kernel
theorem dX5_dropTop_40 : decode cX5_dropTop 40 = .ok (.getfield 15, 3) := by decide +kernel
theorem dX5_dropTop_43 : decode cX5_dropTop 43 = .ok (.iload_n 1, 1) := by decide +kernel
theorem dX5_dropTop_44 : decode cX5_dropTop 44 = .ok (.iconst 1, 1) := by decide +kernel
theorem dX5_dropTop_45 : decode cX5_dropTop 45 = .ok (.iadd, 1) := by decide +kernel
theorem dX5_dropTop_46 : decode cX5_dropTop 46 = .ok (.iaload, 1) := by decide +kernel
theorem dX5_dropTop_47 : decode cX5_dropTop 47 = .ok (.iastore, 1) := by decide +kernel
theorem dX5_dropTop_48 : decode cX5_dropTop 48 = .ok (.aload_n 0, 1) := by decide +kernel
theorem dX5_dropTop_49 : decode cX5_dropTop 49 = .ok (.getfield 18, 3) := by decide +kernel
theorem dX5_dropTop_52 : decode cX5_dropTop 52 = .ok (.iload_n 1, 1) := by decide +kernel
theorem dX5_dropTop_53 : decode cX5_dropTop 53 = .ok (.aload_n 0, 1) := by decide +kernel
theorem dX5_dropTop_54 : decode cX5_dropTop 54 = .ok (.getfield 18, 3) := by decide +kernel
theorem dX5_dropTop_57 : decode cX5_dropTop 57 = .ok (.iload_n 1, 1) := by decide +kernel
theorem dX5_dropTop_58 : decode cX5_dropTop 58 = .ok (.iconst 1, 1) := by decide +kernel
theorem dX5_dropTop_59 : decode cX5_dropTop 59 = .ok (.iadd, 1) := by decide +kernel
theorem dX5_dropTop_60 : decode cX5_dropTop 60 = .ok (.iaload, 1) := by decide +kernel
theorem dX5_dropTop_61 : decode cX5_dropTop 61 = .ok (.iastore, 1) := by decide +kernel
theorem dX5_dropTop_62 : decode cX5_dropTop 62 = .ok (.iinc 1 1, 3) := by decide +kernel
theorem dX5_dropTop_65 : decode cX5_dropTop 65 = .ok (.goto (-53), 3) := by decide +kernel
theorem dX5_dropTop_68 : decode cX5_dropTop 68 = .ok (.return_, 1) := by decide +kernel
theorem dX5_writeTo_0 : decode cX5_writeTo 0 = .ok (.iconst 0, 1) := by decide +kernel
theorem dX5_writeTo_1 : decode cX5_writeTo 1 = .ok (.istore_n 2, 1) := by decide +kernel
theorem dX5_writeTo_2 : decode cX5_writeTo 2 = .ok (.iload_n 2, 1) := by decide +kernel
theorem dX5_writeTo_3 : decode cX5_writeTo 3 = .ok (.aload_n 0, 1) := by decide +kernel
theorem dX5_writeTo_4 : decode cX5_writeTo 4 = .ok (.getfield 21, 3) := by decide +kernel
theorem dX5_writeTo_7 : decode cX5_writeTo 7 = .ok (.if_icmp .ge 67, 3) := by decide +kernel
theorem dX5_writeTo_10 : decode cX5_writeTo 10 = .ok (.iload_n 2, 1) := by decide +kernel
theorem dX5_writeTo_11 : decode cX5_writeTo 11 = .ok (.ifCond .le 10, 3) := by decide +kernel
theorem dX5_writeTo_14 : decode cX5_writeTo 14 = .ok (.aload_n 1, 1) := by decide +kernel
theorem dX5_writeTo_15 : decode cX5_writeTo 15 = .ok (.bipush 32, 2) := by decide +kernel
theorem dX5_writeTo_17 : decode cX5_writeTo 17 = .ok (.invokevirtual 78, 3) := by decide +kernel
theorem dX5_writeTo_20 : decode cX5_writeTo 20 = .ok (.pop, 1) := by decide +kernel
theorem dX5_writeTo_21 : decode cX5_writeTo 21 = .ok (.aload_n 1, 1) := by decide +kernel
theorem dX5_writeTo_22 : decode cX5_writeTo 22 = .ok (.aload_n 0, 1) := by decide +kernel
theorem dX5_writeTo_23 : decode cX5_writeTo 23 = .ok (.getfield 9, 3) := by decide +kernel
theorem dX5_writeTo_26 : decode cX5_writeTo 26 = .ok (.iload_n 2, 1) := by decide +kernel
theorem dX5_writeTo_27 : decode cX5_writeTo 27 = .ok (.iaload, 1) := by decide +kernel
theorem dX5_writeTo_28 : decode cX5_writeTo 28 = .ok (.invokevirtual 84, 3) := by decide +kernel
theorem dX5_writeTo_31 : decode cX5_writeTo 31 = .ok (.pop, 1) := by decide +kernel
theorem dX5_writeTo_32 : decode cX5_writeTo 32 = .ok (.aload_n 1, 1) := by decide +kernel
theorem dX5_writeTo_33 : decode cX5_writeTo 33 = .ok (.bipush 47, 2) := by decide +kernel
theorem dX5_writeTo_35 : decode cX5_writeTo 35 = .ok (.invokevirtual 78, 3) := by decide +kernel
theorem dX5_writeTo_38 : decode cX5_writeTo 38 = .ok (.pop, 1) := by decide +kernel
theorem dX5_writeTo_39 : decode cX5_writeTo 39 = .ok (.aload_n 1, 1) := by decide +kernel
theorem dX5_writeTo_40 : decode cX5_writeTo 40 = .ok (.aload_n 0, 1) := by decide +kernel
theorem dX5_writeTo_41 : decode cX5_writeTo 41 = .ok (.getfield 15, 3) := by decide +kernel
theorem dX5_writeTo_44 : decode cX5_writeTo 44 = .ok (.iload_n 2, 1) := by decide +kernel
theorem dX5_writeTo_45 : decode cX5_writeTo 45 = .ok (.iaload, 1) := by decide +kernel
theorem dX5_writeTo_46 : decode cX5_writeTo 46 = .ok (.invokevirtual 84, 3) := by decide +kernel
theorem dX5_writeTo_49 : decode cX5_writeTo 49 = .ok (.pop, 1) := by decide +kernel
theorem dX5_writeTo_50 : decode cX5_writeTo 50 = .ok (.aload_n 0, 1) := by decide +kernel
theorem dX5_writeTo_51 : decode cX5_writeTo 51 = .ok (.getfield 18, 3) := by decide +kernel
theorem dX5_writeTo_54 : decode cX5_writeTo 54 = .ok (.iload_n 2, 1) := by decide +kernel
theorem dX5_writeTo_55 : decode cX5_writeTo 55 = .ok (.iaload, 1) := by decide +kernel
theorem dX5_writeTo_56 : decode cX5_writeTo 56 = .ok (.bipush 10, 2) := by decide +kernel
theorem dX5_writeTo_58 : decode cX5_writeTo 58 = .ok (.if_icmp .lt 10, 3) := by decide +kernel
theorem dX5_writeTo_61 : decode cX5_writeTo 61 = .ok (.aload_n 1, 1) := by decide +kernel
theorem dX5_writeTo_62 : decode cX5_writeTo 62 = .ok (.bipush 33, 2) := by decide +kernel
theorem dX5_writeTo_64 : decode cX5_writeTo 64 = .ok (.invokevirtual 78, 3) := by decide +kernel
theorem dX5_writeTo_67 : decode cX5_writeTo 67 = .ok (.pop, 1) := by decide +kernel
theorem dX5_writeTo_68 : decode cX5_writeTo 68 = .ok (.iinc 2 1, 3) := by decide +kernel
theorem dX5_writeTo_71 : decode cX5_writeTo 71 = .ok (.goto (-69), 3) := by decide +kernel
theorem dX5_writeTo_74 : decode cX5_writeTo 74 = .ok (.return_, 1) := by decide +kernel
theorem dX6_init_0 : decode cX6_init 0 = .ok (.aload_n 0, 1) := by decide +kernel
theorem dX6_init_1 : decode cX6_init 1 = .ok (.invokespecial 3, 3) := by decide +kernel
theorem dX6_init_4 : decode cX6_init 4 = .ok (.aload_n 0, 1) := by decide +kernel
theorem dX6_init_5 : decode cX6_init 5 = .ok (.iconst 5, 1) := by decide +kernel
theorem dX6_init_6 : decode cX6_init 6 = .ok (.anewarray 9, 3) := by decide +kernel
theorem dX6_init_9 : decode cX6_init 9 = .ok (.putfield 11, 3) := by decide +kernel
theorem dX6_init_12 : decode cX6_init 12 = .ok (.aload_n 0, 1) := by decide +kernel
theorem dX6_init_13 : decode cX6_init 13 = .ok (.iconst 0, 1) := by decide +kernel
theorem dX6_init_14 : decode cX6_init 14 = .ok (.putfield 17, 3) := by decide +kernel
theorem dX6_init_17 : decode cX6_init 17 = .ok (.aload_n 0, 1) := by decide +kernel
theorem dX6_init_18 : decode cX6_init 18 = .ok (.iconst 0, 1) := by decide +kernel
theorem dX6_init_19 : decode cX6_init 19 = .ok (.putfield 21, 3) := by decide +kernel
theorem dX6_init_22 : decode cX6_init 22 = .ok (.aload_n 0, 1) := by decide +kernel
theorem dX6_init_23 : decode cX6_init 23 = .ok (.iconst 0, 1) := by decide +kernel
theorem dX6_init_24 : decode cX6_init 24 = .ok (.putfield 24, 3) := by decide +kernel
theorem dX6_init_27 : decode cX6_init 27 = .ok (.aload_n 0, 1) := by decide +kernel
theorem dX6_init_28 : decode cX6_init 28 = .ok (.iconst 0, 1) := by decide +kernel
theorem dX6_init_29 : decode cX6_init 29 = .ok (.putfield 27, 3) := by decide +kernel
theorem dX6_init_32 : decode cX6_init 32 = .ok (.aload_n 0, 1) := by decide +kernel
theorem dX6_init_33 : decode cX6_init 33 = .ok (.iconst 0, 1) := by decide +kernel
theorem dX6_init_34 : decode cX6_init 34 = .ok (.putfield 30, 3) := by decide +kernel
theorem dX6_init_37 : decode cX6_init 37 = .ok (.aload_n 0, 1) := by decide +kernel
theorem dX6_init_38 : decode cX6_init 38 = .ok (.new 33, 3) := by decide +kernel
theorem dX6_init_41 : decode cX6_init 41 = .ok (.dup, 1) := by decide +kernel
theorem dX6_init_42 : decode cX6_init 42 = .ok (.invokespecial 35, 3) := by decide +kernel
theorem dX6_init_45 : decode cX6_init 45 = .ok (.putfield 36, 3) := by decide +kernel
theorem dX6_init_48 : decode cX6_init 48 = .ok (.aload_n 0, 1) := by decide +kernel
theorem dX6_init_49 : decode cX6_init 49 = .ok (.new 40, 3) := by decide +kernel
theorem dX6_init_52 : decode cX6_init 52 = .ok (.dup, 1) := by decide +kernel
theorem dX6_init_53 : decode cX6_init 53 = .ok (.invokespecial 42, 3) := by decide +kernel
theorem dX6_init_56 : decode cX6_init 56 = .ok (.putfield 43, 3) := by decide +kernel
theorem dX6_init_59 : decode cX6_init 59 = .ok (.iconst 0, 1) := by decide +kernel
theorem dX6_init_60 : decode cX6_init 60 = .ok (.istore_n 1, 1) := by decide +kernel
theorem dX6_init_61 : decode cX6_init 61 = .ok (.iload_n 1, 1) := by decide +kernel
theorem dX6_init_62 : decode cX6_init 62 = .ok (.iconst 5, 1) := by decide +kernel
theorem dX6_init_63 : decode cX6_init 63 = .ok (.if_icmp .ge 22, 3) := by decide +kernel
theorem dX6_init_66 : decode cX6_init 66 = .ok (.aload_n 0, 1) := by decide +kernel
theorem dX6_init_67 : decode cX6_init 67 = .ok (.getfield 11, 3) := by decide +kernel
theorem dX6_init_70 : decode cX6_init 70 = .ok (.iload_n 1, 1) := by decide +kernel
theorem dX6_init_71 : decode cX6_init 71 = .ok (.new 9, 3) := by decide +kernel
theorem dX6_init_74 : decode cX6_init 74 = .ok (.dup, 1) := by decide +kernel
theorem dX6_init_75 : decode cX6_init 75 = .ok (.invokespecial 47, 3) := by decide +kernel
theorem dX6_init_78 : decode cX6_init 78 = .ok (.aastore, 1) := by decide +kernel
theorem dX6_init_79 : decode cX6_init 79 = .ok (.iinc 1 1, 3) := by decide +kernel
theorem dX6_init_82 : decode cX6_init 82 = .ok (.goto (-21), 3) := by decide +kernel
theorem dX6_init_85 : decode cX6_init 85 = .ok (.return_, 1) := by decide +kernel
theorem dX6_copyFrom_0 : decode cX6_copyFrom 0 = .ok (.iconst 0, 1) := by decide +kernel
theorem dX6_copyFrom_1 : decode cX6_copyFrom 1 = .ok (.istore_n 2, 1) := by decide +kernel
theorem dX6_copyFrom_2 : decode cX6_copyFrom 2 = .ok (.iload_n 2, 1) := by decide +kernel
theorem dX6_copyFrom_3 : decode cX6_copyFrom 3 = .ok (.aload_n 1, 1) := by decide +kernel
theorem dX6_copyFrom_4 : decode cX6_copyFrom 4 = .ok (.getfield 17, 3) := by decide +kernel
theorem dX6_copyFrom_7 : decode cX6_copyFrom 7 = .ok (.if_icmp .ge 24, 3) := by decide +kernel
theorem dX6_copyFrom_10 : decode cX6_copyFrom 10 = .ok (.aload_n 0, 1) := by decide +kernel
theorem dX6_copyFrom_11 : decode cX6_copyFrom 11 = .ok (.getfield 11, 3) := by decide +kernel
theorem dX6_copyFrom_14 : decode cX6_copyFrom 14 = .ok (.iload_n 2, 1) := by decide +kernel
theorem dX6_copyFrom_15 : decode cX6_copyFrom 15 = .ok (.aaload, 1) := by decide +kernel
theorem dX6_copyFrom_16 : decode cX6_copyFrom 16 = .ok (.aload_n 1, 1) := by decide +kernel
theorem dX6_copyFrom_17 : decode cX6_copyFrom 17 = .ok (.getfield 11, 3) := by decide +kernel
theorem dX6_copyFrom_20 : decode cX6_copyFrom 20 = .ok (.iload_n 2, 1) := by decide +kernel
theorem dX6_copyFrom_21 : decode cX6_copyFrom 21 = .ok (.aaload, 1) := by decide +kernel
theorem dX6_copyFrom_22 : decode cX6_copyFrom 22 = .ok (.invokevirtual 48, 3) := by decide +kernel
theorem dX6_copyFrom_25 : decode cX6_copyFrom 25 = .ok (.iinc 2 1, 3) := by decide +kernel
theorem dX6_copyFrom_28 : decode cX6_copyFrom 28 = .ok (.goto (-26), 3) := by decide +kernel
theorem dX6_copyFrom_31 : decode cX6_copyFrom 31 = .ok (.aload_n 0, 1) := by decide +kernel
theorem dX6_copyFrom_32 : decode cX6_copyFrom 32 = .ok (.aload_n 1, 1) := by decide +kernel
theorem dX6_copyFrom_33 : decode cX6_copyFrom 33 = .ok (.getfield 17, 3) := by decide +kernel
theorem dX6_copyFrom_36 : decode cX6_copyFrom 36 = .ok (.putfield 17, 3) := by decide +kernel
theorem dX6_copyFrom_39 : decode cX6_copyFrom 39 = .ok (.aload_n 0, 1) := by decide +kernel
theorem dX6_copyFrom_40 : decode cX6_copyFrom 40 = .ok (.aload_n 1, 1) := by decide +kernel
theorem dX6_copyFrom_41 : decode cX6_copyFrom 41 = .ok (.getfield 21, 3) := by decide +kernel
theorem dX6_copyFrom_44 : decode cX6_copyFrom 44 = .ok (.putfield 21, 3) := by decide +kernel
theorem dX6_copyFrom_47 : decode cX6_copyFrom 47 = .ok (.aload_n 0, 1) := by decide +kernel
theorem dX6_copyFrom_48 : decode cX6_copyFrom 48 = .ok (.aload_n 1, 1) := by decide +kernel
theorem dX6_copyFrom_49 : decode cX6_copyFrom 49 = .ok (.getfield 24, 3) := by decide +kernel
theorem dX6_copyFrom_52 : decode cX6_copyFrom 52 = .ok (.putfield 24, 3) := by decide +kernel
theorem dX6_copyFrom_55 : decode cX6_copyFrom 55 = .ok (.aload_n 0, 1) := by decide +kernel
theorem dX6_copyFrom_56 : decode cX6_copyFrom 56 = .ok (.aload_n 1, 1) := by decide +kernel
theorem dX6_copyFrom_57 : decode cX6_copyFrom 57 = .ok (.getfield 27, 3) := by decide +kernel
theorem dX6_copyFrom_60 : decode cX6_copyFrom 60 = .ok (.putfield 27, 3) := by decide +kernel
theorem dX6_copyFrom_63 : decode cX6_copyFrom 63 = .ok (.aload_n 0, 1) := by decide +kernel
theorem dX6_copyFrom_64 : decode cX6_copyFrom 64 = .ok (.aload_n 1, 1) := by decide +kernel
theorem dX6_copyFrom_65 : decode cX6_copyFrom 65 = .ok (.getfield 30, 3) := by decide +kernel
theorem dX6_copyFrom_68 : decode cX6_copyFrom 68 = .ok (.putfield 30, 3) := by decide +kernel
theorem dX6_copyFrom_71 : decode cX6_copyFrom 71 = .ok (.aload_n 0, 1) := by decide +kernel
theorem dX6_copyFrom_72 : decode cX6_copyFrom 72 = .ok (.getfield 36, 3) := by decide +kernel
theorem dX6_copyFrom_75 : decode cX6_copyFrom 75 = .ok (.aload_n 1, 1) := by decide +kernel
theorem dX6_copyFrom_76 : decode cX6_copyFrom 76 = .ok (.getfield 36, 3) := by decide +kernel
theorem dX6_copyFrom_79 : decode cX6_copyFrom 79 = .ok (.invokevirtual 52, 3) := by decide +kernel
theorem dX6_copyFrom_82 : decode cX6_copyFrom 82 = .ok (.aload_n 0, 1) := by decide +kernel
theorem dX6_copyFrom_83 : decode cX6_copyFrom 83 = .ok (.getfield 43, 3) := by decide +kernel
theorem dX6_copyFrom_86 : decode cX6_copyFrom 86 = .ok (.aload_n 1, 1) := by decide +kernel
theorem dX6_copyFrom_87 : decode cX6_copyFrom 87 = .ok (.getfield 43, 3) := by decide +kernel
theorem dX6_copyFrom_90 : decode cX6_copyFrom 90 = .ok (.invokevirtual 55, 3) := by decide +kernel
theorem dX6_copyFrom_93 : decode cX6_copyFrom 93 = .ok (.return_, 1) := by decide +kernel
theorem dX6_hasLake_0 : decode cX6_hasLake 0 = .ok (.iload_n 1, 1) := by decide +kernel
theorem dX6_hasLake_1 : decode cX6_hasLake 1 = .ok (.ifCond .lt 15, 3) := by decide +kernel
theorem dX6_hasLake_4 : decode cX6_hasLake 4 = .ok (.iload_n 1, 1) := by decide +kernel
theorem dX6_hasLake_5 : decode cX6_hasLake 5 = .ok (.aload_n 0, 1) := by decide +kernel
theorem dX6_hasLake_6 : decode cX6_hasLake 6 = .ok (.getfield 17, 3) := by decide +kernel
theorem dX6_hasLake_9 : decode cX6_hasLake 9 = .ok (.if_icmp .ge 7, 3) := by decide +kernel
theorem dX6_hasLake_12 : decode cX6_hasLake 12 = .ok (.iconst 1, 1) := by decide +kernel
theorem dX6_hasLake_13 : decode cX6_hasLake 13 = .ok (.goto 4, 3) := by decide +kernel
theorem dX6_hasLake_16 : decode cX6_hasLake 16 = .ok (.iconst 0, 1) := by decide +kernel
theorem dX6_hasLake_17 : decode cX6_hasLake 17 = .ok (.ireturn, 1) := by decide +kernel
theorem dX6_placeFault_0 : decode cX6_placeFault 0 = .ok (.iload_n 1, 1) := by decide +kernel
theorem dX6_placeFault_1 : decode cX6_placeFault 1 = .ok (.bipush 20, 2) := by decide +kernel
theorem dX6_placeFault_3 : decode cX6_placeFault 3 = .ok (.if_icmp .lt 10, 3) := by decide +kernel
theorem dX6_placeFault_6 : decode cX6_placeFault 6 = .ok (.iload_n 1, 1) := by decide +kernel
theorem dX6_placeFault_7 : decode cX6_placeFault 7 = .ok (.sipush 400, 3) := by decide +kernel
theorem dX6_placeFault_10 : decode cX6_placeFault 10 = .ok (.if_icmp .le 6, 3) := by decide +kernel
theorem dX6_placeFault_13 : decode cX6_placeFault 13 = .ok (.bipush 97, 2) := by decide +kernel
theorem dX6_placeFault_15 : decode cX6_placeFault 15 = .ok (.ireturn, 1) := by decide +kernel
theorem dX6_placeFault_16 : decode cX6_placeFault 16 = .ok (.aload_n 0, 1) := by decide +kernel
theorem dX6_placeFault_17 : decode cX6_placeFault 17 = .ok (.getfield 17, 3) := by decide +kernel
theorem dX6_placeFault_20 : decode cX6_placeFault 20 = .ok (.iconst 5, 1) := by decide +kernel
theorem dX6_placeFault_21 : decode cX6_placeFault 21 = .ok (.if_icmp .ge 8, 3) := by decide +kernel
theorem dX6_placeFault_24 : decode cX6_placeFault 24 = .ok (.bipush 45, 2) := by decide +kernel
theorem dX6_placeFault_26 : decode cX6_placeFault 26 = .ok (.goto 5, 3) := by decide +kernel
theorem dX6_placeFault_29 : decode cX6_placeFault 29 = .ok (.bipush 115, 2) := by decide +kernel
theorem dX6_placeFault_31 : decode cX6_placeFault 31 = .ok (.ireturn, 1) := by decide +kernel
theorem dX6_placeLake_0 : decode cX6_placeLake 0 = .ok (.aload_n 0, 1) := by decide +kernel
theorem dX6_placeLake_1 : decode cX6_placeLake 1 = .ok (.getfield 17, 3) := by decide +kernel
theorem dX6_placeLake_4 : decode cX6_placeLake 4 = .ok (.istore_n 2, 1) := by decide +kernel
theorem dX6_placeLake_5 : decode cX6_placeLake 5 = .ok (.aload_n 0, 1) := by decide +kernel
theorem dX6_placeLake_6 : decode cX6_placeLake 6 = .ok (.getfield 11, 3) := by decide +kernel
theorem dX6_placeLake_9 : decode cX6_placeLake 9 = .ok (.iload_n 2, 1) := by decide +kernel
theorem dX6_placeLake_10 : decode cX6_placeLake 10 = .ok (.aaload, 1) := by decide +kernel
theorem dX6_placeLake_11 : decode cX6_placeLake 11 = .ok (.iload_n 1, 1) := by decide +kernel
theorem dX6_placeLake_12 : decode cX6_placeLake 12 = .ok (.invokevirtual 58, 3) := by decide +kernel
theorem dX6_placeLake_15 : decode cX6_placeLake 15 = .ok (.aload_n 0, 1) := by decide +kernel
theorem dX6_placeLake_16 : decode cX6_placeLake 16 = .ok (.dup, 1) := by decide +kernel
theorem dX6_placeLake_17 : decode cX6_placeLake 17 = .ok (.getfield 17, 3) := by decide +kernel
theorem dX6_placeLake_20 : decode cX6_placeLake 20 = .ok (.iconst 1, 1) := by decide +kernel
theorem dX6_placeLake_21 : decode cX6_placeLake 21 = .ok (.iadd, 1) := by decide +kernel
theorem dX6_placeLake_22 : decode cX6_placeLake 22 = .ok (.putfield 17, 3) := by decide +kernel
theorem dX6_placeLake_25 : decode cX6_placeLake 25 = .ok (.iload_n 2, 1) := by decide +kernel
theorem dX6_placeLake_26 : decode cX6_placeLake 26 = .ok (.ireturn, 1) := by decide +kernel
theorem dX6_growFault_0 : decode cX6_growFault 0 = .ok (.aload_n 0, 1) := by decide +kernel
theorem dX6_growFault_1 : decode cX6_growFault 1 = .ok (.iload_n 1, 1) := by decide +kernel
theorem dX6_growFault_2 : decode cX6_growFault 2 = .ok (.invokevirtual 62, 3) := by decide +kernel
theorem dX6_growFault_5 : decode cX6_growFault 5 = .ok (.ifCond .ne 6, 3) := by decide +kernel
theorem dX6_growFault_8 : decode cX6_growFault 8 = .ok (.bipush 98, 2) := by decide +kernel
theorem dX6_growFault_10 : decode cX6_growFault 10 = .ok (.ireturn, 1) := by decide +kernel
theorem dX6_growFault_11 : decode cX6_growFault 11 = .ok (.iload_n 2, 1) := by decide +kernel
theorem dX6_growFault_12 : decode cX6_growFault 12 = .ok (.iconst 1, 1) := by decide +kernel
theorem dX6_growFault_13 : decode cX6_growFault 13 = .ok (.if_icmp .lt 19, 3) := by decide +kernel
theorem dX6_growFault_16 : decode cX6_growFault 16 = .ok (.iload_n 2, 1) := by decide +kernel
theorem dX6_growFault_17 : decode cX6_growFault 17 = .ok (.bipush 50, 2) := by decide +kernel
theorem dX6_growFault_19 : decode cX6_growFault 19 = .ok (.if_icmp .gt 13, 3) := by decide +kernel
theorem dX6_growFault_22 : decode cX6_growFault 22 = .ok (.iload_n 3, 1) := by decide +kernel
theorem dX6_growFault_23 : decode cX6_growFault 23 = .ok (.bipush (-40), 2) := by decide +kernel
theorem dX6_growFault_25 : decode cX6_growFault 25 = .ok (.if_icmp .lt 7, 3) := by decide +kernel
theorem dX6_growFault_28 : decode cX6_growFault 28 = .ok (.iload_n 3, 1) := by decide +kernel
theorem dX6_growFault_29 : decode cX6_growFault 29 = .ok (.ifCond .le 6, 3) := by decide +kernel
theorem dX6_growFault_32 : decode cX6_growFault 32 = .ok (.bipush 97, 2) := by decide +kernel
theorem dX6_growFault_34 : decode cX6_growFault 34 = .ok (.ireturn, 1) := by decide +kernel
theorem dX6_growFault_35 : decode cX6_growFault 35 = .ok (.aload_n 0, 1) := by decide +kernel
theorem dX6_growFault_36 : decode cX6_growFault 36 = .ok (.getfield 11, 3) := by decide +kernel
theorem dX6_growFault_39 : decode cX6_growFault 39 = .ok (.iload_n 1, 1) := by decide +kernel
theorem dX6_growFault_40 : decode cX6_growFault 40 = .ok (.aaload, 1) := by decide +kernel
theorem dX6_growFault_41 : decode cX6_growFault 41 = .ok (.getfield 66, 3) := by decide +kernel
theorem dX6_growFault_44 : decode cX6_growFault 44 = .ok (.bipush 8, 2) := by decide +kernel
theorem dX6_growFault_46 : decode cX6_growFault 46 = .ok (.if_icmp .lt 6, 3) := by decide +kernel
theorem dX6_growFault_49 : decode cX6_growFault 49 = .ok (.bipush 115, 2) := by decide +kernel
theorem dX6_growFault_51 : decode cX6_growFault 51 = .ok (.ireturn, 1) := by decide +kernel
theorem dX6_growFault_52 : decode cX6_growFault 52 = .ok (.aload_n 0, 1) := by decide +kernel
theorem dX6_growFault_53 : decode cX6_growFault 53 = .ok (.getfield 11, 3) := by decide +kernel
theorem dX6_growFault_56 : decode cX6_growFault 56 = .ok (.iload_n 1, 1) := by decide +kernel
theorem dX6_growFault_57 : decode cX6_growFault 57 = .ok (.aaload, 1) := by decide +kernel
theorem dX6_growFault_58 : decode cX6_growFault 58 = .ok (.invokevirtual 69, 3) := by decide +kernel
theorem dX6_growFault_61 : decode cX6_growFault 61 = .ok (.iload_n 2, 1) := by decide +kernel
theorem dX6_growFault_62 : decode cX6_growFault 62 = .ok (.iadd, 1) := by decide +kernel
theorem dX6_growFault_63 : decode cX6_growFault 63 = .ok (.istore 4, 2) := by decide +kernel
theorem dX6_growFault_65 : decode cX6_growFault 65 = .ok (.iconst 2, 1) := by decide +kernel
theorem dX6_growFault_66 : decode cX6_growFault 66 = .ok (.iload 4, 2) := by decide +kernel
theorem dX6_growFault_68 : decode cX6_growFault 68 = .ok (.imul, 1) := by decide +kernel
theorem dX6_growFault_69 : decode cX6_growFault 69 = .ok (.aload_n 0, 1) := by decide +kernel
theorem dX6_growFault_70 : decode cX6_growFault 70 = .ok (.getfield 11, 3) := by decide +kernel
theorem dX6_growFault_73 : decode cX6_growFault 73 = .ok (.iload_n 1, 1) := by decide +kernel
theorem dX6_growFault_74 : decode cX6_growFault 74 = .ok (.aaload, 1) := by decide +kernel
theorem dX6_growFault_75 : decode cX6_growFault 75 = .ok (.getfield 73, 3) := by decide +kernel
theorem dX6_growFault_78 : decode cX6_growFault 78 = .ok (.if_icmp .le 8, 3) := by decide +kernel
theorem dX6_growFault_81 : decode cX6_growFault 81 = .ok (.bipush 117, 2) := by decide +kernel
theorem dX6_growFault_83 : decode cX6_growFault 83 = .ok (.goto 5, 3) := by decide +kernel
theorem dX6_growFault_86 : decode cX6_growFault 86 = .ok (.bipush 45, 2) := by decide +kernel
theorem dX6_growFault_88 : decode cX6_growFault 88 = .ok (.ireturn, 1) := by decide +kernel
theorem dX6_growLayer_0 : decode cX6_growLayer 0 = .ok (.aload_n 0, 1) := by decide +kernel
theorem dX6_growLayer_1 : decode cX6_growLayer 1 = .ok (.dup, 1) := by decide +kernel
theorem dX6_growLayer_2 : decode cX6_growLayer 2 = .ok (.getfield 27, 3) := by decide +kernel
theorem dX6_growLayer_5 : decode cX6_growLayer 5 = .ok (.iload_n 2, 1) := by decide +kernel
theorem dX6_growLayer_6 : decode cX6_growLayer 6 = .ok (.iadd, 1) := by decide +kernel
theorem dX6_growLayer_7 : decode cX6_growLayer 7 = .ok (.putfield 27, 3) := by decide +kernel
theorem dX6_growLayer_10 : decode cX6_growLayer 10 = .ok (.aload_n 0, 1) := by decide +kernel
theorem dX6_growLayer_11 : decode cX6_growLayer 11 = .ok (.getfield 11, 3) := by decide +kernel
theorem dX6_growLayer_14 : decode cX6_growLayer 14 = .ok (.iload_n 1, 1) := by decide +kernel
theorem dX6_growLayer_15 : decode cX6_growLayer 15 = .ok (.aaload, 1) := by decide +kernel
theorem dX6_growLayer_16 : decode cX6_growLayer 16 = .ok (.iload_n 2, 1) := by decide +kernel
theorem dX6_growLayer_17 : decode cX6_growLayer 17 = .ok (.iload_n 3, 1) := by decide +kernel
theorem dX6_growLayer_18 : decode cX6_growLayer 18 = .ok (.invokevirtual 76, 3) := by decide +kernel
theorem dX6_growLayer_21 : decode cX6_growLayer 21 = .ok (.ireturn, 1) := by decide +kernel
theorem dX6_airFault_0 : decode cX6_airFault 0 = .ok (.iload_n 1, 1) := by decide +kernel
theorem dX6_airFault_1 : decode cX6_airFault 1 = .ok (.bipush (-40), 2) := by decide +kernel
theorem dX6_airFault_3 : decode cX6_airFault 3 = .ok (.if_icmp .lt 9, 3) := by decide +kernel
theorem dX6_airFault_6 : decode cX6_airFault 6 = .ok (.iload_n 1, 1) := by decide +kernel
theorem dX6_airFault_7 : decode cX6_airFault 7 = .ok (.bipush 20, 2) := by decide +kernel
theorem dX6_airFault_9 : decode cX6_airFault 9 = .ok (.if_icmp .le 8, 3) := by decide +kernel
theorem dX6_airFault_12 : decode cX6_airFault 12 = .ok (.bipush 97, 2) := by decide +kernel
theorem dX6_airFault_14 : decode cX6_airFault 14 = .ok (.goto 5, 3) := by decide +kernel
theorem dX6_airFault_17 : decode cX6_airFault 17 = .ok (.bipush 45, 2) := by decide +kernel
theorem dX6_airFault_19 : decode cX6_airFault 19 = .ok (.ireturn, 1) := by decide +kernel
theorem dX6_changeAir_0 : decode cX6_changeAir 0 = .ok (.aload_n 0, 1) := by decide +kernel
theorem dX6_changeAir_1 : decode cX6_changeAir 1 = .ok (.getfield 21, 3) := by decide +kernel
theorem dX6_changeAir_4 : decode cX6_changeAir 4 = .ok (.istore_n 2, 1) := by decide +kernel
theorem dX6_changeAir_5 : decode cX6_changeAir 5 = .ok (.aload_n 0, 1) := by decide +kernel
theorem dX6_changeAir_6 : decode cX6_changeAir 6 = .ok (.iload_n 1, 1) := by decide +kernel
theorem dX6_changeAir_7 : decode cX6_changeAir 7 = .ok (.putfield 21, 3) := by decide +kernel
theorem dX6_changeAir_10 : decode cX6_changeAir 10 = .ok (.iload_n 2, 1) := by decide +kernel
theorem dX6_changeAir_11 : decode cX6_changeAir 11 = .ok (.ireturn, 1) := by decide +kernel
theorem dX6_passFault_0 : decode cX6_passFault 0 = .ok (.iload_n 1, 1) := by decide +kernel
theorem dX6_passFault_1 : decode cX6_passFault 1 = .ok (.iconst 1, 1) := by decide +kernel
theorem dX6_passFault_2 : decode cX6_passFault 2 = .ok (.if_icmp .lt 9, 3) := by decide +kernel
theorem dX6_passFault_5 : decode cX6_passFault 5 = .ok (.iload_n 1, 1) := by decide +kernel
theorem dX6_passFault_6 : decode cX6_passFault 6 = .ok (.bipush 48, 2) := by decide +kernel
theorem dX6_passFault_8 : decode cX6_passFault 8 = .ok (.if_icmp .le 8, 3) := by decide +kernel
theorem dX6_passFault_11 : decode cX6_passFault 11 = .ok (.bipush 97, 2) := by decide +kernel
theorem dX6_passFault_13 : decode cX6_passFault 13 = .ok (.goto 5, 3) := by decide +kernel
theorem dX6_passFault_16 : decode cX6_passFault 16 = .ok (.bipush 45, 2) := by decide +kernel
theorem dX6_passFault_18 : decode cX6_passFault 18 = .ok (.ireturn, 1) := by decide +kernel
theorem dX6_letHoursPass_0 : decode cX6_letHoursPass 0 = .ok (.iconst 0, 1) := by decide +kernel
theorem dX6_letHoursPass_1 : decode cX6_letHoursPass 1 = .ok (.istore_n 2, 1) := by decide +kernel
theorem dX6_letHoursPass_2 : decode cX6_letHoursPass 2 = .ok (.iconst 0, 1) := by decide +kernel
theorem dX6_letHoursPass_3 : decode cX6_letHoursPass 3 = .ok (.istore_n 3, 1) := by decide +kernel
theorem dX6_letHoursPass_4 : decode cX6_letHoursPass 4 = .ok (.iload_n 3, 1) := by decide +kernel
theorem dX6_letHoursPass_5 : decode cX6_letHoursPass 5 = .ok (.iload_n 1, 1) := by decide +kernel
theorem dX6_letHoursPass_6 : decode cX6_letHoursPass 6 = .ok (.if_icmp .ge 16, 3) := by decide +kernel
theorem dX6_letHoursPass_9 : decode cX6_letHoursPass 9 = .ok (.iload_n 2, 1) := by decide +kernel
theorem dX6_letHoursPass_10 : decode cX6_letHoursPass 10 = .ok (.aload_n 0, 1) := by decide +kernel
theorem dX6_letHoursPass_11 : decode cX6_letHoursPass 11 = .ok (.invokevirtual 80, 3) := by decide +kernel
theorem dX6_letHoursPass_14 : decode cX6_letHoursPass 14 = .ok (.iadd, 1) := by decide +kernel
theorem dX6_letHoursPass_15 : decode cX6_letHoursPass 15 = .ok (.istore_n 2, 1) := by decide +kernel
theorem dX6_letHoursPass_16 : decode cX6_letHoursPass 16 = .ok (.iinc 3 1, 3) := by decide +kernel
theorem dX6_letHoursPass_19 : decode cX6_letHoursPass 19 = .ok (.goto (-15), 3) := by decide +kernel
theorem dX6_letHoursPass_22 : decode cX6_letHoursPass 22 = .ok (.iload_n 2, 1) := by decide +kernel
theorem dX6_letHoursPass_23 : decode cX6_letHoursPass 23 = .ok (.ireturn, 1) := by decide +kernel
theorem dX6_letHourPass_0 : decode cX6_letHourPass 0 = .ok (.aload_n 0, 1) := by decide +kernel
theorem dX6_letHourPass_1 : decode cX6_letHourPass 1 = .ok (.dup, 1) := by decide +kernel
theorem dX6_letHourPass_2 : decode cX6_letHourPass 2 = .ok (.getfield 24, 3) := by decide +kernel
theorem dX6_letHourPass_5 : decode cX6_letHourPass 5 = .ok (.iconst 1, 1) := by decide +kernel
theorem dX6_letHourPass_6 : decode cX6_letHourPass 6 = .ok (.iadd, 1) := by decide +kernel
theorem dX6_letHourPass_7 : decode cX6_letHourPass 7 = .ok (.putfield 24, 3) := by decide +kernel
theorem dX6_letHourPass_10 : decode cX6_letHourPass 10 = .ok (.aload_n 0, 1) := by decide +kernel
theorem dX6_letHourPass_11 : decode cX6_letHourPass 11 = .ok (.getfield 36, 3) := by decide +kernel
theorem dX6_letHourPass_14 : decode cX6_letHourPass 14 = .ok (.aload_n 0, 1) := by decide +kernel
theorem dX6_letHourPass_15 : decode cX6_letHourPass 15 = .ok (.getfield 24, 3) := by decide +kernel
theorem dX6_letHourPass_18 : decode cX6_letHourPass 18 = .ok (.invokevirtual 83, 3) := by decide +kernel
theorem dX6_letHourPass_21 : decode cX6_letHourPass 21 = .ok (.istore_n 1, 1) := by decide +kernel
theorem dX6_letHourPass_22 : decode cX6_letHourPass 22 = .ok (.iconst 0, 1) := by decide +kernel
theorem dX6_letHourPass_23 : decode cX6_letHourPass 23 = .ok (.istore_n 2, 1) := by decide +kernel
theorem dX6_letHourPass_24 : decode cX6_letHourPass 24 = .ok (.iconst 0, 1) := by decide +kernel
theorem dX6_letHourPass_25 : decode cX6_letHourPass 25 = .ok (.istore_n 3, 1) := by decide +kernel
theorem dX6_letHourPass_26 : decode cX6_letHourPass 26 = .ok (.iload_n 3, 1) := by decide +kernel
theorem dX6_letHourPass_27 : decode cX6_letHourPass 27 = .ok (.aload_n 0, 1) := by decide +kernel
theorem dX6_letHourPass_28 : decode cX6_letHourPass 28 = .ok (.getfield 17, 3) := by decide +kernel
theorem dX6_letHourPass_31 : decode cX6_letHourPass 31 = .ok (.if_icmp .ge 70, 3) := by decide +kernel
theorem dX6_letHourPass_34 : decode cX6_letHourPass 34 = .ok (.aload_n 0, 1) := by decide +kernel
theorem dX6_letHourPass_35 : decode cX6_letHourPass 35 = .ok (.getfield 11, 3) := by decide +kernel
theorem dX6_letHourPass_38 : decode cX6_letHourPass 38 = .ok (.iload_n 3, 1) := by decide +kernel
theorem dX6_letHourPass_39 : decode cX6_letHourPass 39 = .ok (.aaload, 1) := by decide +kernel
theorem dX6_letHourPass_40 : decode cX6_letHourPass 40 = .ok (.astore 4, 2) := by decide +kernel
theorem dX6_letHourPass_42 : decode cX6_letHourPass 42 = .ok (.aload 4, 2) := by decide +kernel
theorem dX6_letHourPass_44 : decode cX6_letHourPass 44 = .ok (.aload_n 0, 1) := by decide +kernel
theorem dX6_letHourPass_45 : decode cX6_letHourPass 45 = .ok (.getfield 21, 3) := by decide +kernel
theorem dX6_letHourPass_48 : decode cX6_letHourPass 48 = .ok (.invokevirtual 86, 3) := by decide +kernel
theorem dX6_letHourPass_51 : decode cX6_letHourPass 51 = .ok (.iload_n 1, 1) := by decide +kernel
theorem dX6_letHourPass_52 : decode cX6_letHourPass 52 = .ok (.ifCond .ne 8, 3) := by decide +kernel
theorem dX6_letHourPass_55 : decode cX6_letHourPass 55 = .ok (.aload 4, 2) := by decide +kernel
theorem dX6_letHourPass_57 : decode cX6_letHourPass 57 = .ok (.invokevirtual 89, 3) := by decide +kernel
theorem dX6_letHourPass_60 : decode cX6_letHourPass 60 = .ok (.iload_n 2, 1) := by decide +kernel
theorem dX6_letHourPass_61 : decode cX6_letHourPass 61 = .ok (.aload 4, 2) := by decide +kernel
theorem dX6_letHourPass_63 : decode cX6_letHourPass 63 = .ok (.iload_n 3, 1) := by decide +kernel
theorem dX6_letHourPass_64 : decode cX6_letHourPass 64 = .ok (.aload_n 0, 1) := by decide +kernel
theorem dX6_letHourPass_65 : decode cX6_letHourPass 65 = .ok (.getfield 24, 3) := by decide +kernel
theorem dX6_letHourPass_68 : decode cX6_letHourPass 68 = .ok (.aload_n 0, 1) := by decide +kernel
theorem dX6_letHourPass_69 : decode cX6_letHourPass 69 = .ok (.getfield 43, 3) := by decide +kernel
theorem dX6_letHourPass_72 : decode cX6_letHourPass 72 = .ok (.invokevirtual 92, 3) := by decide +kernel
theorem dX6_letHourPass_75 : decode cX6_letHourPass 75 = .ok (.iadd, 1) := by decide +kernel
theorem dX6_letHourPass_76 : decode cX6_letHourPass 76 = .ok (.istore_n 2, 1) := by decide +kernel
theorem dX6_letHourPass_77 : decode cX6_letHourPass 77 = .ok (.aload_n 0, 1) := by decide +kernel
theorem dX6_letHourPass_78 : decode cX6_letHourPass 78 = .ok (.dup, 1) := by decide +kernel
theorem dX6_letHourPass_79 : decode cX6_letHourPass 79 = .ok (.getfield 30, 3) := by decide +kernel
theorem dX6_letHourPass_82 : decode cX6_letHourPass 82 = .ok (.aload 4, 2) := by decide +kernel
theorem dX6_letHourPass_84 : decode cX6_letHourPass 84 = .ok (.aload_n 0, 1) := by decide +kernel
theorem dX6_letHourPass_85 : decode cX6_letHourPass 85 = .ok (.getfield 21, 3) := by decide +kernel
theorem dX6_letHourPass_88 : decode cX6_letHourPass 88 = .ok (.invokevirtual 96, 3) := by decide +kernel
theorem dX6_letHourPass_91 : decode cX6_letHourPass 91 = .ok (.iadd, 1) := by decide +kernel
theorem dX6_letHourPass_92 : decode cX6_letHourPass 92 = .ok (.putfield 30, 3) := by decide +kernel
theorem dX6_letHourPass_95 : decode cX6_letHourPass 95 = .ok (.iinc 3 1, 3) := by decide +kernel
theorem dX6_letHourPass_98 : decode cX6_letHourPass 98 = .ok (.goto (-72), 3) := by decide +kernel
theorem dX6_letHourPass_101 : decode cX6_letHourPass 101 = .ok (.iload_n 2, 1) := by decide +kernel
theorem dX6_letHourPass_102 : decode cX6_letHourPass 102 = .ok (.ireturn, 1) := by decide +kernel
theorem dX6_windowFault_0 : decode cX6_windowFault 0 = .ok (.iload_n 1, 1) := by decide +kernel
theorem dX6_windowFault_1 : decode cX6_windowFault 1 = .ok (.iload_n 2, 1) := by decide +kernel
theorem dX6_windowFault_2 : decode cX6_windowFault 2 = .ok (.if_icmp .gt 10, 3) := by decide +kernel
theorem dX6_windowFault_5 : decode cX6_windowFault 5 = .ok (.iload_n 1, 1) := by decide +kernel
theorem dX6_windowFault_6 : decode cX6_windowFault 6 = .ok (.sipush 9999, 3) := by decide +kernel
theorem dX6_windowFault_9 : decode cX6_windowFault 9 = .ok (.if_icmp .le 6, 3) := by decide +kernel
theorem dX6_windowFault_12 : decode cX6_windowFault 12 = .ok (.bipush 97, 2) := by decide +kernel
theorem dX6_windowFault_14 : decode cX6_windowFault 14 = .ok (.ireturn, 1) := by decide +kernel
theorem dX6_windowFault_15 : decode cX6_windowFault 15 = .ok (.aload_n 0, 1) := by decide +kernel
theorem dX6_windowFault_16 : decode cX6_windowFault 16 = .ok (.getfield 36, 3) := by decide +kernel
theorem dX6_windowFault_19 : decode cX6_windowFault 19 = .ok (.getfield 100, 3) := by decide +kernel
theorem dX6_windowFault_22 : decode cX6_windowFault 22 = .ok (.bipush 6, 2) := by decide +kernel
theorem dX6_windowFault_24 : decode cX6_windowFault 24 = .ok (.if_icmp .ge 11, 3) := by decide +kernel
theorem dX6_windowFault_27 : decode cX6_windowFault 27 = .ok (.iload_n 1, 1) := by decide +kernel
theorem dX6_windowFault_28 : decode cX6_windowFault 28 = .ok (.aload_n 0, 1) := by decide +kernel
theorem dX6_windowFault_29 : decode cX6_windowFault 29 = .ok (.getfield 24, 3) := by decide +kernel
theorem dX6_windowFault_32 : decode cX6_windowFault 32 = .ok (.if_icmp .gt 6, 3) := by decide +kernel
theorem dX6_windowFault_35 : decode cX6_windowFault 35 = .ok (.bipush 115, 2) := by decide +kernel
theorem dX6_windowFault_37 : decode cX6_windowFault 37 = .ok (.ireturn, 1) := by decide +kernel
theorem dX6_windowFault_38 : decode cX6_windowFault 38 = .ok (.aload_n 0, 1) := by decide +kernel
theorem dX6_windowFault_39 : decode cX6_windowFault 39 = .ok (.getfield 36, 3) := by decide +kernel
theorem dX6_windowFault_42 : decode cX6_windowFault 42 = .ok (.iload_n 1, 1) := by decide +kernel
theorem dX6_windowFault_43 : decode cX6_windowFault 43 = .ok (.iload_n 2, 1) := by decide +kernel
theorem dX6_windowFault_44 : decode cX6_windowFault 44 = .ok (.invokevirtual 103, 3) := by decide +kernel
theorem dX6_windowFault_47 : decode cX6_windowFault 47 = .ok (.ifCond .eq 8, 3) := by decide +kernel
theorem dX6_windowFault_50 : decode cX6_windowFault 50 = .ok (.bipush 117, 2) := by decide +kernel
theorem dX6_windowFault_52 : decode cX6_windowFault 52 = .ok (.goto 5, 3) := by decide +kernel
theorem dX6_windowFault_55 : decode cX6_windowFault 55 = .ok (.bipush 45, 2) := by decide +kernel
theorem dX6_windowFault_57 : decode cX6_windowFault 57 = .ok (.ireturn, 1) := by decide +kernel
theorem dX6_openFault_0 : decode cX6_openFault 0 = .ok (.aload_n 0, 1) := by decide +kernel
theorem dX6_openFault_1 : decode cX6_openFault 1 = .ok (.getfield 36, 3) := by decide +kernel
theorem dX6_openFault_4 : decode cX6_openFault 4 = .ok (.iload_n 1, 1) := by decide +kernel
theorem dX6_openFault_5 : decode cX6_openFault 5 = .ok (.invokevirtual 107, 3) := by decide +kernel
theorem dX6_openFault_8 : decode cX6_openFault 8 = .ok (.ifCond .eq 8, 3) := by decide +kernel
theorem dX6_openFault_11 : decode cX6_openFault 11 = .ok (.bipush 45, 2) := by decide +kernel
theorem dX6_openFault_13 : decode cX6_openFault 13 = .ok (.goto 5, 3) := by decide +kernel
theorem dX6_openFault_16 : decode cX6_openFault 16 = .ok (.bipush 98, 2) := by decide +kernel
theorem dX6_openFault_18 : decode cX6_openFault 18 = .ok (.ireturn, 1) := by decide +kernel
theorem dX6_ringFault_0 : decode cX6_ringFault 0 = .ok (.aload_n 0, 1) := by decide +kernel
theorem dX6_ringFault_1 : decode cX6_ringFault 1 = .ok (.iload_n 1, 1) := by decide +kernel
theorem dX6_ringFault_2 : decode cX6_ringFault 2 = .ok (.invokevirtual 62, 3) := by decide +kernel
theorem dX6_ringFault_5 : decode cX6_ringFault 5 = .ok (.ifCond .eq 16, 3) := by decide +kernel
theorem dX6_ringFault_8 : decode cX6_ringFault 8 = .ok (.aload_n 0, 1) := by decide +kernel
theorem dX6_ringFault_9 : decode cX6_ringFault 9 = .ok (.getfield 11, 3) := by decide +kernel
theorem dX6_ringFault_12 : decode cX6_ringFault 12 = .ok (.iload_n 1, 1) := by decide +kernel
theorem dX6_ringFault_13 : decode cX6_ringFault 13 = .ok (.aaload, 1) := by decide +kernel
theorem dX6_ringFault_14 : decode cX6_ringFault 14 = .ok (.iload_n 2, 1) := by decide +kernel
theorem dX6_ringFault_15 : decode cX6_ringFault 15 = .ok (.invokevirtual 110, 3) := by decide +kernel
theorem dX6_ringFault_18 : decode cX6_ringFault 18 = .ok (.ifCond .ne 6, 3) := by decide +kernel
theorem dX6_ringFault_21 : decode cX6_ringFault 21 = .ok (.bipush 98, 2) := by decide +kernel
theorem dX6_ringFault_23 : decode cX6_ringFault 23 = .ok (.ireturn, 1) := by decide +kernel
theorem dX6_ringFault_24 : decode cX6_ringFault 24 = .ok (.aload_n 0, 1) := by decide +kernel
theorem dX6_ringFault_25 : decode cX6_ringFault 25 = .ok (.getfield 11, 3) := by decide +kernel
theorem dX6_ringFault_28 : decode cX6_ringFault 28 = .ok (.iload_n 1, 1) := by decide +kernel
theorem dX6_ringFault_29 : decode cX6_ringFault 29 = .ok (.aaload, 1) := by decide +kernel
theorem dX6_ringFault_30 : decode cX6_ringFault 30 = .ok (.getfield 113, 3) := by decide +kernel
theorem dX6_ringFault_33 : decode cX6_ringFault 33 = .ok (.iload_n 2, 1) := by decide +kernel
theorem dX6_ringFault_34 : decode cX6_ringFault 34 = .ok (.iaload, 1) := by decide +kernel
theorem dX6_ringFault_35 : decode cX6_ringFault 35 = .ok (.ifCond .ne 8, 3) := by decide +kernel
theorem dX6_ringFault_38 : decode cX6_ringFault 38 = .ok (.bipush 117, 2) := by decide +kernel
theorem dX6_ringFault_40 : decode cX6_ringFault 40 = .ok (.goto 5, 3) := by decide +kernel
theorem dX6_ringFault_43 : decode cX6_ringFault 43 = .ok (.bipush 45, 2) := by decide +kernel
theorem dX6_ringFault_45 : decode cX6_ringFault 45 = .ok (.ireturn, 1) := by decide +kernel
theorem dX6_ring_0 : decode cX6_ring 0 = .ok (.aload_n 0, 1) := by decide +kernel
theorem dX6_ring_1 : decode cX6_ring 1 = .ok (.getfield 11, 3) := by decide +kernel
theorem dX6_ring_4 : decode cX6_ring 4 = .ok (.iload_n 1, 1) := by decide +kernel
theorem dX6_ring_5 : decode cX6_ring 5 = .ok (.aaload, 1) := by decide +kernel
theorem dX6_ring_6 : decode cX6_ring 6 = .ok (.iload_n 2, 1) := by decide +kernel
theorem dX6_ring_7 : decode cX6_ring 7 = .ok (.invokevirtual 117, 3) := by decide +kernel
theorem dX6_ring_10 : decode cX6_ring 10 = .ok (.istore_n 3, 1) := by decide +kernel
theorem dX6_ring_11 : decode cX6_ring 11 = .ok (.aload_n 0, 1) := by decide +kernel
theorem dX6_ring_12 : decode cX6_ring 12 = .ok (.getfield 43, 3) := by decide +kernel
theorem dX6_ring_15 : decode cX6_ring 15 = .ok (.bipush 115, 2) := by decide +kernel
theorem dX6_ring_17 : decode cX6_ring 17 = .ok (.iload_n 1, 1) := by decide +kernel
theorem dX6_ring_18 : decode cX6_ring 18 = .ok (.iload_n 3, 1) := by decide +kernel
theorem dX6_ring_19 : decode cX6_ring 19 = .ok (.aload_n 0, 1) := by decide +kernel
theorem dX6_ring_20 : decode cX6_ring 20 = .ok (.getfield 24, 3) := by decide +kernel
theorem dX6_ring_23 : decode cX6_ring 23 = .ok (.invokevirtual 120, 3) := by decide +kernel
theorem dX6_ring_26 : decode cX6_ring 26 = .ok (.iload_n 3, 1) := by decide +kernel
theorem dX6_ring_27 : decode cX6_ring 27 = .ok (.ireturn, 1) := by decide +kernel
theorem dX6_commandFault_0 : decode cX6_commandFault 0 = .ok (.aload_n 1, 1) := by decide +kernel
theorem dX6_commandFault_1 : decode cX6_commandFault 1 = .ok (.getfield 124, 3) := by decide +kernel
theorem dX6_commandFault_4 : decode cX6_commandFault 4 = .ok (.astore_n 2, 1) := by decide +kernel
theorem dX6_commandFault_5 : decode cX6_commandFault 5 = .ok (.getstatic 129, 3) := by decide +kernel
theorem dX6_commandFault_8 : decode cX6_commandFault 8 = .ok (.aload_n 1, 1) := by decide +kernel
theorem dX6_commandFault_9 : decode cX6_commandFault 9 = .ok (.getfield 134, 3) := by decide +kernel
theorem dX6_commandFault_12 : decode cX6_commandFault 12 = .ok (.invokevirtual 138, 3) := by decide +kernel
theorem dX6_commandFault_15 : decode cX6_commandFault 15 = .ok (.iaload, 1) := by decide +kernel
theorem dX6_commandFault_16 : decode cX6_commandFault 16 = .ok (.tableswitch 97 1 6 #[40, 48, 62, 70, 78, 89], 40) := by decide +kernel
theorem dX6_commandFault_56 : decode cX6_commandFault 56 = .ok (.aload_n 0, 1) := by decide +kernel
theorem dX6_commandFault_57 : decode cX6_commandFault 57 = .ok (.aload_n 2, 1) := by decide +kernel
theorem dX6_commandFault_58 : decode cX6_commandFault 58 = .ok (.iconst 0, 1) := by decide +kernel
theorem dX6_commandFault_59 : decode cX6_commandFault 59 = .ok (.iaload, 1) := by decide +kernel
theorem dX6_commandFault_60 : decode cX6_commandFault 60 = .ok (.invokevirtual 143, 3) := by decide +kernel
theorem dX6_commandFault_63 : decode cX6_commandFault 63 = .ok (.ireturn, 1) := by decide +kernel
theorem dX6_commandFault_64 : decode cX6_commandFault 64 = .ok (.aload_n 0, 1) := by decide +kernel
theorem dX6_commandFault_65 : decode cX6_commandFault 65 = .ok (.aload_n 2, 1) := by decide +kernel
theorem dX6_commandFault_66 : decode cX6_commandFault 66 = .ok (.iconst 0, 1) := by decide +kernel
theorem dX6_commandFault_67 : decode cX6_commandFault 67 = .ok (.iaload, 1) := by decide +kernel
theorem dX6_commandFault_68 : decode cX6_commandFault 68 = .ok (.aload_n 2, 1) := by decide +kernel
theorem dX6_commandFault_69 : decode cX6_commandFault 69 = .ok (.iconst 1, 1) := by decide +kernel
theorem dX6_commandFault_70 : decode cX6_commandFault 70 = .ok (.iaload, 1) := by decide +kernel
theorem dX6_commandFault_71 : decode cX6_commandFault 71 = .ok (.aload_n 2, 1) := by decide +kernel
theorem dX6_commandFault_72 : decode cX6_commandFault 72 = .ok (.iconst 2, 1) := by decide +kernel
theorem dX6_commandFault_73 : decode cX6_commandFault 73 = .ok (.iaload, 1) := by decide +kernel
theorem dX6_commandFault_74 : decode cX6_commandFault 74 = .ok (.invokevirtual 147, 3) := by decide +kernel
theorem dX6_commandFault_77 : decode cX6_commandFault 77 = .ok (.ireturn, 1) := by decide +kernel
theorem dX6_commandFault_78 : decode cX6_commandFault 78 = .ok (.aload_n 0, 1) := by decide +kernel
theorem dX6_commandFault_79 : decode cX6_commandFault 79 = .ok (.aload_n 2, 1) := by decide +kernel
theorem dX6_commandFault_80 : decode cX6_commandFault 80 = .ok (.iconst 0, 1) := by decide +kernel
theorem dX6_commandFault_81 : decode cX6_commandFault 81 = .ok (.iaload, 1) := by decide +kernel
theorem dX6_commandFault_82 : decode cX6_commandFault 82 = .ok (.invokevirtual 151, 3) := by decide +kernel
theorem dX6_commandFault_85 : decode cX6_commandFault 85 = .ok (.ireturn, 1) := by decide +kernel
theorem dX6_commandFault_86 : decode cX6_commandFault 86 = .ok (.aload_n 0, 1) := by decide +kernel
theorem dX6_commandFault_87 : decode cX6_commandFault 87 = .ok (.aload_n 2, 1) := by decide +kernel
theorem dX6_commandFault_88 : decode cX6_commandFault 88 = .ok (.iconst 0, 1) := by decide +kernel
theorem dX6_commandFault_89 : decode cX6_commandFault 89 = .ok (.iaload, 1) := by decide +kernel
theorem dX6_commandFault_90 : decode cX6_commandFault 90 = .ok (.invokevirtual 154, 3) := by decide +kernel
theorem dX6_commandFault_93 : decode cX6_commandFault 93 = .ok (.ireturn, 1) := by decide +kernel
theorem dX6_commandFault_94 : decode cX6_commandFault 94 = .ok (.aload_n 0, 1) := by decide +kernel
theorem dX6_commandFault_95 : decode cX6_commandFault 95 = .ok (.aload_n 2, 1) := by decide +kernel
theorem dX6_commandFault_96 : decode cX6_commandFault 96 = .ok (.iconst 0, 1) := by decide +kernel
theorem dX6_commandFault_97 : decode cX6_commandFault 97 = .ok (.iaload, 1) := by decide +kernel
theorem dX6_commandFault_98 : decode cX6_commandFault 98 = .ok (.aload_n 2, 1) := by decide +kernel
theorem dX6_commandFault_99 : decode cX6_commandFault 99 = .ok (.iconst 1, 1) := by decide +kernel
theorem dX6_commandFault_100 : decode cX6_commandFault 100 = .ok (.iaload, 1) := by decide +kernel
theorem dX6_commandFault_101 : decode cX6_commandFault 101 = .ok (.invokevirtual 157, 3) := by decide +kernel
theorem dX6_commandFault_104 : decode cX6_commandFault 104 = .ok (.ireturn, 1) := by decide +kernel
theorem dX6_commandFault_105 : decode cX6_commandFault 105 = .ok (.aload_n 0, 1) := by decide +kernel
theorem dX6_commandFault_106 : decode cX6_commandFault 106 = .ok (.aload_n 2, 1) := by decide +kernel
theorem dX6_commandFault_107 : decode cX6_commandFault 107 = .ok (.iconst 0, 1) := by decide +kernel
theorem dX6_commandFault_108 : decode cX6_commandFault 108 = .ok (.iaload, 1) := by decide +kernel
theorem dX6_commandFault_109 : decode cX6_commandFault 109 = .ok (.invokevirtual 161, 3) := by decide +kernel
theorem dX6_commandFault_112 : decode cX6_commandFault 112 = .ok (.ireturn, 1) := by decide +kernel
theorem dX6_commandFault_113 : decode cX6_commandFault 113 = .ok (.aload_n 0, 1) := by decide +kernel
theorem dX6_commandFault_114 : decode cX6_commandFault 114 = .ok (.aload_n 2, 1) := by decide +kernel
theorem dX6_commandFault_115 : decode cX6_commandFault 115 = .ok (.iconst 0, 1) := by decide +kernel
theorem dX6_commandFault_116 : decode cX6_commandFault 116 = .ok (.iaload, 1) := by decide +kernel
theorem dX6_commandFault_117 : decode cX6_commandFault 117 = .ok (.aload_n 2, 1) := by decide +kernel
theorem dX6_commandFault_118 : decode cX6_commandFault 118 = .ok (.iconst 1, 1) := by decide +kernel
theorem dX6_commandFault_119 : decode cX6_commandFault 119 = .ok (.iaload, 1) := by decide +kernel
theorem dX6_commandFault_120 : decode cX6_commandFault 120 = .ok (.invokevirtual 164, 3) := by decide +kernel
theorem dX6_commandFault_123 : decode cX6_commandFault 123 = .ok (.ireturn, 1) := by decide +kernel
theorem dX6_carryOut_0 : decode cX6_carryOut 0 = .ok (.aload_n 1, 1) := by decide +kernel
theorem dX6_carryOut_1 : decode cX6_carryOut 1 = .ok (.getfield 124, 3) := by decide +kernel
theorem dX6_carryOut_4 : decode cX6_carryOut 4 = .ok (.astore_n 2, 1) := by decide +kernel
theorem dX6_carryOut_5 : decode cX6_carryOut 5 = .ok (.getstatic 129, 3) := by decide +kernel
theorem dX6_carryOut_8 : decode cX6_carryOut 8 = .ok (.aload_n 1, 1) := by decide +kernel
theorem dX6_carryOut_9 : decode cX6_carryOut 9 = .ok (.getfield 134, 3) := by decide +kernel
theorem dX6_carryOut_12 : decode cX6_carryOut 12 = .ok (.invokevirtual 138, 3) := by decide +kernel
theorem dX6_carryOut_15 : decode cX6_carryOut 15 = .ok (.iaload, 1) := by decide +kernel
theorem dX6_carryOut_16 : decode cX6_carryOut 16 = .ok (.tableswitch 121 1 6 #[40, 51, 68, 79, 90, 107], 40) := by decide +kernel
theorem dX6_carryOut_56 : decode cX6_carryOut 56 = .ok (.aload_n 0, 1) := by decide +kernel
theorem dX6_carryOut_57 : decode cX6_carryOut 57 = .ok (.aload_n 2, 1) := by decide +kernel
theorem dX6_carryOut_58 : decode cX6_carryOut 58 = .ok (.iconst 0, 1) := by decide +kernel
theorem dX6_carryOut_59 : decode cX6_carryOut 59 = .ok (.iaload, 1) := by decide +kernel
theorem dX6_carryOut_60 : decode cX6_carryOut 60 = .ok (.invokevirtual 167, 3) := by decide +kernel
theorem dX6_carryOut_63 : decode cX6_carryOut 63 = .ok (.pop, 1) := by decide +kernel
theorem dX6_carryOut_64 : decode cX6_carryOut 64 = .ok (.goto 84, 3) := by decide +kernel
theorem dX6_carryOut_67 : decode cX6_carryOut 67 = .ok (.aload_n 0, 1) := by decide +kernel
theorem dX6_carryOut_68 : decode cX6_carryOut 68 = .ok (.aload_n 2, 1) := by decide +kernel
theorem dX6_carryOut_69 : decode cX6_carryOut 69 = .ok (.iconst 0, 1) := by decide +kernel
theorem dX6_carryOut_70 : decode cX6_carryOut 70 = .ok (.iaload, 1) := by decide +kernel
theorem dX6_carryOut_71 : decode cX6_carryOut 71 = .ok (.aload_n 2, 1) := by decide +kernel
theorem dX6_carryOut_72 : decode cX6_carryOut 72 = .ok (.iconst 1, 1) := by decide +kernel
theorem dX6_carryOut_73 : decode cX6_carryOut 73 = .ok (.iaload, 1) := by decide +kernel
theorem dX6_carryOut_74 : decode cX6_carryOut 74 = .ok (.aload_n 2, 1) := by decide +kernel
theorem dX6_carryOut_75 : decode cX6_carryOut 75 = .ok (.iconst 2, 1) := by decide +kernel
theorem dX6_carryOut_76 : decode cX6_carryOut 76 = .ok (.iaload, 1) := by decide +kernel
theorem dX6_carryOut_77 : decode cX6_carryOut 77 = .ok (.invokevirtual 170, 3) := by decide +kernel
theorem dX6_carryOut_80 : decode cX6_carryOut 80 = .ok (.pop, 1) := by decide +kernel
theorem dX6_carryOut_81 : decode cX6_carryOut 81 = .ok (.goto 67, 3) := by decide +kernel
theorem dX6_carryOut_84 : decode cX6_carryOut 84 = .ok (.aload_n 0, 1) := by decide +kernel
theorem dX6_carryOut_85 : decode cX6_carryOut 85 = .ok (.aload_n 2, 1) := by decide +kernel
theorem dX6_carryOut_86 : decode cX6_carryOut 86 = .ok (.iconst 0, 1) := by decide +kernel
theorem dX6_carryOut_87 : decode cX6_carryOut 87 = .ok (.iaload, 1) := by decide +kernel
theorem dX6_carryOut_88 : decode cX6_carryOut 88 = .ok (.invokevirtual 174, 3) := by decide +kernel
theorem dX6_carryOut_91 : decode cX6_carryOut 91 = .ok (.pop, 1) := by decide +kernel
theorem dX6_carryOut_92 : decode cX6_carryOut 92 = .ok (.goto 56, 3) := by decide +kernel
theorem dX6_carryOut_95 : decode cX6_carryOut 95 = .ok (.aload_n 0, 1) := by decide +kernel
theorem dX6_carryOut_96 : decode cX6_carryOut 96 = .ok (.aload_n 2, 1) := by decide +kernel
theorem dX6_carryOut_97 : decode cX6_carryOut 97 = .ok (.iconst 0, 1) := by decide +kernel
theorem dX6_carryOut_98 : decode cX6_carryOut 98 = .ok (.iaload, 1) := by decide +kernel
theorem dX6_carryOut_99 : decode cX6_carryOut 99 = .ok (.invokevirtual 177, 3) := by decide +kernel
theorem dX6_carryOut_102 : decode cX6_carryOut 102 = .ok (.pop, 1) := by decide +kernel
theorem dX6_carryOut_103 : decode cX6_carryOut 103 = .ok (.goto 45, 3) := by decide +kernel
theorem dX6_carryOut_106 : decode cX6_carryOut 106 = .ok (.aload_n 0, 1) := by decide +kernel
theorem dX6_carryOut_107 : decode cX6_carryOut 107 = .ok (.getfield 36, 3) := by decide +kernel
theorem dX6_carryOut_110 : decode cX6_carryOut 110 = .ok (.aload_n 2, 1) := by decide +kernel
theorem dX6_carryOut_111 : decode cX6_carryOut 111 = .ok (.iconst 0, 1) := by decide +kernel
theorem dX6_carryOut_112 : decode cX6_carryOut 112 = .ok (.iaload, 1) := by decide +kernel
theorem dX6_carryOut_113 : decode cX6_carryOut 113 = .ok (.aload_n 2, 1) := by decide +kernel
theorem dX6_carryOut_114 : decode cX6_carryOut 114 = .ok (.iconst 1, 1) := by decide +kernel
theorem dX6_carryOut_115 : decode cX6_carryOut 115 = .ok (.iaload, 1) := by decide +kernel
theorem dX6_carryOut_116 : decode cX6_carryOut 116 = .ok (.invokevirtual 180, 3) := by decide +kernel
theorem dX6_carryOut_119 : decode cX6_carryOut 119 = .ok (.pop, 1) := by decide +kernel
theorem dX6_carryOut_120 : decode cX6_carryOut 120 = .ok (.goto 28, 3) := by decide +kernel
theorem dX6_carryOut_123 : decode cX6_carryOut 123 = .ok (.aload_n 0, 1) := by decide +kernel
theorem dX6_carryOut_124 : decode cX6_carryOut 124 = .ok (.getfield 36, 3) := by decide +kernel
theorem dX6_carryOut_127 : decode cX6_carryOut 127 = .ok (.aload_n 2, 1) := by decide +kernel
theorem dX6_carryOut_128 : decode cX6_carryOut 128 = .ok (.iconst 0, 1) := by decide +kernel
theorem dX6_carryOut_129 : decode cX6_carryOut 129 = .ok (.iaload, 1) := by decide +kernel
theorem dX6_carryOut_130 : decode cX6_carryOut 130 = .ok (.invokevirtual 183, 3) := by decide +kernel
theorem dX6_carryOut_133 : decode cX6_carryOut 133 = .ok (.pop, 1) := by decide +kernel
theorem dX6_carryOut_134 : decode cX6_carryOut 134 = .ok (.goto 14, 3) := by decide +kernel
theorem dX6_carryOut_137 : decode cX6_carryOut 137 = .ok (.aload_n 0, 1) := by decide +kernel
theorem dX6_carryOut_138 : decode cX6_carryOut 138 = .ok (.aload_n 2, 1) := by decide +kernel
theorem dX6_carryOut_139 : decode cX6_carryOut 139 = .ok (.iconst 0, 1) := by decide +kernel
theorem dX6_carryOut_140 : decode cX6_carryOut 140 = .ok (.iaload, 1) := by decide +kernel
theorem dX6_carryOut_141 : decode cX6_carryOut 141 = .ok (.aload_n 2, 1) := by decide +kernel
theorem dX6_carryOut_142 : decode cX6_carryOut 142 = .ok (.iconst 1, 1) := by decide +kernel
theorem dX6_carryOut_143 : decode cX6_carryOut 143 = .ok (.iaload, 1) := by decide +kernel
theorem dX6_carryOut_144 : decode cX6_carryOut 144 = .ok (.invokevirtual 186, 3) := by decide +kernel
theorem dX6_carryOut_147 : decode cX6_carryOut 147 = .ok (.pop, 1) := by decide +kernel
theorem dX6_carryOut_148 : decode cX6_carryOut 148 = .ok (.return_, 1) := by decide +kernel
theorem dX6_lakeRanked_0 : decode cX6_lakeRanked 0 = .ok (.iconst 0, 1) := by decide +kernel
theorem dX6_lakeRanked_1 : decode cX6_lakeRanked 1 = .ok (.istore_n 2, 1) := by decide +kernel
theorem dX6_lakeRanked_2 : decode cX6_lakeRanked 2 = .ok (.iload_n 2, 1) := by decide +kernel
theorem dX6_lakeRanked_3 : decode cX6_lakeRanked 3 = .ok (.aload_n 0, 1) := by decide +kernel
theorem dX6_lakeRanked_4 : decode cX6_lakeRanked 4 = .ok (.getfield 17, 3) := by decide +kernel
theorem dX6_lakeRanked_7 : decode cX6_lakeRanked 7 = .ok (.if_icmp .ge 20, 3) := by decide +kernel
theorem dX6_lakeRanked_10 : decode cX6_lakeRanked 10 = .ok (.aload_n 0, 1) := by decide +kernel
theorem dX6_lakeRanked_11 : decode cX6_lakeRanked 11 = .ok (.iload_n 2, 1) := by decide +kernel
theorem dX6_lakeRanked_12 : decode cX6_lakeRanked 12 = .ok (.invokevirtual 189, 3) := by decide +kernel
theorem dX6_lakeRanked_15 : decode cX6_lakeRanked 15 = .ok (.iload_n 1, 1) := by decide +kernel
theorem dX6_lakeRanked_16 : decode cX6_lakeRanked 16 = .ok (.if_icmp .ne 5, 3) := by decide +kernel
theorem dX6_lakeRanked_19 : decode cX6_lakeRanked 19 = .ok (.iload_n 2, 1) := by decide +kernel
theorem dX6_lakeRanked_20 : decode cX6_lakeRanked 20 = .ok (.ireturn, 1) := by decide +kernel
theorem dX6_lakeRanked_21 : decode cX6_lakeRanked 21 = .ok (.iinc 2 1, 3) := by decide +kernel
theorem dX6_lakeRanked_24 : decode cX6_lakeRanked 24 = .ok (.goto (-22), 3) := by decide +kernel
theorem dX6_lakeRanked_27 : decode cX6_lakeRanked 27 = .ok (.iconst (-1), 1) := by decide +kernel
theorem dX6_lakeRanked_28 : decode cX6_lakeRanked 28 = .ok (.ireturn, 1) := by decide +kernel
theorem dX6_rankOf_0 : decode cX6_rankOf 0 = .ok (.iconst 0, 1) := by decide +kernel
theorem dX6_rankOf_1 : decode cX6_rankOf 1 = .ok (.istore_n 2, 1) := by decide +kernel
theorem dX6_rankOf_2 : decode cX6_rankOf 2 = .ok (.iconst 0, 1) := by decide +kernel
theorem dX6_rankOf_3 : decode cX6_rankOf 3 = .ok (.istore_n 3, 1) := by decide +kernel
theorem dX6_rankOf_4 : decode cX6_rankOf 4 = .ok (.iload_n 3, 1) := by decide +kernel
theorem dX6_rankOf_5 : decode cX6_rankOf 5 = .ok (.aload_n 0, 1) := by decide +kernel
theorem dX6_rankOf_6 : decode cX6_rankOf 6 = .ok (.getfield 17, 3) := by decide +kernel
theorem dX6_rankOf_9 : decode cX6_rankOf 9 = .ok (.if_icmp .ge 26, 3) := by decide +kernel
theorem dX6_rankOf_12 : decode cX6_rankOf 12 = .ok (.iload_n 3, 1) := by decide +kernel
theorem dX6_rankOf_13 : decode cX6_rankOf 13 = .ok (.iload_n 1, 1) := by decide +kernel
theorem dX6_rankOf_14 : decode cX6_rankOf 14 = .ok (.if_icmp .eq 15, 3) := by decide +kernel
theorem dX6_rankOf_17 : decode cX6_rankOf 17 = .ok (.aload_n 0, 1) := by decide +kernel
theorem dX6_rankOf_18 : decode cX6_rankOf 18 = .ok (.iload_n 3, 1) := by decide +kernel
theorem dX6_rankOf_19 : decode cX6_rankOf 19 = .ok (.iload_n 1, 1) := by decide +kernel
theorem dX6_rankOf_20 : decode cX6_rankOf 20 = .ok (.invokevirtual 192, 3) := by decide +kernel
theorem dX6_rankOf_23 : decode cX6_rankOf 23 = .ok (.ifCond .eq 6, 3) := by decide +kernel
theorem dX6_rankOf_26 : decode cX6_rankOf 26 = .ok (.iinc 2 1, 3) := by decide +kernel
theorem dX6_rankOf_29 : decode cX6_rankOf 29 = .ok (.iinc 3 1, 3) := by decide +kernel
theorem dX6_rankOf_32 : decode cX6_rankOf 32 = .ok (.goto (-28), 3) := by decide +kernel
theorem dX6_rankOf_35 : decode cX6_rankOf 35 = .ok (.iload_n 2, 1) := by decide +kernel
theorem dX6_rankOf_36 : decode cX6_rankOf 36 = .ok (.ireturn, 1) := by decide +kernel
theorem dX6_ranksBefore_0 : decode cX6_ranksBefore 0 = .ok (.aload_n 0, 1) := by decide +kernel
theorem dX6_ranksBefore_1 : decode cX6_ranksBefore 1 = .ok (.getfield 11, 3) := by decide +kernel
theorem dX6_ranksBefore_4 : decode cX6_ranksBefore 4 = .ok (.iload_n 1, 1) := by decide +kernel
theorem dX6_ranksBefore_5 : decode cX6_ranksBefore 5 = .ok (.aaload, 1) := by decide +kernel
theorem dX6_ranksBefore_6 : decode cX6_ranksBefore 6 = .ok (.invokevirtual 69, 3) := by decide +kernel
theorem dX6_ranksBefore_9 : decode cX6_ranksBefore 9 = .ok (.istore_n 3, 1) := by decide +kernel
theorem dX6_ranksBefore_10 : decode cX6_ranksBefore 10 = .ok (.aload_n 0, 1) := by decide +kernel
theorem dX6_ranksBefore_11 : decode cX6_ranksBefore 11 = .ok (.getfield 11, 3) := by decide +kernel
theorem dX6_ranksBefore_14 : decode cX6_ranksBefore 14 = .ok (.iload_n 2, 1) := by decide +kernel
theorem dX6_ranksBefore_15 : decode cX6_ranksBefore 15 = .ok (.aaload, 1) := by decide +kernel
theorem dX6_ranksBefore_16 : decode cX6_ranksBefore 16 = .ok (.invokevirtual 69, 3) := by decide +kernel
theorem dX6_ranksBefore_19 : decode cX6_ranksBefore 19 = .ok (.istore 4, 2) := by decide +kernel
theorem dX6_ranksBefore_21 : decode cX6_ranksBefore 21 = .ok (.iload_n 3, 1) := by decide +kernel
theorem dX6_ranksBefore_22 : decode cX6_ranksBefore 22 = .ok (.iload 4, 2) := by decide +kernel
theorem dX6_ranksBefore_24 : decode cX6_ranksBefore 24 = .ok (.if_icmp .eq 15, 3) := by decide +kernel
theorem dX6_ranksBefore_27 : decode cX6_ranksBefore 27 = .ok (.iload_n 3, 1) := by decide +kernel
theorem dX6_ranksBefore_28 : decode cX6_ranksBefore 28 = .ok (.iload 4, 2) := by decide +kernel
theorem dX6_ranksBefore_30 : decode cX6_ranksBefore 30 = .ok (.if_icmp .le 7, 3) := by decide +kernel
theorem dX6_ranksBefore_33 : decode cX6_ranksBefore 33 = .ok (.iconst 1, 1) := by decide +kernel
theorem dX6_ranksBefore_34 : decode cX6_ranksBefore 34 = .ok (.goto 4, 3) := by decide +kernel
theorem dX6_ranksBefore_37 : decode cX6_ranksBefore 37 = .ok (.iconst 0, 1) := by decide +kernel
theorem dX6_ranksBefore_38 : decode cX6_ranksBefore 38 = .ok (.ireturn, 1) := by decide +kernel
theorem dX6_ranksBefore_39 : decode cX6_ranksBefore 39 = .ok (.aload_n 0, 1) := by decide +kernel
theorem dX6_ranksBefore_40 : decode cX6_ranksBefore 40 = .ok (.getfield 11, 3) := by decide +kernel
theorem dX6_ranksBefore_43 : decode cX6_ranksBefore 43 = .ok (.iload_n 1, 1) := by decide +kernel
theorem dX6_ranksBefore_44 : decode cX6_ranksBefore 44 = .ok (.aaload, 1) := by decide +kernel
theorem dX6_ranksBefore_45 : decode cX6_ranksBefore 45 = .ok (.getfield 195, 3) := by decide +kernel
theorem dX6_ranksBefore_48 : decode cX6_ranksBefore 48 = .ok (.aload_n 0, 1) := by decide +kernel
theorem dX6_ranksBefore_49 : decode cX6_ranksBefore 49 = .ok (.getfield 11, 3) := by decide +kernel
theorem dX6_ranksBefore_52 : decode cX6_ranksBefore 52 = .ok (.iload_n 2, 1) := by decide +kernel
theorem dX6_ranksBefore_53 : decode cX6_ranksBefore 53 = .ok (.aaload, 1) := by decide +kernel
theorem dX6_ranksBefore_54 : decode cX6_ranksBefore 54 = .ok (.getfield 195, 3) := by decide +kernel
theorem dX6_ranksBefore_57 : decode cX6_ranksBefore 57 = .ok (.if_icmp .eq 30, 3) := by decide +kernel
theorem dX6_ranksBefore_60 : decode cX6_ranksBefore 60 = .ok (.aload_n 0, 1) := by decide +kernel
theorem dX6_ranksBefore_61 : decode cX6_ranksBefore 61 = .ok (.getfield 11, 3) := by decide +kernel
theorem dX6_ranksBefore_64 : decode cX6_ranksBefore 64 = .ok (.iload_n 1, 1) := by decide +kernel
theorem dX6_ranksBefore_65 : decode cX6_ranksBefore 65 = .ok (.aaload, 1) := by decide +kernel
theorem dX6_ranksBefore_66 : decode cX6_ranksBefore 66 = .ok (.getfield 195, 3) := by decide +kernel
theorem dX6_ranksBefore_69 : decode cX6_ranksBefore 69 = .ok (.aload_n 0, 1) := by decide +kernel
theorem dX6_ranksBefore_70 : decode cX6_ranksBefore 70 = .ok (.getfield 11, 3) := by decide +kernel
theorem dX6_ranksBefore_73 : decode cX6_ranksBefore 73 = .ok (.iload_n 2, 1) := by decide +kernel
theorem dX6_ranksBefore_74 : decode cX6_ranksBefore 74 = .ok (.aaload, 1) := by decide +kernel
theorem dX6_ranksBefore_75 : decode cX6_ranksBefore 75 = .ok (.getfield 195, 3) := by decide +kernel
theorem dX6_ranksBefore_78 : decode cX6_ranksBefore 78 = .ok (.if_icmp .le 7, 3) := by decide +kernel
theorem dX6_ranksBefore_81 : decode cX6_ranksBefore 81 = .ok (.iconst 1, 1) := by decide +kernel
theorem dX6_ranksBefore_82 : decode cX6_ranksBefore 82 = .ok (.goto 4, 3) := by decide +kernel
theorem dX6_ranksBefore_85 : decode cX6_ranksBefore 85 = .ok (.iconst 0, 1) := by decide +kernel
theorem dX6_ranksBefore_86 : decode cX6_ranksBefore 86 = .ok (.ireturn, 1) := by decide +kernel
theorem dX6_ranksBefore_87 : decode cX6_ranksBefore 87 = .ok (.iload_n 1, 1) := by decide +kernel
theorem dX6_ranksBefore_88 : decode cX6_ranksBefore 88 = .ok (.iload_n 2, 1) := by decide +kernel
theorem dX6_ranksBefore_89 : decode cX6_ranksBefore 89 = .ok (.if_icmp .ge 7, 3) := by decide +kernel
theorem dX6_ranksBefore_92 : decode cX6_ranksBefore 92 = .ok (.iconst 1, 1) := by decide +kernel
theorem dX6_ranksBefore_93 : decode cX6_ranksBefore 93 = .ok (.goto 4, 3) := by decide +kernel
theorem dX6_ranksBefore_96 : decode cX6_ranksBefore 96 = .ok (.iconst 0, 1) := by decide +kernel
theorem dX6_ranksBefore_97 : decode cX6_ranksBefore 97 = .ok (.ireturn, 1) := by decide +kernel
theorem dX6_allCracks_0 : decode cX6_allCracks 0 = .ok (.iconst 0, 1) := by decide +kernel
theorem dX6_allCracks_1 : decode cX6_allCracks 1 = .ok (.istore_n 1, 1) := by decide +kernel
theorem dX6_allCracks_2 : decode cX6_allCracks 2 = .ok (.iconst 0, 1) := by decide +kernel
theorem dX6_allCracks_3 : decode cX6_allCracks 3 = .ok (.istore_n 2, 1) := by decide +kernel
theorem dX6_allCracks_4 : decode cX6_allCracks 4 = .ok (.iload_n 2, 1) := by decide +kernel
theorem dX6_allCracks_5 : decode cX6_allCracks 5 = .ok (.aload_n 0, 1) := by decide +kernel
theorem dX6_allCracks_6 : decode cX6_allCracks 6 = .ok (.getfield 17, 3) := by decide +kernel
theorem dX6_allCracks_9 : decode cX6_allCracks 9 = .ok (.if_icmp .ge 21, 3) := by decide +kernel
theorem dX6_allCracks_12 : decode cX6_allCracks 12 = .ok (.iload_n 1, 1) := by decide +kernel
theorem dX6_allCracks_13 : decode cX6_allCracks 13 = .ok (.aload_n 0, 1) := by decide +kernel
theorem dX6_allCracks_14 : decode cX6_allCracks 14 = .ok (.getfield 11, 3) := by decide +kernel
theorem dX6_allCracks_17 : decode cX6_allCracks 17 = .ok (.iload_n 2, 1) := by decide +kernel
theorem dX6_allCracks_18 : decode cX6_allCracks 18 = .ok (.aaload, 1) := by decide +kernel
theorem dX6_allCracks_19 : decode cX6_allCracks 19 = .ok (.getfield 195, 3) := by decide +kernel
theorem dX6_allCracks_22 : decode cX6_allCracks 22 = .ok (.iadd, 1) := by decide +kernel
theorem dX6_allCracks_23 : decode cX6_allCracks 23 = .ok (.istore_n 1, 1) := by decide +kernel
theorem dX6_allCracks_24 : decode cX6_allCracks 24 = .ok (.iinc 2 1, 3) := by decide +kernel
theorem dX6_allCracks_27 : decode cX6_allCracks 27 = .ok (.goto (-23), 3) := by decide +kernel
theorem dX6_allCracks_30 : decode cX6_allCracks 30 = .ok (.iload_n 1, 1) := by decide +kernel
theorem dX6_allCracks_31 : decode cX6_allCracks 31 = .ok (.ireturn, 1) := by decide +kernel
theorem dX6_allIce_0 : decode cX6_allIce 0 = .ok (.iconst 0, 1) := by decide +kernel
theorem dX6_allIce_1 : decode cX6_allIce 1 = .ok (.istore_n 1, 1) := by decide +kernel
theorem dX6_allIce_2 : decode cX6_allIce 2 = .ok (.iconst 0, 1) := by decide +kernel
theorem dX6_allIce_3 : decode cX6_allIce 3 = .ok (.istore_n 2, 1) := by decide +kernel
theorem dX6_allIce_4 : decode cX6_allIce 4 = .ok (.iload_n 2, 1) := by decide +kernel
theorem dX6_allIce_5 : decode cX6_allIce 5 = .ok (.aload_n 0, 1) := by decide +kernel
theorem dX6_allIce_6 : decode cX6_allIce 6 = .ok (.getfield 17, 3) := by decide +kernel
theorem dX6_allIce_9 : decode cX6_allIce 9 = .ok (.if_icmp .ge 21, 3) := by decide +kernel
theorem dX6_allIce_12 : decode cX6_allIce 12 = .ok (.iload_n 1, 1) := by decide +kernel
theorem dX6_allIce_13 : decode cX6_allIce 13 = .ok (.aload_n 0, 1) := by decide +kernel
theorem dX6_allIce_14 : decode cX6_allIce 14 = .ok (.getfield 11, 3) := by decide +kernel
theorem dX6_allIce_17 : decode cX6_allIce 17 = .ok (.iload_n 2, 1) := by decide +kernel
theorem dX6_allIce_18 : decode cX6_allIce 18 = .ok (.aaload, 1) := by decide +kernel
theorem dX6_allIce_19 : decode cX6_allIce 19 = .ok (.invokevirtual 69, 3) := by decide +kernel
theorem dX6_allIce_22 : decode cX6_allIce 22 = .ok (.iadd, 1) := by decide +kernel
theorem dX6_allIce_23 : decode cX6_allIce 23 = .ok (.istore_n 1, 1) := by decide +kernel
theorem dX6_allIce_24 : decode cX6_allIce 24 = .ok (.iinc 2 1, 3) := by decide +kernel
theorem dX6_allIce_27 : decode cX6_allIce 27 = .ok (.goto (-23), 3) := by decide +kernel
theorem dX6_allIce_30 : decode cX6_allIce 30 = .ok (.iload_n 1, 1) := by decide +kernel
theorem dX6_allIce_31 : decode cX6_allIce 31 = .ok (.ireturn, 1) := by decide +kernel
theorem dX6_bothSumsAgree_0 : decode cX6_bothSumsAgree 0 = .ok (.iconst 0, 1) := by decide +kernel
theorem dX6_bothSumsAgree_1 : decode cX6_bothSumsAgree 1 = .ok (.istore_n 1, 1) := by decide +kernel
theorem dX6_bothSumsAgree_2 : decode cX6_bothSumsAgree 2 = .ok (.iload_n 1, 1) := by decide +kernel
theorem dX6_bothSumsAgree_3 : decode cX6_bothSumsAgree 3 = .ok (.aload_n 0, 1) := by decide +kernel
theorem dX6_bothSumsAgree_4 : decode cX6_bothSumsAgree 4 = .ok (.getfield 17, 3) := by decide +kernel
theorem dX6_bothSumsAgree_7 : decode cX6_bothSumsAgree 7 = .ok (.if_icmp .ge 32, 3) := by decide +kernel
theorem dX6_bothSumsAgree_10 : decode cX6_bothSumsAgree 10 = .ok (.aload_n 0, 1) := by decide +kernel
theorem dX6_bothSumsAgree_11 : decode cX6_bothSumsAgree 11 = .ok (.getfield 11, 3) := by decide +kernel
theorem dX6_bothSumsAgree_14 : decode cX6_bothSumsAgree 14 = .ok (.iload_n 1, 1) := by decide +kernel
theorem dX6_bothSumsAgree_15 : decode cX6_bothSumsAgree 15 = .ok (.aaload, 1) := by decide +kernel
theorem dX6_bothSumsAgree_16 : decode cX6_bothSumsAgree 16 = .ok (.invokevirtual 69, 3) := by decide +kernel
theorem dX6_bothSumsAgree_19 : decode cX6_bothSumsAgree 19 = .ok (.aload_n 0, 1) := by decide +kernel
theorem dX6_bothSumsAgree_20 : decode cX6_bothSumsAgree 20 = .ok (.getfield 11, 3) := by decide +kernel
theorem dX6_bothSumsAgree_23 : decode cX6_bothSumsAgree 23 = .ok (.iload_n 1, 1) := by decide +kernel
theorem dX6_bothSumsAgree_24 : decode cX6_bothSumsAgree 24 = .ok (.aaload, 1) := by decide +kernel
theorem dX6_bothSumsAgree_25 : decode cX6_bothSumsAgree 25 = .ok (.invokevirtual 198, 3) := by decide +kernel
theorem dX6_bothSumsAgree_28 : decode cX6_bothSumsAgree 28 = .ok (.if_icmp .eq 5, 3) := by decide +kernel
theorem dX6_bothSumsAgree_31 : decode cX6_bothSumsAgree 31 = .ok (.iconst 0, 1) := by decide +kernel
theorem dX6_bothSumsAgree_32 : decode cX6_bothSumsAgree 32 = .ok (.ireturn, 1) := by decide +kernel
theorem dX6_bothSumsAgree_33 : decode cX6_bothSumsAgree 33 = .ok (.iinc 1 1, 3) := by decide +kernel
theorem dX6_bothSumsAgree_36 : decode cX6_bothSumsAgree 36 = .ok (.goto (-34), 3) := by decide +kernel
theorem dX6_bothSumsAgree_39 : decode cX6_bothSumsAgree 39 = .ok (.iconst 1, 1) := by decide +kernel
theorem dX6_bothSumsAgree_40 : decode cX6_bothSumsAgree 40 = .ok (.ireturn, 1) := by decide +kernel
theorem dX7_init_0 : decode cX7_init 0 = .ok (.aload_n 0, 1) := by decide +kernel
theorem dX7_init_1 : decode cX7_init 1 = .ok (.invokespecial 3, 3) := by decide +kernel
theorem dX7_init_4 : decode cX7_init 4 = .ok (.aload_n 0, 1) := by decide +kernel
theorem dX7_init_5 : decode cX7_init 5 = .ok (.bipush 16, 2) := by decide +kernel
theorem dX7_init_7 : decode cX7_init 7 = .ok (.newarray .char, 2) := by decide +kernel
theorem dX7_init_9 : decode cX7_init 9 = .ok (.putfield 9, 3) := by decide +kernel
theorem dX7_init_12 : decode cX7_init 12 = .ok (.aload_n 0, 1) := by decide +kernel
theorem dX7_init_13 : decode cX7_init 13 = .ok (.bipush 16, 2) := by decide +kernel
theorem dX7_init_15 : decode cX7_init 15 = .ok (.newarray .int, 2) := by decide +kernel
theorem dX7_init_17 : decode cX7_init 17 = .ok (.putfield 15, 3) := by decide +kernel
theorem dX7_init_20 : decode cX7_init 20 = .ok (.aload_n 0, 1) := by decide +kernel
theorem dX7_init_21 : decode cX7_init 21 = .ok (.bipush 16, 2) := by decide +kernel
theorem dX7_init_23 : decode cX7_init 23 = .ok (.newarray .int, 2) := by decide +kernel
theorem dX7_init_25 : decode cX7_init 25 = .ok (.putfield 19, 3) := by decide +kernel
theorem dX7_init_28 : decode cX7_init 28 = .ok (.aload_n 0, 1) := by decide +kernel
theorem dX7_init_29 : decode cX7_init 29 = .ok (.bipush 16, 2) := by decide +kernel
theorem dX7_init_31 : decode cX7_init 31 = .ok (.newarray .int, 2) := by decide +kernel
theorem dX7_init_33 : decode cX7_init 33 = .ok (.putfield 22, 3) := by decide +kernel
theorem dX7_init_36 : decode cX7_init 36 = .ok (.aload_n 0, 1) := by decide +kernel
theorem dX7_init_37 : decode cX7_init 37 = .ok (.iconst 0, 1) := by decide +kernel
theorem dX7_init_38 : decode cX7_init 38 = .ok (.putfield 25, 3) := by decide +kernel
theorem dX7_init_41 : decode cX7_init 41 = .ok (.aload_n 0, 1) := by decide +kernel
theorem dX7_init_42 : decode cX7_init 42 = .ok (.iconst 0, 1) := by decide +kernel
theorem dX7_init_43 : decode cX7_init 43 = .ok (.putfield 29, 3) := by decide +kernel
theorem dX7_init_46 : decode cX7_init 46 = .ok (.return_, 1) := by decide +kernel
theorem dX7_copyFrom_0 : decode cX7_copyFrom 0 = .ok (.aload_n 1, 1) := by decide +kernel
theorem dX7_copyFrom_1 : decode cX7_copyFrom 1 = .ok (.getfield 9, 3) := by decide +kernel
theorem dX7_copyFrom_4 : decode cX7_copyFrom 4 = .ok (.iconst 0, 1) := by decide +kernel
theorem dX7_copyFrom_5 : decode cX7_copyFrom 5 = .ok (.aload_n 0, 1) := by decide +kernel
theorem dX7_copyFrom_6 : decode cX7_copyFrom 6 = .ok (.getfield 9, 3) := by decide +kernel
theorem dX7_copyFrom_9 : decode cX7_copyFrom 9 = .ok (.iconst 0, 1) := by decide +kernel
theorem dX7_copyFrom_10 : decode cX7_copyFrom 10 = .ok (.bipush 16, 2) := by decide +kernel
theorem dX7_copyFrom_12 : decode cX7_copyFrom 12 = .ok (.invokestatic 32, 3) := by decide +kernel
theorem dX7_copyFrom_15 : decode cX7_copyFrom 15 = .ok (.aload_n 1, 1) := by decide +kernel
theorem dX7_copyFrom_16 : decode cX7_copyFrom 16 = .ok (.getfield 15, 3) := by decide +kernel
theorem dX7_copyFrom_19 : decode cX7_copyFrom 19 = .ok (.iconst 0, 1) := by decide +kernel
theorem dX7_copyFrom_20 : decode cX7_copyFrom 20 = .ok (.aload_n 0, 1) := by decide +kernel
theorem dX7_copyFrom_21 : decode cX7_copyFrom 21 = .ok (.getfield 15, 3) := by decide +kernel
theorem dX7_copyFrom_24 : decode cX7_copyFrom 24 = .ok (.iconst 0, 1) := by decide +kernel
theorem dX7_copyFrom_25 : decode cX7_copyFrom 25 = .ok (.bipush 16, 2) := by decide +kernel
theorem dX7_copyFrom_27 : decode cX7_copyFrom 27 = .ok (.invokestatic 32, 3) := by decide +kernel
theorem dX7_copyFrom_30 : decode cX7_copyFrom 30 = .ok (.aload_n 1, 1) := by decide +kernel
theorem dX7_copyFrom_31 : decode cX7_copyFrom 31 = .ok (.getfield 19, 3) := by decide +kernel
theorem dX7_copyFrom_34 : decode cX7_copyFrom 34 = .ok (.iconst 0, 1) := by decide +kernel
theorem dX7_copyFrom_35 : decode cX7_copyFrom 35 = .ok (.aload_n 0, 1) := by decide +kernel
theorem dX7_copyFrom_36 : decode cX7_copyFrom 36 = .ok (.getfield 19, 3) := by decide +kernel
theorem dX7_copyFrom_39 : decode cX7_copyFrom 39 = .ok (.iconst 0, 1) := by decide +kernel
theorem dX7_copyFrom_40 : decode cX7_copyFrom 40 = .ok (.bipush 16, 2) := by decide +kernel
theorem dX7_copyFrom_42 : decode cX7_copyFrom 42 = .ok (.invokestatic 32, 3) := by decide +kernel
theorem dX7_copyFrom_45 : decode cX7_copyFrom 45 = .ok (.aload_n 1, 1) := by decide +kernel
theorem dX7_copyFrom_46 : decode cX7_copyFrom 46 = .ok (.getfield 22, 3) := by decide +kernel
theorem dX7_copyFrom_49 : decode cX7_copyFrom 49 = .ok (.iconst 0, 1) := by decide +kernel
theorem dX7_copyFrom_50 : decode cX7_copyFrom 50 = .ok (.aload_n 0, 1) := by decide +kernel
theorem dX7_copyFrom_51 : decode cX7_copyFrom 51 = .ok (.getfield 22, 3) := by decide +kernel
theorem dX7_copyFrom_54 : decode cX7_copyFrom 54 = .ok (.iconst 0, 1) := by decide +kernel
theorem dX7_copyFrom_55 : decode cX7_copyFrom 55 = .ok (.bipush 16, 2) := by decide +kernel
theorem dX7_copyFrom_57 : decode cX7_copyFrom 57 = .ok (.invokestatic 32, 3) := by decide +kernel
theorem dX7_copyFrom_60 : decode cX7_copyFrom 60 = .ok (.aload_n 0, 1) := by decide +kernel
theorem dX7_copyFrom_61 : decode cX7_copyFrom 61 = .ok (.aload_n 1, 1) := by decide +kernel
theorem dX7_copyFrom_62 : decode cX7_copyFrom 62 = .ok (.getfield 25, 3) := by decide +kernel
theorem dX7_copyFrom_65 : decode cX7_copyFrom 65 = .ok (.putfield 25, 3) := by decide +kernel
theorem dX7_copyFrom_68 : decode cX7_copyFrom 68 = .ok (.aload_n 0, 1) := by decide +kernel
theorem dX7_copyFrom_69 : decode cX7_copyFrom 69 = .ok (.aload_n 1, 1) := by decide +kernel
theorem dX7_copyFrom_70 : decode cX7_copyFrom 70 = .ok (.getfield 29, 3) := by decide +kernel
theorem dX7_copyFrom_73 : decode cX7_copyFrom 73 = .ok (.putfield 29, 3) := by decide +kernel
theorem dX7_copyFrom_76 : decode cX7_copyFrom 76 = .ok (.return_, 1) := by decide +kernel
theorem dX7_record_0 : decode cX7_record 0 = .ok (.aload_n 0, 1) := by decide +kernel
theorem dX7_record_1 : decode cX7_record 1 = .ok (.getfield 9, 3) := by decide +kernel
theorem dX7_record_4 : decode cX7_record 4 = .ok (.aload_n 0, 1) := by decide +kernel
theorem dX7_record_5 : decode cX7_record 5 = .ok (.getfield 29, 3) := by decide +kernel
theorem dX7_record_8 : decode cX7_record 8 = .ok (.iload_n 1, 1) := by decide +kernel
theorem dX7_record_9 : decode cX7_record 9 = .ok (.castore, 1) := by decide +kernel
theorem dX7_record_10 : decode cX7_record 10 = .ok (.aload_n 0, 1) := by decide +kernel
theorem dX7_record_11 : decode cX7_record 11 = .ok (.getfield 15, 3) := by decide +kernel
theorem dX7_record_14 : decode cX7_record 14 = .ok (.aload_n 0, 1) := by decide +kernel
theorem dX7_record_15 : decode cX7_record 15 = .ok (.getfield 29, 3) := by decide +kernel
theorem dX7_record_18 : decode cX7_record 18 = .ok (.iload_n 2, 1) := by decide +kernel
theorem dX7_record_19 : decode cX7_record 19 = .ok (.iastore, 1) := by decide +kernel
theorem dX7_record_20 : decode cX7_record 20 = .ok (.aload_n 0, 1) := by decide +kernel
theorem dX7_record_21 : decode cX7_record 21 = .ok (.getfield 19, 3) := by decide +kernel
theorem dX7_record_24 : decode cX7_record 24 = .ok (.aload_n 0, 1) := by decide +kernel
theorem dX7_record_25 : decode cX7_record 25 = .ok (.getfield 29, 3) := by decide +kernel
theorem dX7_record_28 : decode cX7_record 28 = .ok (.iload_n 3, 1) := by decide +kernel
theorem dX7_record_29 : decode cX7_record 29 = .ok (.iastore, 1) := by decide +kernel
theorem dX7_record_30 : decode cX7_record 30 = .ok (.aload_n 0, 1) := by decide +kernel
theorem dX7_record_31 : decode cX7_record 31 = .ok (.getfield 22, 3) := by decide +kernel
theorem dX7_record_34 : decode cX7_record 34 = .ok (.aload_n 0, 1) := by decide +kernel
theorem dX7_record_35 : decode cX7_record 35 = .ok (.getfield 29, 3) := by decide +kernel
theorem dX7_record_38 : decode cX7_record 38 = .ok (.iload 4, 2) := by decide +kernel
theorem dX7_record_40 : decode cX7_record 40 = .ok (.iastore, 1) := by decide +kernel
theorem dX7_record_41 : decode cX7_record 41 = .ok (.aload_n 0, 1) := by decide +kernel
theorem dX7_record_42 : decode cX7_record 42 = .ok (.aload_n 0, 1) := by decide +kernel
theorem dX7_record_43 : decode cX7_record 43 = .ok (.getfield 29, 3) := by decide +kernel
theorem dX7_record_46 : decode cX7_record 46 = .ok (.iconst 1, 1) := by decide +kernel
theorem dX7_record_47 : decode cX7_record 47 = .ok (.iadd, 1) := by decide +kernel
theorem dX7_record_48 : decode cX7_record 48 = .ok (.bipush 16, 2) := by decide +kernel
theorem dX7_record_50 : decode cX7_record 50 = .ok (.irem, 1) := by decide +kernel
theorem dX7_record_51 : decode cX7_record 51 = .ok (.putfield 29, 3) := by decide +kernel
theorem dX7_record_54 : decode cX7_record 54 = .ok (.aload_n 0, 1) := by decide +kernel
theorem dX7_record_55 : decode cX7_record 55 = .ok (.aload_n 0, 1) := by decide +kernel
theorem dX7_record_56 : decode cX7_record 56 = .ok (.getfield 25, 3) := by decide +kernel
theorem dX7_record_59 : decode cX7_record 59 = .ok (.iconst 1, 1) := by decide +kernel
theorem dX7_record_60 : decode cX7_record 60 = .ok (.iadd, 1) := by decide +kernel
theorem dX7_record_61 : decode cX7_record 61 = .ok (.bipush 16, 2) := by decide +kernel
theorem dX7_record_63 : decode cX7_record 63 = .ok (.invokestatic 38, 3) := by decide +kernel
theorem dX7_record_66 : decode cX7_record 66 = .ok (.putfield 25, 3) := by decide +kernel
theorem dX7_record_69 : decode cX7_record 69 = .ok (.return_, 1) := by decide +kernel
theorem dX7_slotOf_0 : decode cX7_slotOf 0 = .ok (.aload_n 0, 1) := by decide +kernel
theorem dX7_slotOf_1 : decode cX7_slotOf 1 = .ok (.getfield 29, 3) := by decide +kernel
theorem dX7_slotOf_4 : decode cX7_slotOf 4 = .ok (.iconst 1, 1) := by decide +kernel
theorem dX7_slotOf_5 : decode cX7_slotOf 5 = .ok (.isub, 1) := by decide +kernel
theorem dX7_slotOf_6 : decode cX7_slotOf 6 = .ok (.iload_n 1, 1) := by decide +kernel
theorem dX7_slotOf_7 : decode cX7_slotOf 7 = .ok (.isub, 1) := by decide +kernel
theorem dX7_slotOf_8 : decode cX7_slotOf 8 = .ok (.bipush 16, 2) := by decide +kernel
theorem dX7_slotOf_10 : decode cX7_slotOf 10 = .ok (.invokestatic 44, 3) := by decide +kernel
theorem dX7_slotOf_13 : decode cX7_slotOf 13 = .ok (.ireturn, 1) := by decide +kernel
theorem dX7_pairsByComparing_0 : decode cX7_pairsByComparing 0 = .ok (.iconst 0, 1) := by decide +kernel
theorem dX7_pairsByComparing_1 : decode cX7_pairsByComparing 1 = .ok (.istore_n 1, 1) := by decide +kernel
theorem dX7_pairsByComparing_2 : decode cX7_pairsByComparing 2 = .ok (.iconst 0, 1) := by decide +kernel
theorem dX7_pairsByComparing_3 : decode cX7_pairsByComparing 3 = .ok (.istore_n 2, 1) := by decide +kernel
theorem dX7_pairsByComparing_4 : decode cX7_pairsByComparing 4 = .ok (.iload_n 2, 1) := by decide +kernel
theorem dX7_pairsByComparing_5 : decode cX7_pairsByComparing 5 = .ok (.aload_n 0, 1) := by decide +kernel
theorem dX7_pairsByComparing_6 : decode cX7_pairsByComparing 6 = .ok (.getfield 25, 3) := by decide +kernel
theorem dX7_pairsByComparing_9 : decode cX7_pairsByComparing 9 = .ok (.if_icmp .ge 45, 3) := by decide +kernel
theorem dX7_pairsByComparing_12 : decode cX7_pairsByComparing 12 = .ok (.iload_n 2, 1) := by decide +kernel
theorem dX7_pairsByComparing_13 : decode cX7_pairsByComparing 13 = .ok (.iconst 1, 1) := by decide +kernel
theorem dX7_pairsByComparing_14 : decode cX7_pairsByComparing 14 = .ok (.iadd, 1) := by decide +kernel
theorem dX7_pairsByComparing_15 : decode cX7_pairsByComparing 15 = .ok (.istore_n 3, 1) := by decide +kernel
theorem dX7_pairsByComparing_16 : decode cX7_pairsByComparing 16 = .ok (.iload_n 3, 1) := by decide +kernel
theorem dX7_pairsByComparing_17 : decode cX7_pairsByComparing 17 = .ok (.aload_n 0, 1) := by decide +kernel
theorem dX7_pairsByComparing_18 : decode cX7_pairsByComparing 18 = .ok (.getfield 25, 3) := by decide +kernel
theorem dX7_pairsByComparing_21 : decode cX7_pairsByComparing 21 = .ok (.if_icmp .ge 27, 3) := by decide +kernel
theorem dX7_pairsByComparing_24 : decode cX7_pairsByComparing 24 = .ok (.aload_n 0, 1) := by decide +kernel
theorem dX7_pairsByComparing_25 : decode cX7_pairsByComparing 25 = .ok (.getfield 19, 3) := by decide +kernel
theorem dX7_pairsByComparing_28 : decode cX7_pairsByComparing 28 = .ok (.iload_n 2, 1) := by decide +kernel
theorem dX7_pairsByComparing_29 : decode cX7_pairsByComparing 29 = .ok (.iaload, 1) := by decide +kernel
theorem dX7_pairsByComparing_30 : decode cX7_pairsByComparing 30 = .ok (.aload_n 0, 1) := by decide +kernel
theorem dX7_pairsByComparing_31 : decode cX7_pairsByComparing 31 = .ok (.getfield 19, 3) := by decide +kernel
theorem dX7_pairsByComparing_34 : decode cX7_pairsByComparing 34 = .ok (.iload_n 3, 1) := by decide +kernel
theorem dX7_pairsByComparing_35 : decode cX7_pairsByComparing 35 = .ok (.iaload, 1) := by decide +kernel
theorem dX7_pairsByComparing_36 : decode cX7_pairsByComparing 36 = .ok (.if_icmp .ne 6, 3) := by decide +kernel
theorem dX7_pairsByComparing_39 : decode cX7_pairsByComparing 39 = .ok (.iinc 1 1, 3) := by decide +kernel
theorem dX7_pairsByComparing_42 : decode cX7_pairsByComparing 42 = .ok (.iinc 3 1, 3) := by decide +kernel
theorem dX7_pairsByComparing_45 : decode cX7_pairsByComparing 45 = .ok (.goto (-29), 3) := by decide +kernel
theorem dX7_pairsByComparing_48 : decode cX7_pairsByComparing 48 = .ok (.iinc 2 1, 3) := by decide +kernel
theorem dX7_pairsByComparing_51 : decode cX7_pairsByComparing 51 = .ok (.goto (-47), 3) := by decide +kernel
theorem dX7_pairsByComparing_54 : decode cX7_pairsByComparing 54 = .ok (.iload_n 1, 1) := by decide +kernel
theorem dX7_pairsByComparing_55 : decode cX7_pairsByComparing 55 = .ok (.ireturn, 1) := by decide +kernel
theorem dX7_pairsByCounting_0 : decode cX7_pairsByCounting 0 = .ok (.aload_n 0, 1) := by decide +kernel
theorem dX7_pairsByCounting_1 : decode cX7_pairsByCounting 1 = .ok (.aload_n 1, 1) := by decide +kernel
theorem dX7_pairsByCounting_2 : decode cX7_pairsByCounting 2 = .ok (.invokevirtual 47, 3) := by decide +kernel
theorem dX7_pairsByCounting_5 : decode cX7_pairsByCounting 5 = .ok (.iconst 0, 1) := by decide +kernel
theorem dX7_pairsByCounting_6 : decode cX7_pairsByCounting 6 = .ok (.istore_n 2, 1) := by decide +kernel
theorem dX7_pairsByCounting_7 : decode cX7_pairsByCounting 7 = .ok (.iconst 0, 1) := by decide +kernel
theorem dX7_pairsByCounting_8 : decode cX7_pairsByCounting 8 = .ok (.istore_n 3, 1) := by decide +kernel
theorem dX7_pairsByCounting_9 : decode cX7_pairsByCounting 9 = .ok (.iload_n 3, 1) := by decide +kernel
theorem dX7_pairsByCounting_10 : decode cX7_pairsByCounting 10 = .ok (.aload_n 1, 1) := by decide +kernel
theorem dX7_pairsByCounting_11 : decode cX7_pairsByCounting 11 = .ok (.arraylength, 1) := by decide +kernel
theorem dX7_pairsByCounting_12 : decode cX7_pairsByCounting 12 = .ok (.if_icmp .ge 23, 3) := by decide +kernel
theorem dX7_pairsByCounting_15 : decode cX7_pairsByCounting 15 = .ok (.iload_n 2, 1) := by decide +kernel
theorem dX7_pairsByCounting_16 : decode cX7_pairsByCounting 16 = .ok (.aload_n 1, 1) := by decide +kernel
theorem dX7_pairsByCounting_17 : decode cX7_pairsByCounting 17 = .ok (.iload_n 3, 1) := by decide +kernel
theorem dX7_pairsByCounting_18 : decode cX7_pairsByCounting 18 = .ok (.iaload, 1) := by decide +kernel
theorem dX7_pairsByCounting_19 : decode cX7_pairsByCounting 19 = .ok (.aload_n 1, 1) := by decide +kernel
theorem dX7_pairsByCounting_20 : decode cX7_pairsByCounting 20 = .ok (.iload_n 3, 1) := by decide +kernel
theorem dX7_pairsByCounting_21 : decode cX7_pairsByCounting 21 = .ok (.iaload, 1) := by decide +kernel
theorem dX7_pairsByCounting_22 : decode cX7_pairsByCounting 22 = .ok (.iconst 1, 1) := by decide +kernel
theorem dX7_pairsByCounting_23 : decode cX7_pairsByCounting 23 = .ok (.isub, 1) := by decide +kernel
theorem dX7_pairsByCounting_24 : decode cX7_pairsByCounting 24 = .ok (.imul, 1) := by decide +kernel
theorem dX7_pairsByCounting_25 : decode cX7_pairsByCounting 25 = .ok (.iconst 2, 1) := by decide +kernel
theorem dX7_pairsByCounting_26 : decode cX7_pairsByCounting 26 = .ok (.idiv, 1) := by decide +kernel
theorem dX7_pairsByCounting_27 : decode cX7_pairsByCounting 27 = .ok (.iadd, 1) := by decide +kernel
theorem dX7_pairsByCounting_28 : decode cX7_pairsByCounting 28 = .ok (.istore_n 2, 1) := by decide +kernel
theorem dX7_pairsByCounting_29 : decode cX7_pairsByCounting 29 = .ok (.iinc 3 1, 3) := by decide +kernel
theorem dX7_pairsByCounting_32 : decode cX7_pairsByCounting 32 = .ok (.goto (-23), 3) := by decide +kernel
theorem dX7_pairsByCounting_35 : decode cX7_pairsByCounting 35 = .ok (.iload_n 2, 1) := by decide +kernel
theorem dX7_pairsByCounting_36 : decode cX7_pairsByCounting 36 = .ok (.ireturn, 1) := by decide +kernel
theorem dX7_differentPitches_0 : decode cX7_differentPitches 0 = .ok (.aload_n 0, 1) := by decide +kernel
theorem dX7_differentPitches_1 : decode cX7_differentPitches 1 = .ok (.aload_n 1, 1) := by decide +kernel
theorem dX7_differentPitches_2 : decode cX7_differentPitches 2 = .ok (.invokevirtual 47, 3) := by decide +kernel
theorem dX7_differentPitches_5 : decode cX7_differentPitches 5 = .ok (.iconst 0, 1) := by decide +kernel
theorem dX7_differentPitches_6 : decode cX7_differentPitches 6 = .ok (.istore_n 2, 1) := by decide +kernel
theorem dX7_differentPitches_7 : decode cX7_differentPitches 7 = .ok (.iconst 0, 1) := by decide +kernel
theorem dX7_differentPitches_8 : decode cX7_differentPitches 8 = .ok (.istore_n 3, 1) := by decide +kernel
theorem dX7_differentPitches_9 : decode cX7_differentPitches 9 = .ok (.iload_n 3, 1) := by decide +kernel
theorem dX7_differentPitches_10 : decode cX7_differentPitches 10 = .ok (.aload_n 1, 1) := by decide +kernel
theorem dX7_differentPitches_11 : decode cX7_differentPitches 11 = .ok (.arraylength, 1) := by decide +kernel
theorem dX7_differentPitches_12 : decode cX7_differentPitches 12 = .ok (.if_icmp .ge 18, 3) := by decide +kernel
theorem dX7_differentPitches_15 : decode cX7_differentPitches 15 = .ok (.aload_n 1, 1) := by decide +kernel
theorem dX7_differentPitches_16 : decode cX7_differentPitches 16 = .ok (.iload_n 3, 1) := by decide +kernel
theorem dX7_differentPitches_17 : decode cX7_differentPitches 17 = .ok (.iaload, 1) := by decide +kernel
theorem dX7_differentPitches_18 : decode cX7_differentPitches 18 = .ok (.ifCond .le 6, 3) := by decide +kernel
theorem dX7_differentPitches_21 : decode cX7_differentPitches 21 = .ok (.iinc 2 1, 3) := by decide +kernel
theorem dX7_differentPitches_24 : decode cX7_differentPitches 24 = .ok (.iinc 3 1, 3) := by decide +kernel
theorem dX7_differentPitches_27 : decode cX7_differentPitches 27 = .ok (.goto (-18), 3) := by decide +kernel
theorem dX7_differentPitches_30 : decode cX7_differentPitches 30 = .ok (.iload_n 2, 1) := by decide +kernel
theorem dX7_differentPitches_31 : decode cX7_differentPitches 31 = .ok (.ireturn, 1) := by decide +kernel
theorem dX7_countPitches_0 : decode cX7_countPitches 0 = .ok (.iconst 0, 1) := by decide +kernel
theorem dX7_countPitches_1 : decode cX7_countPitches 1 = .ok (.istore_n 2, 1) := by decide +kernel
theorem dX7_countPitches_2 : decode cX7_countPitches 2 = .ok (.iload_n 2, 1) := by decide +kernel
theorem dX7_countPitches_3 : decode cX7_countPitches 3 = .ok (.aload_n 1, 1) := by decide +kernel
theorem dX7_countPitches_4 : decode cX7_countPitches 4 = .ok (.arraylength, 1) := by decide +kernel
theorem dX7_countPitches_5 : decode cX7_countPitches 5 = .ok (.if_icmp .ge 13, 3) := by decide +kernel
theorem dX7_countPitches_8 : decode cX7_countPitches 8 = .ok (.aload_n 1, 1) := by decide +kernel
theorem dX7_countPitches_9 : decode cX7_countPitches 9 = .ok (.iload_n 2, 1) := by decide +kernel
theorem dX7_countPitches_10 : decode cX7_countPitches 10 = .ok (.iconst 0, 1) := by decide +kernel
theorem dX7_countPitches_11 : decode cX7_countPitches 11 = .ok (.iastore, 1) := by decide +kernel
theorem dX7_countPitches_12 : decode cX7_countPitches 12 = .ok (.iinc 2 1, 3) := by decide +kernel
theorem dX7_countPitches_15 : decode cX7_countPitches 15 = .ok (.goto (-13), 3) := by decide +kernel
theorem dX7_countPitches_18 : decode cX7_countPitches 18 = .ok (.iconst 0, 1) := by decide +kernel
theorem dX7_countPitches_19 : decode cX7_countPitches 19 = .ok (.istore_n 2, 1) := by decide +kernel
theorem dX7_countPitches_20 : decode cX7_countPitches 20 = .ok (.iload_n 2, 1) := by decide +kernel
theorem dX7_countPitches_21 : decode cX7_countPitches 21 = .ok (.aload_n 0, 1) := by decide +kernel
theorem dX7_countPitches_22 : decode cX7_countPitches 22 = .ok (.getfield 25, 3) := by decide +kernel
theorem dX7_countPitches_25 : decode cX7_countPitches 25 = .ok (.if_icmp .ge 41, 3) := by decide +kernel
theorem dX7_countPitches_28 : decode cX7_countPitches 28 = .ok (.aload_n 0, 1) := by decide +kernel
theorem dX7_countPitches_29 : decode cX7_countPitches 29 = .ok (.getfield 19, 3) := by decide +kernel
theorem dX7_countPitches_32 : decode cX7_countPitches 32 = .ok (.iload_n 2, 1) := by decide +kernel
theorem dX7_countPitches_33 : decode cX7_countPitches 33 = .ok (.iaload, 1) := by decide +kernel
theorem dX7_countPitches_34 : decode cX7_countPitches 34 = .ok (.ifCond .lt 26, 3) := by decide +kernel
theorem dX7_countPitches_37 : decode cX7_countPitches 37 = .ok (.aload_n 0, 1) := by decide +kernel
theorem dX7_countPitches_38 : decode cX7_countPitches 38 = .ok (.getfield 19, 3) := by decide +kernel
theorem dX7_countPitches_41 : decode cX7_countPitches 41 = .ok (.iload_n 2, 1) := by decide +kernel
theorem dX7_countPitches_42 : decode cX7_countPitches 42 = .ok (.iaload, 1) := by decide +kernel
theorem dX7_countPitches_43 : decode cX7_countPitches 43 = .ok (.aload_n 1, 1) := by decide +kernel
theorem dX7_countPitches_44 : decode cX7_countPitches 44 = .ok (.arraylength, 1) := by decide +kernel
theorem dX7_countPitches_45 : decode cX7_countPitches 45 = .ok (.if_icmp .ge 15, 3) := by decide +kernel
theorem dX7_countPitches_48 : decode cX7_countPitches 48 = .ok (.aload_n 1, 1) := by decide +kernel
theorem dX7_countPitches_49 : decode cX7_countPitches 49 = .ok (.aload_n 0, 1) := by decide +kernel
theorem dX7_countPitches_50 : decode cX7_countPitches 50 = .ok (.getfield 19, 3) := by decide +kernel
theorem dX7_countPitches_53 : decode cX7_countPitches 53 = .ok (.iload_n 2, 1) := by decide +kernel
theorem dX7_countPitches_54 : decode cX7_countPitches 54 = .ok (.iaload, 1) := by decide +kernel
theorem dX7_countPitches_55 : decode cX7_countPitches 55 = .ok (.dup2, 1) := by decide +kernel
theorem dX7_countPitches_56 : decode cX7_countPitches 56 = .ok (.iaload, 1) := by decide +kernel
theorem dX7_countPitches_57 : decode cX7_countPitches 57 = .ok (.iconst 1, 1) := by decide +kernel
theorem dX7_countPitches_58 : decode cX7_countPitches 58 = .ok (.iadd, 1) := by decide +kernel
theorem dX7_countPitches_59 : decode cX7_countPitches 59 = .ok (.iastore, 1) := by decide +kernel
theorem dX7_countPitches_60 : decode cX7_countPitches 60 = .ok (.iinc 2 1, 3) := by decide +kernel
theorem dX7_countPitches_63 : decode cX7_countPitches 63 = .ok (.goto (-43), 3) := by decide +kernel
theorem dX7_countPitches_66 : decode cX7_countPitches 66 = .ok (.return_, 1) := by decide +kernel
theorem dX8_init_0 : decode cX8_init 0 = .ok (.aload_n 0, 1) := by decide +kernel
theorem dX8_init_1 : decode cX8_init 1 = .ok (.invokespecial 3, 3) := by decide +kernel
theorem dX8_init_4 : decode cX8_init 4 = .ok (.aload_n 0, 1) := by decide +kernel
theorem dX8_init_5 : decode cX8_init 5 = .ok (.bipush 6, 2) := by decide +kernel
theorem dX8_init_7 : decode cX8_init 7 = .ok (.newarray .int, 2) := by decide +kernel
theorem dX8_init_9 : decode cX8_init 9 = .ok (.putfield 9, 3) := by decide +kernel
theorem dX8_init_12 : decode cX8_init 12 = .ok (.aload_n 0, 1) := by decide +kernel
theorem dX8_init_13 : decode cX8_init 13 = .ok (.bipush 6, 2) := by decide +kernel
theorem dX8_init_15 : decode cX8_init 15 = .ok (.newarray .int, 2) := by decide +kernel
theorem dX8_init_17 : decode cX8_init 17 = .ok (.putfield 15, 3) := by decide +kernel
theorem dX8_init_20 : decode cX8_init 20 = .ok (.aload_n 0, 1) := by decide +kernel
theorem dX8_init_21 : decode cX8_init 21 = .ok (.iconst 0, 1) := by decide +kernel
theorem dX8_init_22 : decode cX8_init 22 = .ok (.putfield 18, 3) := by decide +kernel
theorem dX8_init_25 : decode cX8_init 25 = .ok (.return_, 1) := by decide +kernel
theorem dX8_copyFrom_0 : decode cX8_copyFrom 0 = .ok (.aload_n 1, 1) := by decide +kernel
theorem dX8_copyFrom_1 : decode cX8_copyFrom 1 = .ok (.getfield 9, 3) := by decide +kernel
theorem dX8_copyFrom_4 : decode cX8_copyFrom 4 = .ok (.iconst 0, 1) := by decide +kernel
theorem dX8_copyFrom_5 : decode cX8_copyFrom 5 = .ok (.aload_n 0, 1) := by decide +kernel
theorem dX8_copyFrom_6 : decode cX8_copyFrom 6 = .ok (.getfield 9, 3) := by decide +kernel
theorem dX8_copyFrom_9 : decode cX8_copyFrom 9 = .ok (.iconst 0, 1) := by decide +kernel
theorem dX8_copyFrom_10 : decode cX8_copyFrom 10 = .ok (.bipush 6, 2) := by decide +kernel
theorem dX8_copyFrom_12 : decode cX8_copyFrom 12 = .ok (.invokestatic 22, 3) := by decide +kernel
theorem dX8_copyFrom_15 : decode cX8_copyFrom 15 = .ok (.aload_n 1, 1) := by decide +kernel
theorem dX8_copyFrom_16 : decode cX8_copyFrom 16 = .ok (.getfield 15, 3) := by decide +kernel
theorem dX8_copyFrom_19 : decode cX8_copyFrom 19 = .ok (.iconst 0, 1) := by decide +kernel
theorem dX8_copyFrom_20 : decode cX8_copyFrom 20 = .ok (.aload_n 0, 1) := by decide +kernel
theorem dX8_copyFrom_21 : decode cX8_copyFrom 21 = .ok (.getfield 15, 3) := by decide +kernel
theorem dX8_copyFrom_24 : decode cX8_copyFrom 24 = .ok (.iconst 0, 1) := by decide +kernel
theorem dX8_copyFrom_25 : decode cX8_copyFrom 25 = .ok (.bipush 6, 2) := by decide +kernel
theorem dX8_copyFrom_27 : decode cX8_copyFrom 27 = .ok (.invokestatic 22, 3) := by decide +kernel
theorem dX8_copyFrom_30 : decode cX8_copyFrom 30 = .ok (.aload_n 0, 1) := by decide +kernel
theorem dX8_copyFrom_31 : decode cX8_copyFrom 31 = .ok (.aload_n 1, 1) := by decide +kernel
theorem dX8_copyFrom_32 : decode cX8_copyFrom 32 = .ok (.getfield 18, 3) := by decide +kernel
theorem dX8_copyFrom_35 : decode cX8_copyFrom 35 = .ok (.putfield 18, 3) := by decide +kernel
theorem dX8_copyFrom_38 : decode cX8_copyFrom 38 = .ok (.return_, 1) := by decide +kernel
theorem dX8_hasPosition_0 : decode cX8_hasPosition 0 = .ok (.iload_n 1, 1) := by decide +kernel
theorem dX8_hasPosition_1 : decode cX8_hasPosition 1 = .ok (.ifCond .lt 15, 3) := by decide +kernel
theorem dX8_hasPosition_4 : decode cX8_hasPosition 4 = .ok (.iload_n 1, 1) := by decide +kernel
theorem dX8_hasPosition_5 : decode cX8_hasPosition 5 = .ok (.aload_n 0, 1) := by decide +kernel
theorem dX8_hasPosition_6 : decode cX8_hasPosition 6 = .ok (.getfield 18, 3) := by decide +kernel
theorem dX8_hasPosition_9 : decode cX8_hasPosition 9 = .ok (.if_icmp .ge 7, 3) := by decide +kernel
theorem dX8_hasPosition_12 : decode cX8_hasPosition 12 = .ok (.iconst 1, 1) := by decide +kernel
theorem dX8_hasPosition_13 : decode cX8_hasPosition 13 = .ok (.goto 4, 3) := by decide +kernel
theorem dX8_hasPosition_16 : decode cX8_hasPosition 16 = .ok (.iconst 0, 1) := by decide +kernel
theorem dX8_hasPosition_17 : decode cX8_hasPosition 17 = .ok (.ireturn, 1) := by decide +kernel
theorem dX8_contain_0 : decode cX8_contain 0 = .ok (.aload_n 0, 1) := by decide +kernel
theorem dX8_contain_1 : decode cX8_contain 1 = .ok (.iload_n 1, 1) := by decide +kernel
theorem dX8_contain_2 : decode cX8_contain 2 = .ok (.iload_n 1, 1) := by decide +kernel
theorem dX8_contain_3 : decode cX8_contain 3 = .ok (.invokevirtual 28, 3) := by decide +kernel
theorem dX8_contain_6 : decode cX8_contain 6 = .ok (.ireturn, 1) := by decide +kernel
theorem dX8_meet_0 : decode cX8_meet 0 = .ok (.iconst 0, 1) := by decide +kernel
theorem dX8_meet_1 : decode cX8_meet 1 = .ok (.istore_n 3, 1) := by decide +kernel
theorem dX8_meet_2 : decode cX8_meet 2 = .ok (.iload_n 3, 1) := by decide +kernel
theorem dX8_meet_3 : decode cX8_meet 3 = .ok (.aload_n 0, 1) := by decide +kernel
theorem dX8_meet_4 : decode cX8_meet 4 = .ok (.getfield 18, 3) := by decide +kernel
theorem dX8_meet_7 : decode cX8_meet 7 = .ok (.if_icmp .ge 31, 3) := by decide +kernel
theorem dX8_meet_10 : decode cX8_meet 10 = .ok (.iload_n 1, 1) := by decide +kernel
theorem dX8_meet_11 : decode cX8_meet 11 = .ok (.aload_n 0, 1) := by decide +kernel
theorem dX8_meet_12 : decode cX8_meet 12 = .ok (.getfield 15, 3) := by decide +kernel
theorem dX8_meet_15 : decode cX8_meet 15 = .ok (.iload_n 3, 1) := by decide +kernel
theorem dX8_meet_16 : decode cX8_meet 16 = .ok (.iaload, 1) := by decide +kernel
theorem dX8_meet_17 : decode cX8_meet 17 = .ok (.if_icmp .gt 15, 3) := by decide +kernel
theorem dX8_meet_20 : decode cX8_meet 20 = .ok (.iload_n 2, 1) := by decide +kernel
theorem dX8_meet_21 : decode cX8_meet 21 = .ok (.aload_n 0, 1) := by decide +kernel
theorem dX8_meet_22 : decode cX8_meet 22 = .ok (.getfield 9, 3) := by decide +kernel
theorem dX8_meet_25 : decode cX8_meet 25 = .ok (.iload_n 3, 1) := by decide +kernel
theorem dX8_meet_26 : decode cX8_meet 26 = .ok (.iaload, 1) := by decide +kernel
theorem dX8_meet_27 : decode cX8_meet 27 = .ok (.if_icmp .lt 5, 3) := by decide +kernel
theorem dX8_meet_30 : decode cX8_meet 30 = .ok (.iconst 1, 1) := by decide +kernel
theorem dX8_meet_31 : decode cX8_meet 31 = .ok (.ireturn, 1) := by decide +kernel
theorem dX8_meet_32 : decode cX8_meet 32 = .ok (.iinc 3 1, 3) := by decide +kernel
theorem dX8_meet_35 : decode cX8_meet 35 = .ok (.goto (-33), 3) := by decide +kernel
theorem dX8_meet_38 : decode cX8_meet 38 = .ok (.iconst 0, 1) := by decide +kernel
theorem dX8_meet_39 : decode cX8_meet 39 = .ok (.ireturn, 1) := by decide +kernel
theorem dX8_insert_0 : decode cX8_insert 0 = .ok (.aload_n 0, 1) := by decide +kernel
theorem dX8_insert_1 : decode cX8_insert 1 = .ok (.getfield 18, 3) := by decide +kernel
theorem dX8_insert_4 : decode cX8_insert 4 = .ok (.istore_n 3, 1) := by decide +kernel
theorem dX8_insert_5 : decode cX8_insert 5 = .ok (.iload_n 3, 1) := by decide +kernel
theorem dX8_insert_6 : decode cX8_insert 6 = .ok (.ifCond .le 49, 3) := by decide +kernel
theorem dX8_insert_9 : decode cX8_insert 9 = .ok (.aload_n 0, 1) := by decide +kernel
theorem dX8_insert_10 : decode cX8_insert 10 = .ok (.getfield 9, 3) := by decide +kernel
theorem dX8_insert_13 : decode cX8_insert 13 = .ok (.iload_n 3, 1) := by decide +kernel
theorem dX8_insert_14 : decode cX8_insert 14 = .ok (.iconst 1, 1) := by decide +kernel
theorem dX8_insert_15 : decode cX8_insert 15 = .ok (.isub, 1) := by decide +kernel
theorem dX8_insert_16 : decode cX8_insert 16 = .ok (.iaload, 1) := by decide +kernel
theorem dX8_insert_17 : decode cX8_insert 17 = .ok (.iload_n 1, 1) := by decide +kernel
theorem dX8_insert_18 : decode cX8_insert 18 = .ok (.if_icmp .le 37, 3) := by decide +kernel
theorem dX8_insert_21 : decode cX8_insert 21 = .ok (.aload_n 0, 1) := by decide +kernel
theorem dX8_insert_22 : decode cX8_insert 22 = .ok (.getfield 9, 3) := by decide +kernel
theorem dX8_insert_25 : decode cX8_insert 25 = .ok (.iload_n 3, 1) := by decide +kernel
theorem dX8_insert_26 : decode cX8_insert 26 = .ok (.aload_n 0, 1) := by decide +kernel
theorem dX8_insert_27 : decode cX8_insert 27 = .ok (.getfield 9, 3) := by decide +kernel
theorem dX8_insert_30 : decode cX8_insert 30 = .ok (.iload_n 3, 1) := by decide +kernel
theorem dX8_insert_31 : decode cX8_insert 31 = .ok (.iconst 1, 1) := by decide +kernel
theorem dX8_insert_32 : decode cX8_insert 32 = .ok (.isub, 1) := by decide +kernel
theorem dX8_insert_33 : decode cX8_insert 33 = .ok (.iaload, 1) := by decide +kernel
theorem dX8_insert_34 : decode cX8_insert 34 = .ok (.iastore, 1) := by decide +kernel
theorem dX8_insert_35 : decode cX8_insert 35 = .ok (.aload_n 0, 1) := by decide +kernel
theorem dX8_insert_36 : decode cX8_insert 36 = .ok (.getfield 15, 3) := by decide +kernel
theorem dX8_insert_39 : decode cX8_insert 39 = .ok (.iload_n 3, 1) := by decide +kernel
theorem dX8_insert_40 : decode cX8_insert 40 = .ok (.aload_n 0, 1) := by decide +kernel
theorem dX8_insert_41 : decode cX8_insert 41 = .ok (.getfield 15, 3) := by decide +kernel
theorem dX8_insert_44 : decode cX8_insert 44 = .ok (.iload_n 3, 1) := by decide +kernel
theorem dX8_insert_45 : decode cX8_insert 45 = .ok (.iconst 1, 1) := by decide +kernel
theorem dX8_insert_46 : decode cX8_insert 46 = .ok (.isub, 1) := by decide +kernel
theorem dX8_insert_47 : decode cX8_insert 47 = .ok (.iaload, 1) := by decide +kernel
theorem dX8_insert_48 : decode cX8_insert 48 = .ok (.iastore, 1) := by decide +kernel
theorem dX8_insert_49 : decode cX8_insert 49 = .ok (.iinc 3 (-1), 3) := by decide +kernel
theorem dX8_insert_52 : decode cX8_insert 52 = .ok (.goto (-47), 3) := by decide +kernel
theorem dX8_insert_55 : decode cX8_insert 55 = .ok (.aload_n 0, 1) := by decide +kernel
theorem dX8_insert_56 : decode cX8_insert 56 = .ok (.getfield 9, 3) := by decide +kernel
theorem dX8_insert_59 : decode cX8_insert 59 = .ok (.iload_n 3, 1) := by decide +kernel
theorem dX8_insert_60 : decode cX8_insert 60 = .ok (.iload_n 1, 1) := by decide +kernel
theorem dX8_insert_61 : decode cX8_insert 61 = .ok (.iastore, 1) := by decide +kernel
theorem dX8_insert_62 : decode cX8_insert 62 = .ok (.aload_n 0, 1) := by decide +kernel
theorem dX8_insert_63 : decode cX8_insert 63 = .ok (.getfield 15, 3) := by decide +kernel
theorem dX8_insert_66 : decode cX8_insert 66 = .ok (.iload_n 3, 1) := by decide +kernel
theorem dX8_insert_67 : decode cX8_insert 67 = .ok (.iload_n 2, 1) := by decide +kernel
theorem dX8_insert_68 : decode cX8_insert 68 = .ok (.iastore, 1) := by decide +kernel
theorem dX8_insert_69 : decode cX8_insert 69 = .ok (.aload_n 0, 1) := by decide +kernel
theorem dX8_insert_70 : decode cX8_insert 70 = .ok (.dup, 1) := by decide +kernel
theorem dX8_insert_71 : decode cX8_insert 71 = .ok (.getfield 18, 3) := by decide +kernel
theorem dX8_insert_74 : decode cX8_insert 74 = .ok (.iconst 1, 1) := by decide +kernel
theorem dX8_insert_75 : decode cX8_insert 75 = .ok (.iadd, 1) := by decide +kernel
theorem dX8_insert_76 : decode cX8_insert 76 = .ok (.putfield 18, 3) := by decide +kernel
theorem dX8_insert_79 : decode cX8_insert 79 = .ok (.aload_n 0, 1) := by decide +kernel
theorem dX8_insert_80 : decode cX8_insert 80 = .ok (.getfield 18, 3) := by decide +kernel
theorem dX8_insert_83 : decode cX8_insert 83 = .ok (.ireturn, 1) := by decide +kernel
theorem dX8_removeAt_0 : decode cX8_removeAt 0 = .ok (.aload_n 0, 1) := by decide +kernel
theorem dX8_removeAt_1 : decode cX8_removeAt 1 = .ok (.dup, 1) := by decide +kernel
theorem dX8_removeAt_2 : decode cX8_removeAt 2 = .ok (.getfield 18, 3) := by decide +kernel
theorem dX8_removeAt_5 : decode cX8_removeAt 5 = .ok (.iconst 1, 1) := by decide +kernel
theorem dX8_removeAt_6 : decode cX8_removeAt 6 = .ok (.isub, 1) := by decide +kernel
theorem dX8_removeAt_7 : decode cX8_removeAt 7 = .ok (.putfield 18, 3) := by decide +kernel
theorem dX8_removeAt_10 : decode cX8_removeAt 10 = .ok (.iload_n 1, 1) := by decide +kernel
theorem dX8_removeAt_11 : decode cX8_removeAt 11 = .ok (.istore_n 2, 1) := by decide +kernel
theorem dX8_removeAt_12 : decode cX8_removeAt 12 = .ok (.iload_n 2, 1) := by decide +kernel
theorem dX8_removeAt_13 : decode cX8_removeAt 13 = .ok (.aload_n 0, 1) := by decide +kernel
theorem dX8_removeAt_14 : decode cX8_removeAt 14 = .ok (.getfield 18, 3) := by decide +kernel
theorem dX8_removeAt_17 : decode cX8_removeAt 17 = .ok (.if_icmp .ge 37, 3) := by decide +kernel
theorem dX8_removeAt_20 : decode cX8_removeAt 20 = .ok (.aload_n 0, 1) := by decide +kernel
theorem dX8_removeAt_21 : decode cX8_removeAt 21 = .ok (.getfield 9, 3) := by decide +kernel
theorem dX8_removeAt_24 : decode cX8_removeAt 24 = .ok (.iload_n 2, 1) := by decide +kernel
theorem dX8_removeAt_25 : decode cX8_removeAt 25 = .ok (.aload_n 0, 1) := by decide +kernel
theorem dX8_removeAt_26 : decode cX8_removeAt 26 = .ok (.getfield 9, 3) := by decide +kernel
theorem dX8_removeAt_29 : decode cX8_removeAt 29 = .ok (.iload_n 2, 1) := by decide +kernel
theorem dX8_removeAt_30 : decode cX8_removeAt 30 = .ok (.iconst 1, 1) := by decide +kernel
theorem dX8_removeAt_31 : decode cX8_removeAt 31 = .ok (.iadd, 1) := by decide +kernel
theorem dX8_removeAt_32 : decode cX8_removeAt 32 = .ok (.iaload, 1) := by decide +kernel
theorem dX8_removeAt_33 : decode cX8_removeAt 33 = .ok (.iastore, 1) := by decide +kernel
theorem dX8_removeAt_34 : decode cX8_removeAt 34 = .ok (.aload_n 0, 1) := by decide +kernel
theorem dX8_removeAt_35 : decode cX8_removeAt 35 = .ok (.getfield 15, 3) := by decide +kernel
theorem dX8_removeAt_38 : decode cX8_removeAt 38 = .ok (.iload_n 2, 1) := by decide +kernel
theorem dX8_removeAt_39 : decode cX8_removeAt 39 = .ok (.aload_n 0, 1) := by decide +kernel
theorem dX8_removeAt_40 : decode cX8_removeAt 40 = .ok (.getfield 15, 3) := by decide +kernel
theorem dX8_removeAt_43 : decode cX8_removeAt 43 = .ok (.iload_n 2, 1) := by decide +kernel
theorem dX8_removeAt_44 : decode cX8_removeAt 44 = .ok (.iconst 1, 1) := by decide +kernel
theorem dX8_removeAt_45 : decode cX8_removeAt 45 = .ok (.iadd, 1) := by decide +kernel
theorem dX8_removeAt_46 : decode cX8_removeAt 46 = .ok (.iaload, 1) := by decide +kernel
theorem dX8_removeAt_47 : decode cX8_removeAt 47 = .ok (.iastore, 1) := by decide +kernel
theorem dX8_removeAt_48 : decode cX8_removeAt 48 = .ok (.iinc 2 1, 3) := by decide +kernel
theorem dX8_removeAt_51 : decode cX8_removeAt 51 = .ok (.goto (-39), 3) := by decide +kernel
theorem dX8_removeAt_54 : decode cX8_removeAt 54 = .ok (.aload_n 0, 1) := by decide +kernel
theorem dX8_removeAt_55 : decode cX8_removeAt 55 = .ok (.getfield 18, 3) := by decide +kernel
theorem dX8_removeAt_58 : decode cX8_removeAt 58 = .ok (.ireturn, 1) := by decide +kernel
theorem dX9_init_0 : decode cX9_init 0 = .ok (.aload_n 0, 1) := by decide +kernel
theorem dX9_init_1 : decode cX9_init 1 = .ok (.invokespecial 3, 3) := by decide +kernel
theorem dX9_init_4 : decode cX9_init 4 = .ok (.aload_n 0, 1) := by decide +kernel
theorem dX9_init_5 : decode cX9_init 5 = .ok (.new 9, 3) := by decide +kernel
theorem dX9_init_8 : decode cX9_init 8 = .ok (.dup, 1) := by decide +kernel
theorem dX9_init_9 : decode cX9_init 9 = .ok (.invokespecial 11, 3) := by decide +kernel
theorem dX9_init_12 : decode cX9_init 12 = .ok (.putfield 12, 3) := by decide +kernel
theorem dX9_init_15 : decode cX9_init 15 = .ok (.aload_n 0, 1) := by decide +kernel
theorem dX9_init_16 : decode cX9_init 16 = .ok (.new 9, 3) := by decide +kernel
theorem dX9_init_19 : decode cX9_init 19 = .ok (.dup, 1) := by decide +kernel
theorem dX9_init_20 : decode cX9_init 20 = .ok (.invokespecial 11, 3) := by decide +kernel
theorem dX9_init_23 : decode cX9_init 23 = .ok (.putfield 16, 3) := by decide +kernel
theorem dX9_init_26 : decode cX9_init 26 = .ok (.aload_n 0, 1) := by decide +kernel
theorem dX9_init_27 : decode cX9_init 27 = .ok (.new 9, 3) := by decide +kernel
theorem dX9_init_30 : decode cX9_init 30 = .ok (.dup, 1) := by decide +kernel
theorem dX9_init_31 : decode cX9_init 31 = .ok (.invokespecial 11, 3) := by decide +kernel
theorem dX9_init_34 : decode cX9_init 34 = .ok (.putfield 19, 3) := by decide +kernel
theorem dX9_init_37 : decode cX9_init 37 = .ok (.aload_n 0, 1) := by decide +kernel
theorem dX9_init_38 : decode cX9_init 38 = .ok (.iconst 0, 1) := by decide +kernel
theorem dX9_init_39 : decode cX9_init 39 = .ok (.putfield 22, 3) := by decide +kernel
theorem dX9_init_42 : decode cX9_init 42 = .ok (.aload_n 0, 1) := by decide +kernel
theorem dX9_init_43 : decode cX9_init 43 = .ok (.new 26, 3) := by decide +kernel
theorem dX9_init_46 : decode cX9_init 46 = .ok (.dup, 1) := by decide +kernel
theorem dX9_init_47 : decode cX9_init 47 = .ok (.invokespecial 28, 3) := by decide +kernel
theorem dX9_init_50 : decode cX9_init 50 = .ok (.putfield 29, 3) := by decide +kernel
theorem dX9_init_53 : decode cX9_init 53 = .ok (.aload_n 0, 1) := by decide +kernel
theorem dX9_init_54 : decode cX9_init 54 = .ok (.new 33, 3) := by decide +kernel
theorem dX9_init_57 : decode cX9_init 57 = .ok (.dup, 1) := by decide +kernel
theorem dX9_init_58 : decode cX9_init 58 = .ok (.invokespecial 35, 3) := by decide +kernel
theorem dX9_init_61 : decode cX9_init 61 = .ok (.putfield 36, 3) := by decide +kernel
theorem dX9_init_64 : decode cX9_init 64 = .ok (.aload_n 0, 1) := by decide +kernel
theorem dX9_init_65 : decode cX9_init 65 = .ok (.iconst (-1), 1) := by decide +kernel
theorem dX9_init_66 : decode cX9_init 66 = .ok (.putfield 40, 3) := by decide +kernel
theorem dX9_init_69 : decode cX9_init 69 = .ok (.aload_n 0, 1) := by decide +kernel
theorem dX9_init_70 : decode cX9_init 70 = .ok (.iconst (-1), 1) := by decide +kernel
theorem dX9_init_71 : decode cX9_init 71 = .ok (.putfield 44, 3) := by decide +kernel
theorem dX9_init_74 : decode cX9_init 74 = .ok (.aload_n 0, 1) := by decide +kernel
theorem dX9_init_75 : decode cX9_init 75 = .ok (.bipush 45, 2) := by decide +kernel
theorem dX9_init_77 : decode cX9_init 77 = .ok (.putfield 47, 3) := by decide +kernel
theorem dX9_init_80 : decode cX9_init 80 = .ok (.aload_n 0, 1) := by decide +kernel
theorem dX9_init_81 : decode cX9_init 81 = .ok (.new 51, 3) := by decide +kernel
theorem dX9_init_84 : decode cX9_init 84 = .ok (.dup, 1) := by decide +kernel
theorem dX9_init_85 : decode cX9_init 85 = .ok (.invokespecial 53, 3) := by decide +kernel
theorem dX9_init_88 : decode cX9_init 88 = .ok (.putfield 54, 3) := by decide +kernel
theorem dX9_init_91 : decode cX9_init 91 = .ok (.aload_n 0, 1) := by decide +kernel
theorem dX9_init_92 : decode cX9_init 92 = .ok (.sipush 141, 3) := by decide +kernel
theorem dX9_init_95 : decode cX9_init 95 = .ok (.newarray .int, 2) := by decide +kernel
theorem dX9_init_97 : decode cX9_init 97 = .ok (.putfield 58, 3) := by decide +kernel
theorem dX9_init_100 : decode cX9_init 100 = .ok (.return_, 1) := by decide +kernel
theorem dX9_addLake_0 : decode cX9_addLake 0 = .ok (.aload_n 0, 1) := by decide +kernel
theorem dX9_addLake_1 : decode cX9_addLake 1 = .ok (.getfield 12, 3) := by decide +kernel
theorem dX9_addLake_4 : decode cX9_addLake 4 = .ok (.iload_n 1, 1) := by decide +kernel
theorem dX9_addLake_5 : decode cX9_addLake 5 = .ok (.invokevirtual 62, 3) := by decide +kernel
theorem dX9_addLake_8 : decode cX9_addLake 8 = .ok (.invokestatic 66, 3) := by decide +kernel
theorem dX9_addLake_11 : decode cX9_addLake 11 = .ok (.aload_n 0, 1) := by decide +kernel
theorem dX9_addLake_12 : decode cX9_addLake 12 = .ok (.getfield 29, 3) := by decide +kernel
theorem dX9_addLake_15 : decode cX9_addLake 15 = .ok (.aload_n 0, 1) := by decide +kernel
theorem dX9_addLake_16 : decode cX9_addLake 16 = .ok (.getfield 12, 3) := by decide +kernel
theorem dX9_addLake_19 : decode cX9_addLake 19 = .ok (.invokevirtual 70, 3) := by decide +kernel
theorem dX9_addLake_22 : decode cX9_addLake 22 = .ok (.aload_n 0, 1) := by decide +kernel
theorem dX9_addLake_23 : decode cX9_addLake 23 = .ok (.getfield 12, 3) := by decide +kernel
theorem dX9_addLake_26 : decode cX9_addLake 26 = .ok (.iload_n 1, 1) := by decide +kernel
theorem dX9_addLake_27 : decode cX9_addLake 27 = .ok (.invokevirtual 74, 3) := by decide +kernel
theorem dX9_addLake_30 : decode cX9_addLake 30 = .ok (.ireturn, 1) := by decide +kernel
theorem dX9_freeze_0 : decode cX9_freeze 0 = .ok (.aload_n 0, 1) := by decide +kernel
theorem dX9_freeze_1 : decode cX9_freeze 1 = .ok (.getfield 12, 3) := by decide +kernel
theorem dX9_freeze_4 : decode cX9_freeze 4 = .ok (.iload_n 1, 1) := by decide +kernel
theorem dX9_freeze_5 : decode cX9_freeze 5 = .ok (.iload_n 2, 1) := by decide +kernel
theorem dX9_freeze_6 : decode cX9_freeze 6 = .ok (.iload_n 3, 1) := by decide +kernel
theorem dX9_freeze_7 : decode cX9_freeze 7 = .ok (.invokevirtual 78, 3) := by decide +kernel
theorem dX9_freeze_10 : decode cX9_freeze 10 = .ok (.invokestatic 66, 3) := by decide +kernel
theorem dX9_freeze_13 : decode cX9_freeze 13 = .ok (.aload_n 0, 1) := by decide +kernel
theorem dX9_freeze_14 : decode cX9_freeze 14 = .ok (.getfield 29, 3) := by decide +kernel
theorem dX9_freeze_17 : decode cX9_freeze 17 = .ok (.aload_n 0, 1) := by decide +kernel
theorem dX9_freeze_18 : decode cX9_freeze 18 = .ok (.getfield 12, 3) := by decide +kernel
theorem dX9_freeze_21 : decode cX9_freeze 21 = .ok (.invokevirtual 70, 3) := by decide +kernel
theorem dX9_freeze_24 : decode cX9_freeze 24 = .ok (.aload_n 0, 1) := by decide +kernel
theorem dX9_freeze_25 : decode cX9_freeze 25 = .ok (.getfield 12, 3) := by decide +kernel
theorem dX9_freeze_28 : decode cX9_freeze 28 = .ok (.iload_n 1, 1) := by decide +kernel
theorem dX9_freeze_29 : decode cX9_freeze 29 = .ok (.iload_n 2, 1) := by decide +kernel
theorem dX9_freeze_30 : decode cX9_freeze 30 = .ok (.iload_n 3, 1) := by decide +kernel
theorem dX9_freeze_31 : decode cX9_freeze 31 = .ok (.invokevirtual 82, 3) := by decide +kernel
theorem dX9_freeze_34 : decode cX9_freeze 34 = .ok (.ireturn, 1) := by decide +kernel
theorem dX9_lakeCount_0 : decode cX9_lakeCount 0 = .ok (.aload_n 0, 1) := by decide +kernel
theorem dX9_lakeCount_1 : decode cX9_lakeCount 1 = .ok (.getfield 12, 3) := by decide +kernel
theorem dX9_lakeCount_4 : decode cX9_lakeCount 4 = .ok (.getfield 86, 3) := by decide +kernel
theorem dX9_lakeCount_7 : decode cX9_lakeCount 7 = .ok (.ireturn, 1) := by decide +kernel
theorem dX9_depth_0 : decode cX9_depth 0 = .ok (.aload_n 0, 1) := by decide +kernel
theorem dX9_depth_1 : decode cX9_depth 1 = .ok (.iload_n 1, 1) := by decide +kernel
theorem dX9_depth_2 : decode cX9_depth 2 = .ok (.invokevirtual 89, 3) := by decide +kernel
theorem dX9_depth_5 : decode cX9_depth 5 = .ok (.getfield 93, 3) := by decide +kernel
theorem dX9_depth_8 : decode cX9_depth 8 = .ok (.ireturn, 1) := by decide +kernel
theorem dX9_layerCount_0 : decode cX9_layerCount 0 = .ok (.aload_n 0, 1) := by decide +kernel
theorem dX9_layerCount_1 : decode cX9_layerCount 1 = .ok (.iload_n 1, 1) := by decide +kernel
theorem dX9_layerCount_2 : decode cX9_layerCount 2 = .ok (.invokevirtual 89, 3) := by decide +kernel
theorem dX9_layerCount_5 : decode cX9_layerCount 5 = .ok (.getfield 98, 3) := by decide +kernel
theorem dX9_layerCount_8 : decode cX9_layerCount 8 = .ok (.ireturn, 1) := by decide +kernel
theorem dX9_thickness_0 : decode cX9_thickness 0 = .ok (.aload_n 0, 1) := by decide +kernel
theorem dX9_thickness_1 : decode cX9_thickness 1 = .ok (.iload_n 1, 1) := by decide +kernel
theorem dX9_thickness_2 : decode cX9_thickness 2 = .ok (.iload_n 2, 1) := by decide +kernel
theorem dX9_thickness_3 : decode cX9_thickness 3 = .ok (.invokevirtual 101, 3) := by decide +kernel
theorem dX9_thickness_6 : decode cX9_thickness 6 = .ok (.getfield 105, 3) := by decide +kernel
theorem dX9_thickness_9 : decode cX9_thickness 9 = .ok (.iload_n 2, 1) := by decide +kernel
theorem dX9_thickness_10 : decode cX9_thickness 10 = .ok (.iaload, 1) := by decide +kernel
theorem dX9_thickness_11 : decode cX9_thickness 11 = .ok (.ireturn, 1) := by decide +kernel
theorem dX9_temperature_0 : decode cX9_temperature 0 = .ok (.aload_n 0, 1) := by decide +kernel
theorem dX9_temperature_1 : decode cX9_temperature 1 = .ok (.iload_n 1, 1) := by decide +kernel
theorem dX9_temperature_2 : decode cX9_temperature 2 = .ok (.iload_n 2, 1) := by decide +kernel
theorem dX9_temperature_3 : decode cX9_temperature 3 = .ok (.invokevirtual 101, 3) := by decide +kernel
theorem dX9_temperature_6 : decode cX9_temperature 6 = .ok (.getfield 108, 3) := by decide +kernel
theorem dX9_temperature_9 : decode cX9_temperature 9 = .ok (.iload_n 2, 1) := by decide +kernel
theorem dX9_temperature_10 : decode cX9_temperature 10 = .ok (.iaload, 1) := by decide +kernel
theorem dX9_temperature_11 : decode cX9_temperature 11 = .ok (.ireturn, 1) := by decide +kernel
theorem dX9_strain_0 : decode cX9_strain 0 = .ok (.aload_n 0, 1) := by decide +kernel
theorem dX9_strain_1 : decode cX9_strain 1 = .ok (.iload_n 1, 1) := by decide +kernel
theorem dX9_strain_2 : decode cX9_strain 2 = .ok (.iload_n 2, 1) := by decide +kernel
theorem dX9_strain_3 : decode cX9_strain 3 = .ok (.invokevirtual 101, 3) := by decide +kernel
theorem dX9_strain_6 : decode cX9_strain 6 = .ok (.getfield 111, 3) := by decide +kernel
theorem dX9_strain_9 : decode cX9_strain 9 = .ok (.iload_n 2, 1) := by decide +kernel
theorem dX9_strain_10 : decode cX9_strain 10 = .ok (.iaload, 1) := by decide +kernel
theorem dX9_strain_11 : decode cX9_strain 11 = .ok (.ireturn, 1) := by decide +kernel
theorem dX9_iceThickness_0 : decode cX9_iceThickness 0 = .ok (.aload_n 0, 1) := by decide +kernel
theorem dX9_iceThickness_1 : decode cX9_iceThickness 1 = .ok (.iload_n 1, 1) := by decide +kernel
theorem dX9_iceThickness_2 : decode cX9_iceThickness 2 = .ok (.invokevirtual 89, 3) := by decide +kernel
theorem dX9_iceThickness_5 : decode cX9_iceThickness 5 = .ok (.invokevirtual 114, 3) := by decide +kernel
theorem dX9_iceThickness_8 : decode cX9_iceThickness 8 = .ok (.ireturn, 1) := by decide +kernel
theorem dX9_iceThicknessByHalves_0 : decode cX9_iceThicknessByHalves 0 = .ok (.aload_n 0, 1) := by decide +kernel
theorem dX9_iceThicknessByHalves_1 : decode cX9_iceThicknessByHalves 1 = .ok (.iload_n 1, 1) := by decide +kernel
theorem dX9_iceThicknessByHalves_2 : decode cX9_iceThicknessByHalves 2 = .ok (.invokevirtual 89, 3) := by decide +kernel
theorem dX9_iceThicknessByHalves_5 : decode cX9_iceThicknessByHalves 5 = .ok (.invokevirtual 118, 3) := by decide +kernel
theorem dX9_iceThicknessByHalves_8 : decode cX9_iceThicknessByHalves 8 = .ok (.ireturn, 1) := by decide +kernel
theorem dX9_layerAt_0 : decode cX9_layerAt 0 = .ok (.aload_n 0, 1) := by decide +kernel
theorem dX9_layerAt_1 : decode cX9_layerAt 1 = .ok (.iload_n 1, 1) := by decide +kernel
theorem dX9_layerAt_2 : decode cX9_layerAt 2 = .ok (.invokevirtual 89, 3) := by decide +kernel
theorem dX9_layerAt_5 : decode cX9_layerAt 5 = .ok (.iload_n 2, 1) := by decide +kernel
theorem dX9_layerAt_6 : decode cX9_layerAt 6 = .ok (.invokevirtual 121, 3) := by decide +kernel
theorem dX9_layerAt_9 : decode cX9_layerAt 9 = .ok (.istore_n 3, 1) := by decide +kernel
theorem dX9_layerAt_10 : decode cX9_layerAt 10 = .ok (.iload_n 3, 1) := by decide +kernel
theorem dX9_layerAt_11 : decode cX9_layerAt 11 = .ok (.iconst (-1), 1) := by decide +kernel
theorem dX9_layerAt_12 : decode cX9_layerAt 12 = .ok (.if_icmp .ne 13, 3) := by decide +kernel
theorem dX9_layerAt_15 : decode cX9_layerAt 15 = .ok (.new 124, 3) := by decide +kernel
theorem dX9_layerAt_18 : decode cX9_layerAt 18 = .ok (.dup, 1) := by decide +kernel
theorem dX9_layerAt_19 : decode cX9_layerAt 19 = .ok (.ldc 126, 2) := by decide +kernel
theorem dX9_layerAt_21 : decode cX9_layerAt 21 = .ok (.invokespecial 128, 3) := by decide +kernel
theorem dX9_layerAt_24 : decode cX9_layerAt 24 = .ok (.athrow, 1) := by decide +kernel
theorem dX9_layerAt_25 : decode cX9_layerAt 25 = .ok (.iload_n 3, 1) := by decide +kernel
theorem dX9_layerAt_26 : decode cX9_layerAt 26 = .ok (.ireturn, 1) := by decide +kernel
theorem dX9_setAir_0 : decode cX9_setAir 0 = .ok (.aload_n 0, 1) := by decide +kernel
theorem dX9_setAir_1 : decode cX9_setAir 1 = .ok (.getfield 12, 3) := by decide +kernel
theorem dX9_setAir_4 : decode cX9_setAir 4 = .ok (.iload_n 1, 1) := by decide +kernel
theorem dX9_setAir_5 : decode cX9_setAir 5 = .ok (.invokevirtual 131, 3) := by decide +kernel
theorem dX9_setAir_8 : decode cX9_setAir 8 = .ok (.invokestatic 66, 3) := by decide +kernel
theorem dX9_setAir_11 : decode cX9_setAir 11 = .ok (.aload_n 0, 1) := by decide +kernel
theorem dX9_setAir_12 : decode cX9_setAir 12 = .ok (.getfield 29, 3) := by decide +kernel
theorem dX9_setAir_15 : decode cX9_setAir 15 = .ok (.aload_n 0, 1) := by decide +kernel
theorem dX9_setAir_16 : decode cX9_setAir 16 = .ok (.getfield 12, 3) := by decide +kernel
theorem dX9_setAir_19 : decode cX9_setAir 19 = .ok (.invokevirtual 70, 3) := by decide +kernel
theorem dX9_setAir_22 : decode cX9_setAir 22 = .ok (.aload_n 0, 1) := by decide +kernel
theorem dX9_setAir_23 : decode cX9_setAir 23 = .ok (.getfield 12, 3) := by decide +kernel
theorem dX9_setAir_26 : decode cX9_setAir 26 = .ok (.iload_n 1, 1) := by decide +kernel
theorem dX9_setAir_27 : decode cX9_setAir 27 = .ok (.invokevirtual 134, 3) := by decide +kernel
theorem dX9_setAir_30 : decode cX9_setAir 30 = .ok (.ireturn, 1) := by decide +kernel
theorem dX9_air_0 : decode cX9_air 0 = .ok (.aload_n 0, 1) := by decide +kernel
theorem dX9_air_1 : decode cX9_air 1 = .ok (.getfield 12, 3) := by decide +kernel
theorem dX9_air_4 : decode cX9_air 4 = .ok (.getfield 137, 3) := by decide +kernel
theorem dX9_air_7 : decode cX9_air 7 = .ok (.ireturn, 1) := by decide +kernel
theorem dX9_pass_0 : decode cX9_pass 0 = .ok (.aload_n 0, 1) := by decide +kernel
theorem dX9_pass_1 : decode cX9_pass 1 = .ok (.getfield 12, 3) := by decide +kernel
theorem dX9_pass_4 : decode cX9_pass 4 = .ok (.iload_n 1, 1) := by decide +kernel
theorem dX9_pass_5 : decode cX9_pass 5 = .ok (.invokevirtual 140, 3) := by decide +kernel
theorem dX9_pass_8 : decode cX9_pass 8 = .ok (.invokestatic 66, 3) := by decide +kernel
theorem dX9_pass_11 : decode cX9_pass 11 = .ok (.aload_n 0, 1) := by decide +kernel
theorem dX9_pass_12 : decode cX9_pass 12 = .ok (.getfield 29, 3) := by decide +kernel
theorem dX9_pass_15 : decode cX9_pass 15 = .ok (.aload_n 0, 1) := by decide +kernel
theorem dX9_pass_16 : decode cX9_pass 16 = .ok (.getfield 12, 3) := by decide +kernel
theorem dX9_pass_19 : decode cX9_pass 19 = .ok (.invokevirtual 70, 3) := by decide +kernel
theorem dX9_pass_22 : decode cX9_pass 22 = .ok (.aload_n 0, 1) := by decide +kernel
theorem dX9_pass_23 : decode cX9_pass 23 = .ok (.getfield 12, 3) := by decide +kernel
theorem dX9_pass_26 : decode cX9_pass 26 = .ok (.iload_n 1, 1) := by decide +kernel
theorem dX9_pass_27 : decode cX9_pass 27 = .ok (.invokevirtual 143, 3) := by decide +kernel
theorem dX9_pass_30 : decode cX9_pass 30 = .ok (.ireturn, 1) := by decide +kernel
theorem dX9_hour_0 : decode cX9_hour 0 = .ok (.aload_n 0, 1) := by decide +kernel
theorem dX9_hour_1 : decode cX9_hour 1 = .ok (.getfield 12, 3) := by decide +kernel
theorem dX9_hour_4 : decode cX9_hour 4 = .ok (.getfield 146, 3) := by decide +kernel
theorem dX9_hour_7 : decode cX9_hour 7 = .ok (.ireturn, 1) := by decide +kernel
theorem dX9_hoursUntilCrack_0 : decode cX9_hoursUntilCrack 0 = .ok (.aload_n 0, 1) := by decide +kernel
theorem dX9_hoursUntilCrack_1 : decode cX9_hoursUntilCrack 1 = .ok (.getfield 16, 3) := by decide +kernel
theorem dX9_hoursUntilCrack_4 : decode cX9_hoursUntilCrack 4 = .ok (.aload_n 0, 1) := by decide +kernel
theorem dX9_hoursUntilCrack_5 : decode cX9_hoursUntilCrack 5 = .ok (.getfield 12, 3) := by decide +kernel
theorem dX9_hoursUntilCrack_8 : decode cX9_hoursUntilCrack 8 = .ok (.invokevirtual 149, 3) := by decide +kernel
theorem dX9_hoursUntilCrack_11 : decode cX9_hoursUntilCrack 11 = .ok (.iconst 1, 1) := by decide +kernel
theorem dX9_hoursUntilCrack_12 : decode cX9_hoursUntilCrack 12 = .ok (.istore_n 1, 1) := by decide +kernel
theorem dX9_hoursUntilCrack_13 : decode cX9_hoursUntilCrack 13 = .ok (.iload_n 1, 1) := by decide +kernel
theorem dX9_hoursUntilCrack_14 : decode cX9_hoursUntilCrack 14 = .ok (.bipush 96, 2) := by decide +kernel
theorem dX9_hoursUntilCrack_16 : decode cX9_hoursUntilCrack 16 = .ok (.if_icmp .gt 21, 3) := by decide +kernel
theorem dX9_hoursUntilCrack_19 : decode cX9_hoursUntilCrack 19 = .ok (.aload_n 0, 1) := by decide +kernel
theorem dX9_hoursUntilCrack_20 : decode cX9_hoursUntilCrack 20 = .ok (.getfield 16, 3) := by decide +kernel
theorem dX9_hoursUntilCrack_23 : decode cX9_hoursUntilCrack 23 = .ok (.invokevirtual 152, 3) := by decide +kernel
theorem dX9_hoursUntilCrack_26 : decode cX9_hoursUntilCrack 26 = .ok (.ifCond .le 5, 3) := by decide +kernel
theorem dX9_hoursUntilCrack_29 : decode cX9_hoursUntilCrack 29 = .ok (.iload_n 1, 1) := by decide +kernel
theorem dX9_hoursUntilCrack_30 : decode cX9_hoursUntilCrack 30 = .ok (.ireturn, 1) := by decide +kernel
theorem dX9_hoursUntilCrack_31 : decode cX9_hoursUntilCrack 31 = .ok (.iinc 1 1, 3) := by decide +kernel
theorem dX9_hoursUntilCrack_34 : decode cX9_hoursUntilCrack 34 = .ok (.goto (-21), 3) := by decide +kernel
theorem dX9_hoursUntilCrack_37 : decode cX9_hoursUntilCrack 37 = .ok (.new 124, 3) := by decide +kernel
theorem dX9_hoursUntilCrack_40 : decode cX9_hoursUntilCrack 40 = .ok (.dup, 1) := by decide +kernel
theorem dX9_hoursUntilCrack_41 : decode cX9_hoursUntilCrack 41 = .ok (.ldc 155, 2) := by decide +kernel
theorem dX9_hoursUntilCrack_43 : decode cX9_hoursUntilCrack 43 = .ok (.invokespecial 128, 3) := by decide +kernel
theorem dX9_hoursUntilCrack_46 : decode cX9_hoursUntilCrack 46 = .ok (.athrow, 1) := by decide +kernel
theorem dX9_hoursUntilThawed_0 : decode cX9_hoursUntilThawed 0 = .ok (.aload_n 0, 1) := by decide +kernel
theorem dX9_hoursUntilThawed_1 : decode cX9_hoursUntilThawed 1 = .ok (.iload_n 1, 1) := by decide +kernel
theorem dX9_hoursUntilThawed_2 : decode cX9_hoursUntilThawed 2 = .ok (.invokevirtual 89, 3) := by decide +kernel
theorem dX9_hoursUntilThawed_5 : decode cX9_hoursUntilThawed 5 = .ok (.getfield 98, 3) := by decide +kernel
theorem dX9_hoursUntilThawed_8 : decode cX9_hoursUntilThawed 8 = .ok (.ifCond .ne 5, 3) := by decide +kernel
theorem dX9_hoursUntilThawed_11 : decode cX9_hoursUntilThawed 11 = .ok (.iconst 0, 1) := by decide +kernel
theorem dX9_hoursUntilThawed_12 : decode cX9_hoursUntilThawed 12 = .ok (.ireturn, 1) := by decide +kernel
theorem dX9_hoursUntilThawed_13 : decode cX9_hoursUntilThawed 13 = .ok (.aload_n 0, 1) := by decide +kernel
theorem dX9_hoursUntilThawed_14 : decode cX9_hoursUntilThawed 14 = .ok (.getfield 16, 3) := by decide +kernel
theorem dX9_hoursUntilThawed_17 : decode cX9_hoursUntilThawed 17 = .ok (.aload_n 0, 1) := by decide +kernel
theorem dX9_hoursUntilThawed_18 : decode cX9_hoursUntilThawed 18 = .ok (.getfield 12, 3) := by decide +kernel
theorem dX9_hoursUntilThawed_21 : decode cX9_hoursUntilThawed 21 = .ok (.invokevirtual 149, 3) := by decide +kernel
theorem dX9_hoursUntilThawed_24 : decode cX9_hoursUntilThawed 24 = .ok (.iconst 1, 1) := by decide +kernel
theorem dX9_hoursUntilThawed_25 : decode cX9_hoursUntilThawed 25 = .ok (.istore_n 2, 1) := by decide +kernel
theorem dX9_hoursUntilThawed_26 : decode cX9_hoursUntilThawed 26 = .ok (.iload_n 2, 1) := by decide +kernel
theorem dX9_hoursUntilThawed_27 : decode cX9_hoursUntilThawed 27 = .ok (.bipush 96, 2) := by decide +kernel
theorem dX9_hoursUntilThawed_29 : decode cX9_hoursUntilThawed 29 = .ok (.if_icmp .gt 34, 3) := by decide +kernel
theorem dX9_hoursUntilThawed_32 : decode cX9_hoursUntilThawed 32 = .ok (.aload_n 0, 1) := by decide +kernel
theorem dX9_hoursUntilThawed_33 : decode cX9_hoursUntilThawed 33 = .ok (.getfield 16, 3) := by decide +kernel
theorem dX9_hoursUntilThawed_36 : decode cX9_hoursUntilThawed 36 = .ok (.invokevirtual 152, 3) := by decide +kernel
theorem dX9_hoursUntilThawed_39 : decode cX9_hoursUntilThawed 39 = .ok (.pop, 1) := by decide +kernel
theorem dX9_hoursUntilThawed_40 : decode cX9_hoursUntilThawed 40 = .ok (.aload_n 0, 1) := by decide +kernel
theorem dX9_hoursUntilThawed_41 : decode cX9_hoursUntilThawed 41 = .ok (.getfield 16, 3) := by decide +kernel
theorem dX9_hoursUntilThawed_44 : decode cX9_hoursUntilThawed 44 = .ok (.getfield 157, 3) := by decide +kernel
theorem dX9_hoursUntilThawed_47 : decode cX9_hoursUntilThawed 47 = .ok (.iload_n 1, 1) := by decide +kernel
theorem dX9_hoursUntilThawed_48 : decode cX9_hoursUntilThawed 48 = .ok (.aaload, 1) := by decide +kernel
theorem dX9_hoursUntilThawed_49 : decode cX9_hoursUntilThawed 49 = .ok (.getfield 98, 3) := by decide +kernel
theorem dX9_hoursUntilThawed_52 : decode cX9_hoursUntilThawed 52 = .ok (.ifCond .ne 5, 3) := by decide +kernel
theorem dX9_hoursUntilThawed_55 : decode cX9_hoursUntilThawed 55 = .ok (.iload_n 2, 1) := by decide +kernel
theorem dX9_hoursUntilThawed_56 : decode cX9_hoursUntilThawed 56 = .ok (.ireturn, 1) := by decide +kernel
theorem dX9_hoursUntilThawed_57 : decode cX9_hoursUntilThawed 57 = .ok (.iinc 2 1, 3) := by decide +kernel
theorem dX9_hoursUntilThawed_60 : decode cX9_hoursUntilThawed 60 = .ok (.goto (-34), 3) := by decide +kernel
theorem dX9_hoursUntilThawed_63 : decode cX9_hoursUntilThawed 63 = .ok (.new 124, 3) := by decide +kernel
theorem dX9_hoursUntilThawed_66 : decode cX9_hoursUntilThawed 66 = .ok (.dup, 1) := by decide +kernel
theorem dX9_hoursUntilThawed_67 : decode cX9_hoursUntilThawed 67 = .ok (.ldc 161, 2) := by decide +kernel
theorem dX9_hoursUntilThawed_69 : decode cX9_hoursUntilThawed 69 = .ok (.invokespecial 128, 3) := by decide +kernel
theorem dX9_hoursUntilThawed_72 : decode cX9_hoursUntilThawed 72 = .ok (.athrow, 1) := by decide +kernel
theorem dX9_addWindow_0 : decode cX9_addWindow 0 = .ok (.aload_n 0, 1) := by decide +kernel
theorem dX9_addWindow_1 : decode cX9_addWindow 1 = .ok (.getfield 12, 3) := by decide +kernel
theorem dX9_addWindow_4 : decode cX9_addWindow 4 = .ok (.iload_n 1, 1) := by decide +kernel
theorem dX9_addWindow_5 : decode cX9_addWindow 5 = .ok (.iload_n 2, 1) := by decide +kernel
theorem dX9_addWindow_6 : decode cX9_addWindow 6 = .ok (.invokevirtual 163, 3) := by decide +kernel
theorem dX9_addWindow_9 : decode cX9_addWindow 9 = .ok (.invokestatic 66, 3) := by decide +kernel
theorem dX9_addWindow_12 : decode cX9_addWindow 12 = .ok (.aload_n 0, 1) := by decide +kernel
theorem dX9_addWindow_13 : decode cX9_addWindow 13 = .ok (.getfield 29, 3) := by decide +kernel
theorem dX9_addWindow_16 : decode cX9_addWindow 16 = .ok (.aload_n 0, 1) := by decide +kernel
theorem dX9_addWindow_17 : decode cX9_addWindow 17 = .ok (.getfield 12, 3) := by decide +kernel
theorem dX9_addWindow_20 : decode cX9_addWindow 20 = .ok (.invokevirtual 70, 3) := by decide +kernel
theorem dX9_addWindow_23 : decode cX9_addWindow 23 = .ok (.aload_n 0, 1) := by decide +kernel
theorem dX9_addWindow_24 : decode cX9_addWindow 24 = .ok (.getfield 12, 3) := by decide +kernel
theorem dX9_addWindow_27 : decode cX9_addWindow 27 = .ok (.getfield 167, 3) := by decide +kernel
theorem dX9_addWindow_30 : decode cX9_addWindow 30 = .ok (.iload_n 1, 1) := by decide +kernel
theorem dX9_addWindow_31 : decode cX9_addWindow 31 = .ok (.iload_n 2, 1) := by decide +kernel
theorem dX9_addWindow_32 : decode cX9_addWindow 32 = .ok (.invokevirtual 171, 3) := by decide +kernel
theorem dX9_addWindow_35 : decode cX9_addWindow 35 = .ok (.ireturn, 1) := by decide +kernel
theorem dX9_removeWindow_0 : decode cX9_removeWindow 0 = .ok (.aload_n 0, 1) := by decide +kernel
theorem dX9_removeWindow_1 : decode cX9_removeWindow 1 = .ok (.getfield 12, 3) := by decide +kernel
theorem dX9_removeWindow_4 : decode cX9_removeWindow 4 = .ok (.iload_n 1, 1) := by decide +kernel
theorem dX9_removeWindow_5 : decode cX9_removeWindow 5 = .ok (.invokevirtual 177, 3) := by decide +kernel
theorem dX9_removeWindow_8 : decode cX9_removeWindow 8 = .ok (.invokestatic 66, 3) := by decide +kernel
theorem dX9_removeWindow_11 : decode cX9_removeWindow 11 = .ok (.aload_n 0, 1) := by decide +kernel
theorem dX9_removeWindow_12 : decode cX9_removeWindow 12 = .ok (.getfield 29, 3) := by decide +kernel
theorem dX9_removeWindow_15 : decode cX9_removeWindow 15 = .ok (.aload_n 0, 1) := by decide +kernel
theorem dX9_removeWindow_16 : decode cX9_removeWindow 16 = .ok (.getfield 12, 3) := by decide +kernel
theorem dX9_removeWindow_19 : decode cX9_removeWindow 19 = .ok (.invokevirtual 70, 3) := by decide +kernel
theorem dX9_removeWindow_22 : decode cX9_removeWindow 22 = .ok (.aload_n 0, 1) := by decide +kernel
theorem dX9_removeWindow_23 : decode cX9_removeWindow 23 = .ok (.getfield 12, 3) := by decide +kernel
theorem dX9_removeWindow_26 : decode cX9_removeWindow 26 = .ok (.getfield 167, 3) := by decide +kernel
theorem dX9_removeWindow_29 : decode cX9_removeWindow 29 = .ok (.iload_n 1, 1) := by decide +kernel
theorem dX9_removeWindow_30 : decode cX9_removeWindow 30 = .ok (.invokevirtual 180, 3) := by decide +kernel
theorem dX9_removeWindow_33 : decode cX9_removeWindow 33 = .ok (.ireturn, 1) := by decide +kernel
theorem dX9_windowCount_0 : decode cX9_windowCount 0 = .ok (.aload_n 0, 1) := by decide +kernel
theorem dX9_windowCount_1 : decode cX9_windowCount 1 = .ok (.getfield 12, 3) := by decide +kernel
theorem dX9_windowCount_4 : decode cX9_windowCount 4 = .ok (.getfield 167, 3) := by decide +kernel
theorem dX9_windowCount_7 : decode cX9_windowCount 7 = .ok (.getfield 183, 3) := by decide +kernel
theorem dX9_windowCount_10 : decode cX9_windowCount 10 = .ok (.ireturn, 1) := by decide +kernel
theorem dX9_windowFirst_0 : decode cX9_windowFirst 0 = .ok (.aload_n 0, 1) := by decide +kernel
theorem dX9_windowFirst_1 : decode cX9_windowFirst 1 = .ok (.getfield 12, 3) := by decide +kernel
theorem dX9_windowFirst_4 : decode cX9_windowFirst 4 = .ok (.iload_n 1, 1) := by decide +kernel
theorem dX9_windowFirst_5 : decode cX9_windowFirst 5 = .ok (.invokevirtual 177, 3) := by decide +kernel
theorem dX9_windowFirst_8 : decode cX9_windowFirst 8 = .ok (.invokestatic 66, 3) := by decide +kernel
theorem dX9_windowFirst_11 : decode cX9_windowFirst 11 = .ok (.aload_n 0, 1) := by decide +kernel
theorem dX9_windowFirst_12 : decode cX9_windowFirst 12 = .ok (.getfield 12, 3) := by decide +kernel
theorem dX9_windowFirst_15 : decode cX9_windowFirst 15 = .ok (.getfield 167, 3) := by decide +kernel
theorem dX9_windowFirst_18 : decode cX9_windowFirst 18 = .ok (.getfield 186, 3) := by decide +kernel
theorem dX9_windowFirst_21 : decode cX9_windowFirst 21 = .ok (.iload_n 1, 1) := by decide +kernel
theorem dX9_windowFirst_22 : decode cX9_windowFirst 22 = .ok (.iaload, 1) := by decide +kernel
theorem dX9_windowFirst_23 : decode cX9_windowFirst 23 = .ok (.ireturn, 1) := by decide +kernel
theorem dX9_windowLast_0 : decode cX9_windowLast 0 = .ok (.aload_n 0, 1) := by decide +kernel
theorem dX9_windowLast_1 : decode cX9_windowLast 1 = .ok (.getfield 12, 3) := by decide +kernel
theorem dX9_windowLast_4 : decode cX9_windowLast 4 = .ok (.iload_n 1, 1) := by decide +kernel
theorem dX9_windowLast_5 : decode cX9_windowLast 5 = .ok (.invokevirtual 177, 3) := by decide +kernel
theorem dX9_windowLast_8 : decode cX9_windowLast 8 = .ok (.invokestatic 66, 3) := by decide +kernel
theorem dX9_windowLast_11 : decode cX9_windowLast 11 = .ok (.aload_n 0, 1) := by decide +kernel
theorem dX9_windowLast_12 : decode cX9_windowLast 12 = .ok (.getfield 12, 3) := by decide +kernel
theorem dX9_windowLast_15 : decode cX9_windowLast 15 = .ok (.getfield 167, 3) := by decide +kernel
theorem dX9_windowLast_18 : decode cX9_windowLast 18 = .ok (.getfield 189, 3) := by decide +kernel
theorem dX9_windowLast_21 : decode cX9_windowLast 21 = .ok (.iload_n 1, 1) := by decide +kernel
theorem dX9_windowLast_22 : decode cX9_windowLast 22 = .ok (.iaload, 1) := by decide +kernel
theorem dX9_windowLast_23 : decode cX9_windowLast 23 = .ok (.ireturn, 1) := by decide +kernel
theorem dX9_isInWindow_0 : decode cX9_isInWindow 0 = .ok (.aload_n 0, 1) := by decide +kernel
theorem dX9_isInWindow_1 : decode cX9_isInWindow 1 = .ok (.getfield 12, 3) := by decide +kernel
theorem dX9_isInWindow_4 : decode cX9_isInWindow 4 = .ok (.getfield 167, 3) := by decide +kernel
theorem dX9_isInWindow_7 : decode cX9_isInWindow 7 = .ok (.iload_n 1, 1) := by decide +kernel
theorem dX9_isInWindow_8 : decode cX9_isInWindow 8 = .ok (.invokevirtual 192, 3) := by decide +kernel
theorem dX9_isInWindow_11 : decode cX9_isInWindow 11 = .ok (.ireturn, 1) := by decide +kernel
theorem dX9_strike_0 : decode cX9_strike 0 = .ok (.aload_n 0, 1) := by decide +kernel
theorem dX9_strike_1 : decode cX9_strike 1 = .ok (.getfield 12, 3) := by decide +kernel
theorem dX9_strike_4 : decode cX9_strike 4 = .ok (.iload_n 1, 1) := by decide +kernel
theorem dX9_strike_5 : decode cX9_strike 5 = .ok (.iload_n 2, 1) := by decide +kernel
theorem dX9_strike_6 : decode cX9_strike 6 = .ok (.invokevirtual 196, 3) := by decide +kernel
theorem dX9_strike_9 : decode cX9_strike 9 = .ok (.invokestatic 66, 3) := by decide +kernel
theorem dX9_strike_12 : decode cX9_strike 12 = .ok (.aload_n 0, 1) := by decide +kernel
theorem dX9_strike_13 : decode cX9_strike 13 = .ok (.getfield 29, 3) := by decide +kernel
theorem dX9_strike_16 : decode cX9_strike 16 = .ok (.aload_n 0, 1) := by decide +kernel
theorem dX9_strike_17 : decode cX9_strike 17 = .ok (.getfield 12, 3) := by decide +kernel
theorem dX9_strike_20 : decode cX9_strike 20 = .ok (.invokevirtual 70, 3) := by decide +kernel
theorem dX9_strike_23 : decode cX9_strike 23 = .ok (.aload_n 0, 1) := by decide +kernel
theorem dX9_strike_24 : decode cX9_strike 24 = .ok (.getfield 12, 3) := by decide +kernel
theorem dX9_strike_27 : decode cX9_strike 27 = .ok (.iload_n 1, 1) := by decide +kernel
theorem dX9_strike_28 : decode cX9_strike 28 = .ok (.iload_n 2, 1) := by decide +kernel
theorem dX9_strike_29 : decode cX9_strike 29 = .ok (.invokevirtual 199, 3) := by decide +kernel
theorem dX9_strike_32 : decode cX9_strike 32 = .ok (.ireturn, 1) := by decide +kernel
theorem dX9_pitch_0 : decode cX9_pitch 0 = .ok (.aload_n 0, 1) := by decide +kernel
theorem dX9_pitch_1 : decode cX9_pitch 1 = .ok (.getfield 12, 3) := by decide +kernel
theorem dX9_pitch_4 : decode cX9_pitch 4 = .ok (.iload_n 1, 1) := by decide +kernel
theorem dX9_pitch_5 : decode cX9_pitch 5 = .ok (.iload_n 2, 1) := by decide +kernel
theorem dX9_pitch_6 : decode cX9_pitch 6 = .ok (.invokevirtual 196, 3) := by decide +kernel
theorem dX9_pitch_9 : decode cX9_pitch 9 = .ok (.invokestatic 66, 3) := by decide +kernel
theorem dX9_pitch_12 : decode cX9_pitch 12 = .ok (.aload_n 0, 1) := by decide +kernel
theorem dX9_pitch_13 : decode cX9_pitch 13 = .ok (.getfield 12, 3) := by decide +kernel
theorem dX9_pitch_16 : decode cX9_pitch 16 = .ok (.getfield 157, 3) := by decide +kernel
theorem dX9_pitch_19 : decode cX9_pitch 19 = .ok (.iload_n 1, 1) := by decide +kernel
theorem dX9_pitch_20 : decode cX9_pitch 20 = .ok (.aaload, 1) := by decide +kernel
theorem dX9_pitch_21 : decode cX9_pitch 21 = .ok (.iload_n 2, 1) := by decide +kernel
theorem dX9_pitch_22 : decode cX9_pitch 22 = .ok (.invokevirtual 202, 3) := by decide +kernel
theorem dX9_pitch_25 : decode cX9_pitch 25 = .ok (.ireturn, 1) := by decide +kernel
theorem dX9_pealCount_0 : decode cX9_pealCount 0 = .ok (.aload_n 0, 1) := by decide +kernel
theorem dX9_pealCount_1 : decode cX9_pealCount 1 = .ok (.getfield 12, 3) := by decide +kernel
theorem dX9_pealCount_4 : decode cX9_pealCount 4 = .ok (.getfield 205, 3) := by decide +kernel
theorem dX9_pealCount_7 : decode cX9_pealCount 7 = .ok (.getfield 209, 3) := by decide +kernel
theorem dX9_pealCount_10 : decode cX9_pealCount 10 = .ok (.ireturn, 1) := by decide +kernel
theorem dX9_pealKind_0 : decode cX9_pealKind 0 = .ok (.aload_n 0, 1) := by decide +kernel
theorem dX9_pealKind_1 : decode cX9_pealKind 1 = .ok (.getfield 12, 3) := by decide +kernel
theorem dX9_pealKind_4 : decode cX9_pealKind 4 = .ok (.getfield 205, 3) := by decide +kernel
theorem dX9_pealKind_7 : decode cX9_pealKind 7 = .ok (.getfield 212, 3) := by decide +kernel
theorem dX9_pealKind_10 : decode cX9_pealKind 10 = .ok (.aload_n 0, 1) := by decide +kernel
theorem dX9_pealKind_11 : decode cX9_pealKind 11 = .ok (.iload_n 1, 1) := by decide +kernel
theorem dX9_pealKind_12 : decode cX9_pealKind 12 = .ok (.invokevirtual 216, 3) := by decide +kernel
theorem dX9_pealKind_15 : decode cX9_pealKind 15 = .ok (.caload, 1) := by decide +kernel
theorem dX9_pealKind_16 : decode cX9_pealKind 16 = .ok (.ireturn, 1) := by decide +kernel
theorem dX9_pealLake_0 : decode cX9_pealLake 0 = .ok (.aload_n 0, 1) := by decide +kernel
theorem dX9_pealLake_1 : decode cX9_pealLake 1 = .ok (.getfield 12, 3) := by decide +kernel
theorem dX9_pealLake_4 : decode cX9_pealLake 4 = .ok (.getfield 205, 3) := by decide +kernel
theorem dX9_pealLake_7 : decode cX9_pealLake 7 = .ok (.getfield 219, 3) := by decide +kernel
theorem dX9_pealLake_10 : decode cX9_pealLake 10 = .ok (.aload_n 0, 1) := by decide +kernel
theorem dX9_pealLake_11 : decode cX9_pealLake 11 = .ok (.iload_n 1, 1) := by decide +kernel
theorem dX9_pealLake_12 : decode cX9_pealLake 12 = .ok (.invokevirtual 216, 3) := by decide +kernel
theorem dX9_pealLake_15 : decode cX9_pealLake 15 = .ok (.iaload, 1) := by decide +kernel
theorem dX9_pealLake_16 : decode cX9_pealLake 16 = .ok (.ireturn, 1) := by decide +kernel
theorem dX9_pealPitch_0 : decode cX9_pealPitch 0 = .ok (.aload_n 0, 1) := by decide +kernel
theorem dX9_pealPitch_1 : decode cX9_pealPitch 1 = .ok (.getfield 12, 3) := by decide +kernel
theorem dX9_pealPitch_4 : decode cX9_pealPitch 4 = .ok (.getfield 205, 3) := by decide +kernel
theorem dX9_pealPitch_7 : decode cX9_pealPitch 7 = .ok (.getfield 222, 3) := by decide +kernel
theorem dX9_pealPitch_10 : decode cX9_pealPitch 10 = .ok (.aload_n 0, 1) := by decide +kernel
theorem dX9_pealPitch_11 : decode cX9_pealPitch 11 = .ok (.iload_n 1, 1) := by decide +kernel
theorem dX9_pealPitch_12 : decode cX9_pealPitch 12 = .ok (.invokevirtual 216, 3) := by decide +kernel
theorem dX9_pealPitch_15 : decode cX9_pealPitch 15 = .ok (.iaload, 1) := by decide +kernel
theorem dX9_pealPitch_16 : decode cX9_pealPitch 16 = .ok (.ireturn, 1) := by decide +kernel
theorem dX9_pealHour_0 : decode cX9_pealHour 0 = .ok (.aload_n 0, 1) := by decide +kernel
theorem dX9_pealHour_1 : decode cX9_pealHour 1 = .ok (.getfield 12, 3) := by decide +kernel
theorem dX9_pealHour_4 : decode cX9_pealHour 4 = .ok (.getfield 205, 3) := by decide +kernel
theorem dX9_pealHour_7 : decode cX9_pealHour 7 = .ok (.getfield 225, 3) := by decide +kernel
theorem dX9_pealHour_10 : decode cX9_pealHour 10 = .ok (.aload_n 0, 1) := by decide +kernel
theorem dX9_pealHour_11 : decode cX9_pealHour 11 = .ok (.iload_n 1, 1) := by decide +kernel
theorem dX9_pealHour_12 : decode cX9_pealHour 12 = .ok (.invokevirtual 216, 3) := by decide +kernel
theorem dX9_pealHour_15 : decode cX9_pealHour 15 = .ok (.iaload, 1) := by decide +kernel
theorem dX9_pealHour_16 : decode cX9_pealHour 16 = .ok (.ireturn, 1) := by decide +kernel
theorem dX9_echoPairs_0 : decode cX9_echoPairs 0 = .ok (.aload_n 0, 1) := by decide +kernel
theorem dX9_echoPairs_1 : decode cX9_echoPairs 1 = .ok (.getfield 12, 3) := by decide +kernel
theorem dX9_echoPairs_4 : decode cX9_echoPairs 4 = .ok (.getfield 205, 3) := by decide +kernel
theorem dX9_echoPairs_7 : decode cX9_echoPairs 7 = .ok (.invokevirtual 227, 3) := by decide +kernel
theorem dX9_echoPairs_10 : decode cX9_echoPairs 10 = .ok (.ireturn, 1) := by decide +kernel
theorem dX9_echoPairsByPitch_0 : decode cX9_echoPairsByPitch 0 = .ok (.aload_n 0, 1) := by decide +kernel
theorem dX9_echoPairsByPitch_1 : decode cX9_echoPairsByPitch 1 = .ok (.getfield 12, 3) := by decide +kernel
theorem dX9_echoPairsByPitch_4 : decode cX9_echoPairsByPitch 4 = .ok (.getfield 205, 3) := by decide +kernel
theorem dX9_echoPairsByPitch_7 : decode cX9_echoPairsByPitch 7 = .ok (.aload_n 0, 1) := by decide +kernel
theorem dX9_echoPairsByPitch_8 : decode cX9_echoPairsByPitch 8 = .ok (.getfield 58, 3) := by decide +kernel
theorem dX9_echoPairsByPitch_11 : decode cX9_echoPairsByPitch 11 = .ok (.invokevirtual 230, 3) := by decide +kernel
theorem dX9_echoPairsByPitch_14 : decode cX9_echoPairsByPitch 14 = .ok (.ireturn, 1) := by decide +kernel
theorem dX9_pitchCount_0 : decode cX9_pitchCount 0 = .ok (.aload_n 0, 1) := by decide +kernel
theorem dX9_pitchCount_1 : decode cX9_pitchCount 1 = .ok (.getfield 12, 3) := by decide +kernel
theorem dX9_pitchCount_4 : decode cX9_pitchCount 4 = .ok (.getfield 205, 3) := by decide +kernel
theorem dX9_pitchCount_7 : decode cX9_pitchCount 7 = .ok (.aload_n 0, 1) := by decide +kernel
theorem dX9_pitchCount_8 : decode cX9_pitchCount 8 = .ok (.getfield 58, 3) := by decide +kernel
theorem dX9_pitchCount_11 : decode cX9_pitchCount 11 = .ok (.invokevirtual 234, 3) := by decide +kernel
theorem dX9_pitchCount_14 : decode cX9_pitchCount 14 = .ok (.ireturn, 1) := by decide +kernel
theorem dX9_cracksOf_0 : decode cX9_cracksOf 0 = .ok (.aload_n 0, 1) := by decide +kernel
theorem dX9_cracksOf_1 : decode cX9_cracksOf 1 = .ok (.iload_n 1, 1) := by decide +kernel
theorem dX9_cracksOf_2 : decode cX9_cracksOf 2 = .ok (.invokevirtual 89, 3) := by decide +kernel
theorem dX9_cracksOf_5 : decode cX9_cracksOf 5 = .ok (.getfield 237, 3) := by decide +kernel
theorem dX9_cracksOf_8 : decode cX9_cracksOf 8 = .ok (.ireturn, 1) := by decide +kernel
theorem dX9_lakeAtRank_0 : decode cX9_lakeAtRank 0 = .ok (.aload_n 0, 1) := by decide +kernel
theorem dX9_lakeAtRank_1 : decode cX9_lakeAtRank 1 = .ok (.getfield 12, 3) := by decide +kernel
theorem dX9_lakeAtRank_4 : decode cX9_lakeAtRank 4 = .ok (.iload_n 1, 1) := by decide +kernel
theorem dX9_lakeAtRank_5 : decode cX9_lakeAtRank 5 = .ok (.invokevirtual 240, 3) := by decide +kernel
theorem dX9_lakeAtRank_8 : decode cX9_lakeAtRank 8 = .ok (.istore_n 2, 1) := by decide +kernel
theorem dX9_lakeAtRank_9 : decode cX9_lakeAtRank 9 = .ok (.iload_n 2, 1) := by decide +kernel
theorem dX9_lakeAtRank_10 : decode cX9_lakeAtRank 10 = .ok (.iconst (-1), 1) := by decide +kernel
theorem dX9_lakeAtRank_11 : decode cX9_lakeAtRank 11 = .ok (.if_icmp .ne 13, 3) := by decide +kernel
theorem dX9_lakeAtRank_14 : decode cX9_lakeAtRank 14 = .ok (.new 124, 3) := by decide +kernel
theorem dX9_lakeAtRank_17 : decode cX9_lakeAtRank 17 = .ok (.dup, 1) := by decide +kernel
theorem dX9_lakeAtRank_18 : decode cX9_lakeAtRank 18 = .ok (.ldc 243, 2) := by decide +kernel
theorem dX9_lakeAtRank_20 : decode cX9_lakeAtRank 20 = .ok (.invokespecial 128, 3) := by decide +kernel
theorem dX9_lakeAtRank_23 : decode cX9_lakeAtRank 23 = .ok (.athrow, 1) := by decide +kernel
theorem dX9_lakeAtRank_24 : decode cX9_lakeAtRank 24 = .ok (.iload_n 2, 1) := by decide +kernel
theorem dX9_lakeAtRank_25 : decode cX9_lakeAtRank 25 = .ok (.ireturn, 1) := by decide +kernel
theorem dX9_frozenTotal_0 : decode cX9_frozenTotal 0 = .ok (.aload_n 0, 1) := by decide +kernel
theorem dX9_frozenTotal_1 : decode cX9_frozenTotal 1 = .ok (.getfield 12, 3) := by decide +kernel
theorem dX9_frozenTotal_4 : decode cX9_frozenTotal 4 = .ok (.getfield 245, 3) := by decide +kernel
theorem dX9_frozenTotal_7 : decode cX9_frozenTotal 7 = .ok (.ireturn, 1) := by decide +kernel
theorem dX9_thawedTotal_0 : decode cX9_thawedTotal 0 = .ok (.aload_n 0, 1) := by decide +kernel
theorem dX9_thawedTotal_1 : decode cX9_thawedTotal 1 = .ok (.getfield 12, 3) := by decide +kernel
theorem dX9_thawedTotal_4 : decode cX9_thawedTotal 4 = .ok (.getfield 248, 3) := by decide +kernel
theorem dX9_thawedTotal_7 : decode cX9_thawedTotal 7 = .ok (.ireturn, 1) := by decide +kernel
theorem dX9_crackTotal_0 : decode cX9_crackTotal 0 = .ok (.aload_n 0, 1) := by decide +kernel
theorem dX9_crackTotal_1 : decode cX9_crackTotal 1 = .ok (.getfield 12, 3) := by decide +kernel
theorem dX9_crackTotal_4 : decode cX9_crackTotal 4 = .ok (.invokevirtual 251, 3) := by decide +kernel
theorem dX9_crackTotal_7 : decode cX9_crackTotal 7 = .ok (.ireturn, 1) := by decide +kernel
theorem dX9_run_0 : decode cX9_run 0 = .ok (.aload_n 0, 1) := by decide +kernel
theorem dX9_run_1 : decode cX9_run 1 = .ok (.getfield 36, 3) := by decide +kernel
theorem dX9_run_4 : decode cX9_run 4 = .ok (.invokevirtual 272, 3) := by decide +kernel
theorem dX9_run_7 : decode cX9_run 7 = .ok (.istore_n 1, 1) := by decide +kernel
theorem dX9_run_8 : decode cX9_run 8 = .ok (.aload_n 0, 1) := by decide +kernel
theorem dX9_run_9 : decode cX9_run 9 = .ok (.getfield 36, 3) := by decide +kernel
theorem dX9_run_12 : decode cX9_run 12 = .ok (.invokevirtual 275, 3) := by decide +kernel
theorem dX9_run_15 : decode cX9_run 15 = .ok (.iload_n 1, 1) := by decide +kernel
theorem dX9_run_16 : decode cX9_run 16 = .ok (.ifCond .ne 25, 3) := by decide +kernel
theorem dX9_run_19 : decode cX9_run 19 = .ok (.aload_n 0, 1) := by decide +kernel
theorem dX9_run_20 : decode cX9_run 20 = .ok (.aload_n 0, 1) := by decide +kernel
theorem dX9_run_21 : decode cX9_run 21 = .ok (.getfield 36, 3) := by decide +kernel
theorem dX9_run_24 : decode cX9_run 24 = .ok (.getfield 278, 3) := by decide +kernel
theorem dX9_run_27 : decode cX9_run 27 = .ok (.putfield 40, 3) := by decide +kernel
theorem dX9_run_30 : decode cX9_run 30 = .ok (.new 254, 3) := by decide +kernel
theorem dX9_run_33 : decode cX9_run 33 = .ok (.dup, 1) := by decide +kernel
theorem dX9_run_34 : decode cX9_run 34 = .ok (.ldc_w 281, 3) := by decide +kernel
theorem dX9_run_37 : decode cX9_run 37 = .ok (.invokespecial 258, 3) := by decide +kernel
theorem dX9_run_40 : decode cX9_run 40 = .ok (.athrow, 1) := by decide +kernel
theorem dX9_run_41 : decode cX9_run 41 = .ok (.aload_n 0, 1) := by decide +kernel
theorem dX9_run_42 : decode cX9_run 42 = .ok (.getfield 16, 3) := by decide +kernel
theorem dX9_run_45 : decode cX9_run 45 = .ok (.aload_n 0, 1) := by decide +kernel
theorem dX9_run_46 : decode cX9_run 46 = .ok (.getfield 12, 3) := by decide +kernel
theorem dX9_run_49 : decode cX9_run 49 = .ok (.invokevirtual 149, 3) := by decide +kernel
theorem dX9_run_52 : decode cX9_run 52 = .ok (.aload_n 0, 1) := by decide +kernel
theorem dX9_run_53 : decode cX9_run 53 = .ok (.getfield 36, 3) := by decide +kernel
theorem dX9_run_56 : decode cX9_run 56 = .ok (.getfield 283, 3) := by decide +kernel
theorem dX9_run_59 : decode cX9_run 59 = .ok (.istore_n 2, 1) := by decide +kernel
theorem dX9_run_60 : decode cX9_run 60 = .ok (.iconst 0, 1) := by decide +kernel
theorem dX9_run_61 : decode cX9_run 61 = .ok (.istore_n 3, 1) := by decide +kernel
theorem dX9_run_62 : decode cX9_run 62 = .ok (.iload_n 3, 1) := by decide +kernel
theorem dX9_run_63 : decode cX9_run 63 = .ok (.iload_n 2, 1) := by decide +kernel
theorem dX9_run_64 : decode cX9_run 64 = .ok (.if_icmp .ge 69, 3) := by decide +kernel
theorem dX9_run_67 : decode cX9_run 67 = .ok (.aload_n 0, 1) := by decide +kernel
theorem dX9_run_68 : decode cX9_run 68 = .ok (.getfield 36, 3) := by decide +kernel
theorem dX9_run_71 : decode cX9_run 71 = .ok (.getfield 286, 3) := by decide +kernel
theorem dX9_run_74 : decode cX9_run 74 = .ok (.iload_n 3, 1) := by decide +kernel
theorem dX9_run_75 : decode cX9_run 75 = .ok (.aaload, 1) := by decide +kernel
theorem dX9_run_76 : decode cX9_run 76 = .ok (.astore 4, 2) := by decide +kernel
theorem dX9_run_78 : decode cX9_run 78 = .ok (.aload_n 0, 1) := by decide +kernel
theorem dX9_run_79 : decode cX9_run 79 = .ok (.getfield 16, 3) := by decide +kernel
theorem dX9_run_82 : decode cX9_run 82 = .ok (.aload 4, 2) := by decide +kernel
theorem dX9_run_84 : decode cX9_run 84 = .ok (.invokevirtual 290, 3) := by decide +kernel
theorem dX9_run_87 : decode cX9_run 87 = .ok (.istore 5, 2) := by decide +kernel
theorem dX9_run_89 : decode cX9_run 89 = .ok (.iload 5, 2) := by decide +kernel
theorem dX9_run_91 : decode cX9_run 91 = .ok (.bipush 45, 2) := by decide +kernel
theorem dX9_run_93 : decode cX9_run 93 = .ok (.if_icmp .eq 25, 3) := by decide +kernel
theorem dX9_run_96 : decode cX9_run 96 = .ok (.aload_n 0, 1) := by decide +kernel
theorem dX9_run_97 : decode cX9_run 97 = .ok (.iload_n 3, 1) := by decide +kernel
theorem dX9_run_98 : decode cX9_run 98 = .ok (.putfield 44, 3) := by decide +kernel
theorem dX9_run_101 : decode cX9_run 101 = .ok (.aload_n 0, 1) := by decide +kernel
theorem dX9_run_102 : decode cX9_run 102 = .ok (.iload 5, 2) := by decide +kernel
theorem dX9_run_104 : decode cX9_run 104 = .ok (.putfield 47, 3) := by decide +kernel
theorem dX9_run_107 : decode cX9_run 107 = .ok (.new 263, 3) := by decide +kernel
theorem dX9_run_110 : decode cX9_run 110 = .ok (.dup, 1) := by decide +kernel
theorem dX9_run_111 : decode cX9_run 111 = .ok (.ldc_w 294, 3) := by decide +kernel
theorem dX9_run_114 : decode cX9_run 114 = .ok (.invokespecial 267, 3) := by decide +kernel
theorem dX9_run_117 : decode cX9_run 117 = .ok (.athrow, 1) := by decide +kernel
theorem dX9_run_118 : decode cX9_run 118 = .ok (.aload_n 0, 1) := by decide +kernel
theorem dX9_run_119 : decode cX9_run 119 = .ok (.getfield 16, 3) := by decide +kernel
theorem dX9_run_122 : decode cX9_run 122 = .ok (.aload 4, 2) := by decide +kernel
theorem dX9_run_124 : decode cX9_run 124 = .ok (.invokevirtual 296, 3) := by decide +kernel
theorem dX9_run_127 : decode cX9_run 127 = .ok (.iinc 3 1, 3) := by decide +kernel
theorem dX9_run_130 : decode cX9_run 130 = .ok (.goto (-68), 3) := by decide +kernel
theorem dX9_run_133 : decode cX9_run 133 = .ok (.aload_n 0, 1) := by decide +kernel
theorem dX9_run_134 : decode cX9_run 134 = .ok (.getfield 29, 3) := by decide +kernel
theorem dX9_run_137 : decode cX9_run 137 = .ok (.aload_n 0, 1) := by decide +kernel
theorem dX9_run_138 : decode cX9_run 138 = .ok (.getfield 12, 3) := by decide +kernel
theorem dX9_run_141 : decode cX9_run 141 = .ok (.invokevirtual 70, 3) := by decide +kernel
theorem dX9_run_144 : decode cX9_run 144 = .ok (.aload_n 0, 1) := by decide +kernel
theorem dX9_run_145 : decode cX9_run 145 = .ok (.getfield 12, 3) := by decide +kernel
theorem dX9_run_148 : decode cX9_run 148 = .ok (.aload_n 0, 1) := by decide +kernel
theorem dX9_run_149 : decode cX9_run 149 = .ok (.getfield 16, 3) := by decide +kernel
theorem dX9_run_152 : decode cX9_run 152 = .ok (.invokevirtual 149, 3) := by decide +kernel
theorem dX9_run_155 : decode cX9_run 155 = .ok (.iload_n 2, 1) := by decide +kernel
theorem dX9_run_156 : decode cX9_run 156 = .ok (.ireturn, 1) := by decide +kernel
theorem dX9_errorPosition_0 : decode cX9_errorPosition 0 = .ok (.aload_n 0, 1) := by decide +kernel
theorem dX9_errorPosition_1 : decode cX9_errorPosition 1 = .ok (.getfield 40, 3) := by decide +kernel
theorem dX9_errorPosition_4 : decode cX9_errorPosition 4 = .ok (.iconst (-1), 1) := by decide +kernel
theorem dX9_errorPosition_5 : decode cX9_errorPosition 5 = .ok (.if_icmp .ne 14, 3) := by decide +kernel
theorem dX9_errorPosition_8 : decode cX9_errorPosition 8 = .ok (.new 124, 3) := by decide +kernel
theorem dX9_errorPosition_11 : decode cX9_errorPosition 11 = .ok (.dup, 1) := by decide +kernel
theorem dX9_errorPosition_12 : decode cX9_errorPosition 12 = .ok (.ldc_w 300, 3) := by decide +kernel
theorem dX9_errorPosition_15 : decode cX9_errorPosition 15 = .ok (.invokespecial 128, 3) := by decide +kernel
theorem dX9_errorPosition_18 : decode cX9_errorPosition 18 = .ok (.athrow, 1) := by decide +kernel
theorem dX9_errorPosition_19 : decode cX9_errorPosition 19 = .ok (.aload_n 0, 1) := by decide +kernel
theorem dX9_errorPosition_20 : decode cX9_errorPosition 20 = .ok (.getfield 40, 3) := by decide +kernel
theorem dX9_errorPosition_23 : decode cX9_errorPosition 23 = .ok (.ireturn, 1) := by decide +kernel
theorem dX9_failedCommand_0 : decode cX9_failedCommand 0 = .ok (.aload_n 0, 1) := by decide +kernel
theorem dX9_failedCommand_1 : decode cX9_failedCommand 1 = .ok (.getfield 44, 3) := by decide +kernel
theorem dX9_failedCommand_4 : decode cX9_failedCommand 4 = .ok (.iconst (-1), 1) := by decide +kernel
theorem dX9_failedCommand_5 : decode cX9_failedCommand 5 = .ok (.if_icmp .ne 14, 3) := by decide +kernel
theorem dX9_failedCommand_8 : decode cX9_failedCommand 8 = .ok (.new 124, 3) := by decide +kernel
theorem dX9_failedCommand_11 : decode cX9_failedCommand 11 = .ok (.dup, 1) := by decide +kernel
theorem dX9_failedCommand_12 : decode cX9_failedCommand 12 = .ok (.ldc_w 302, 3) := by decide +kernel
theorem dX9_failedCommand_15 : decode cX9_failedCommand 15 = .ok (.invokespecial 128, 3) := by decide +kernel
theorem dX9_failedCommand_18 : decode cX9_failedCommand 18 = .ok (.athrow, 1) := by decide +kernel
theorem dX9_failedCommand_19 : decode cX9_failedCommand 19 = .ok (.aload_n 0, 1) := by decide +kernel
theorem dX9_failedCommand_20 : decode cX9_failedCommand 20 = .ok (.getfield 44, 3) := by decide +kernel
theorem dX9_failedCommand_23 : decode cX9_failedCommand 23 = .ok (.ireturn, 1) := by decide +kernel
theorem dX9_failureKind_0 : decode cX9_failureKind 0 = .ok (.aload_n 0, 1) := by decide +kernel
theorem dX9_failureKind_1 : decode cX9_failureKind 1 = .ok (.getfield 44, 3) := by decide +kernel
theorem dX9_failureKind_4 : decode cX9_failureKind 4 = .ok (.iconst (-1), 1) := by decide +kernel
theorem dX9_failureKind_5 : decode cX9_failureKind 5 = .ok (.if_icmp .ne 14, 3) := by decide +kernel
theorem dX9_failureKind_8 : decode cX9_failureKind 8 = .ok (.new 124, 3) := by decide +kernel
theorem dX9_failureKind_11 : decode cX9_failureKind 11 = .ok (.dup, 1) := by decide +kernel
theorem dX9_failureKind_12 : decode cX9_failureKind 12 = .ok (.ldc_w 302, 3) := by decide +kernel
theorem dX9_failureKind_15 : decode cX9_failureKind 15 = .ok (.invokespecial 128, 3) := by decide +kernel
theorem dX9_failureKind_18 : decode cX9_failureKind 18 = .ok (.athrow, 1) := by decide +kernel
theorem dX9_failureKind_19 : decode cX9_failureKind 19 = .ok (.aload_n 0, 1) := by decide +kernel
theorem dX9_failureKind_20 : decode cX9_failureKind 20 = .ok (.getfield 47, 3) := by decide +kernel
theorem dX9_failureKind_23 : decode cX9_failureKind 23 = .ok (.ireturn, 1) := by decide +kernel
theorem dX9_describeLake_0 : decode cX9_describeLake 0 = .ok (.aload_n 0, 1) := by decide +kernel
theorem dX9_describeLake_1 : decode cX9_describeLake 1 = .ok (.iload_n 1, 1) := by decide +kernel
theorem dX9_describeLake_2 : decode cX9_describeLake 2 = .ok (.invokevirtual 89, 3) := by decide +kernel
theorem dX9_describeLake_5 : decode cX9_describeLake 5 = .ok (.astore_n 2, 1) := by decide +kernel
theorem dX9_describeLake_6 : decode cX9_describeLake 6 = .ok (.aload_n 0, 1) := by decide +kernel
theorem dX9_describeLake_7 : decode cX9_describeLake 7 = .ok (.getfield 54, 3) := by decide +kernel
theorem dX9_describeLake_10 : decode cX9_describeLake 10 = .ok (.iconst 0, 1) := by decide +kernel
theorem dX9_describeLake_11 : decode cX9_describeLake 11 = .ok (.invokevirtual 304, 3) := by decide +kernel
theorem dX9_describeLake_14 : decode cX9_describeLake 14 = .ok (.aload_n 2, 1) := by decide +kernel
theorem dX9_describeLake_15 : decode cX9_describeLake 15 = .ok (.aload_n 0, 1) := by decide +kernel
theorem dX9_describeLake_16 : decode cX9_describeLake 16 = .ok (.getfield 54, 3) := by decide +kernel
theorem dX9_describeLake_19 : decode cX9_describeLake 19 = .ok (.invokevirtual 308, 3) := by decide +kernel
theorem dX9_describeLake_22 : decode cX9_describeLake 22 = .ok (.aload_n 0, 1) := by decide +kernel
theorem dX9_describeLake_23 : decode cX9_describeLake 23 = .ok (.getfield 54, 3) := by decide +kernel
theorem dX9_describeLake_26 : decode cX9_describeLake 26 = .ok (.invokevirtual 312, 3) := by decide +kernel
theorem dX9_describeLake_29 : decode cX9_describeLake 29 = .ok (.ireturn, 1) := by decide +kernel
theorem dX9_lineAt_0 : decode cX9_lineAt 0 = .ok (.iload_n 1, 1) := by decide +kernel
theorem dX9_lineAt_1 : decode cX9_lineAt 1 = .ok (.ifCond .lt 14, 3) := by decide +kernel
theorem dX9_lineAt_4 : decode cX9_lineAt 4 = .ok (.iload_n 1, 1) := by decide +kernel
theorem dX9_lineAt_5 : decode cX9_lineAt 5 = .ok (.aload_n 0, 1) := by decide +kernel
theorem dX9_lineAt_6 : decode cX9_lineAt 6 = .ok (.getfield 54, 3) := by decide +kernel
theorem dX9_lineAt_9 : decode cX9_lineAt 9 = .ok (.invokevirtual 312, 3) := by decide +kernel
theorem dX9_lineAt_12 : decode cX9_lineAt 12 = .ok (.if_icmp .lt 14, 3) := by decide +kernel
theorem dX9_lineAt_15 : decode cX9_lineAt 15 = .ok (.new 315, 3) := by decide +kernel
theorem dX9_lineAt_18 : decode cX9_lineAt 18 = .ok (.dup, 1) := by decide +kernel
theorem dX9_lineAt_19 : decode cX9_lineAt 19 = .ok (.ldc_w 317, 3) := by decide +kernel
theorem dX9_lineAt_22 : decode cX9_lineAt 22 = .ok (.invokespecial 319, 3) := by decide +kernel
theorem dX9_lineAt_25 : decode cX9_lineAt 25 = .ok (.athrow, 1) := by decide +kernel
theorem dX9_lineAt_26 : decode cX9_lineAt 26 = .ok (.aload_n 0, 1) := by decide +kernel
theorem dX9_lineAt_27 : decode cX9_lineAt 27 = .ok (.getfield 54, 3) := by decide +kernel
theorem dX9_lineAt_30 : decode cX9_lineAt 30 = .ok (.iload_n 1, 1) := by decide +kernel
theorem dX9_lineAt_31 : decode cX9_lineAt 31 = .ok (.invokevirtual 320, 3) := by decide +kernel
theorem dX9_lineAt_34 : decode cX9_lineAt 34 = .ok (.ireturn, 1) := by decide +kernel
theorem dX9_meanTemperature_0 : decode cX9_meanTemperature 0 = .ok (.aload_n 0, 1) := by decide +kernel
theorem dX9_meanTemperature_1 : decode cX9_meanTemperature 1 = .ok (.iload_n 1, 1) := by decide +kernel
theorem dX9_meanTemperature_2 : decode cX9_meanTemperature 2 = .ok (.invokevirtual 89, 3) := by decide +kernel
theorem dX9_meanTemperature_5 : decode cX9_meanTemperature 5 = .ok (.astore_n 2, 1) := by decide +kernel
theorem dX9_meanTemperature_6 : decode cX9_meanTemperature 6 = .ok (.aload_n 2, 1) := by decide +kernel
theorem dX9_meanTemperature_7 : decode cX9_meanTemperature 7 = .ok (.getfield 98, 3) := by decide +kernel
theorem dX9_meanTemperature_10 : decode cX9_meanTemperature 10 = .ok (.ifCond .ne 14, 3) := by decide +kernel
theorem dX9_meanTemperature_13 : decode cX9_meanTemperature 13 = .ok (.new 323, 3) := by decide +kernel
theorem dX9_meanTemperature_16 : decode cX9_meanTemperature 16 = .ok (.dup, 1) := by decide +kernel
theorem dX9_meanTemperature_17 : decode cX9_meanTemperature 17 = .ok (.ldc_w 325, 3) := by decide +kernel
theorem dX9_meanTemperature_20 : decode cX9_meanTemperature 20 = .ok (.invokespecial 327, 3) := by decide +kernel
theorem dX9_meanTemperature_23 : decode cX9_meanTemperature 23 = .ok (.athrow, 1) := by decide +kernel
theorem dX9_meanTemperature_24 : decode cX9_meanTemperature 24 = .ok (.aload_n 2, 1) := by decide +kernel
theorem dX9_meanTemperature_25 : decode cX9_meanTemperature 25 = .ok (.invokevirtual 328, 3) := by decide +kernel
theorem dX9_meanTemperature_28 : decode cX9_meanTemperature 28 = .ok (.i2d, 1) := by decide +kernel
theorem dX9_meanTemperature_29 : decode cX9_meanTemperature 29 = .ok (.aload_n 2, 1) := by decide +kernel
theorem dX9_meanTemperature_30 : decode cX9_meanTemperature 30 = .ok (.getfield 98, 3) := by decide +kernel
theorem dX9_meanTemperature_33 : decode cX9_meanTemperature 33 = .ok (.i2d, 1) := by decide +kernel
theorem dX9_meanTemperature_34 : decode cX9_meanTemperature 34 = .ok (.ddiv, 1) := by decide +kernel
theorem dX9_meanTemperature_35 : decode cX9_meanTemperature 35 = .ok (.dreturn, 1) := by decide +kernel
theorem dX9_iceShare_0 : decode cX9_iceShare 0 = .ok (.aload_n 0, 1) := by decide +kernel
theorem dX9_iceShare_1 : decode cX9_iceShare 1 = .ok (.iload_n 1, 1) := by decide +kernel
theorem dX9_iceShare_2 : decode cX9_iceShare 2 = .ok (.invokevirtual 89, 3) := by decide +kernel
theorem dX9_iceShare_5 : decode cX9_iceShare 5 = .ok (.astore_n 2, 1) := by decide +kernel
theorem dX9_iceShare_6 : decode cX9_iceShare 6 = .ok (.aload_n 2, 1) := by decide +kernel
theorem dX9_iceShare_7 : decode cX9_iceShare 7 = .ok (.invokevirtual 114, 3) := by decide +kernel
theorem dX9_iceShare_10 : decode cX9_iceShare 10 = .ok (.i2f, 1) := by decide +kernel
theorem dX9_iceShare_11 : decode cX9_iceShare 11 = .ok (.aload_n 2, 1) := by decide +kernel
theorem dX9_iceShare_12 : decode cX9_iceShare 12 = .ok (.getfield 93, 3) := by decide +kernel
theorem dX9_iceShare_15 : decode cX9_iceShare 15 = .ok (.i2f, 1) := by decide +kernel
theorem dX9_iceShare_16 : decode cX9_iceShare 16 = .ok (.fdiv, 1) := by decide +kernel
theorem dX9_iceShare_17 : decode cX9_iceShare 17 = .ok (.freturn, 1) := by decide +kernel
theorem dX9_isConsistent_0 : decode cX9_isConsistent 0 = .ok (.aload_n 0, 1) := by decide +kernel
theorem dX9_isConsistent_1 : decode cX9_isConsistent 1 = .ok (.getfield 12, 3) := by decide +kernel
theorem dX9_isConsistent_4 : decode cX9_isConsistent 4 = .ok (.invokevirtual 331, 3) := by decide +kernel
theorem dX9_isConsistent_7 : decode cX9_isConsistent 7 = .ok (.ifCond .eq 59, 3) := by decide +kernel
theorem dX9_isConsistent_10 : decode cX9_isConsistent 10 = .ok (.aload_n 0, 1) := by decide +kernel
theorem dX9_isConsistent_11 : decode cX9_isConsistent 11 = .ok (.getfield 12, 3) := by decide +kernel
theorem dX9_isConsistent_14 : decode cX9_isConsistent 14 = .ok (.getfield 205, 3) := by decide +kernel
theorem dX9_isConsistent_17 : decode cX9_isConsistent 17 = .ok (.invokevirtual 227, 3) := by decide +kernel
theorem dX9_isConsistent_20 : decode cX9_isConsistent 20 = .ok (.aload_n 0, 1) := by decide +kernel
theorem dX9_isConsistent_21 : decode cX9_isConsistent 21 = .ok (.getfield 12, 3) := by decide +kernel
theorem dX9_isConsistent_24 : decode cX9_isConsistent 24 = .ok (.getfield 205, 3) := by decide +kernel
theorem dX9_isConsistent_27 : decode cX9_isConsistent 27 = .ok (.aload_n 0, 1) := by decide +kernel
theorem dX9_isConsistent_28 : decode cX9_isConsistent 28 = .ok (.getfield 58, 3) := by decide +kernel
theorem dX9_isConsistent_31 : decode cX9_isConsistent 31 = .ok (.invokevirtual 230, 3) := by decide +kernel
theorem dX9_isConsistent_34 : decode cX9_isConsistent 34 = .ok (.if_icmp .ne 32, 3) := by decide +kernel
theorem dX9_isConsistent_37 : decode cX9_isConsistent 37 = .ok (.aload_n 0, 1) := by decide +kernel
theorem dX9_isConsistent_38 : decode cX9_isConsistent 38 = .ok (.getfield 12, 3) := by decide +kernel
theorem dX9_isConsistent_41 : decode cX9_isConsistent 41 = .ok (.getfield 245, 3) := by decide +kernel
theorem dX9_isConsistent_44 : decode cX9_isConsistent 44 = .ok (.aload_n 0, 1) := by decide +kernel
theorem dX9_isConsistent_45 : decode cX9_isConsistent 45 = .ok (.getfield 12, 3) := by decide +kernel
theorem dX9_isConsistent_48 : decode cX9_isConsistent 48 = .ok (.getfield 248, 3) := by decide +kernel
theorem dX9_isConsistent_51 : decode cX9_isConsistent 51 = .ok (.isub, 1) := by decide +kernel
theorem dX9_isConsistent_52 : decode cX9_isConsistent 52 = .ok (.aload_n 0, 1) := by decide +kernel
theorem dX9_isConsistent_53 : decode cX9_isConsistent 53 = .ok (.getfield 12, 3) := by decide +kernel
theorem dX9_isConsistent_56 : decode cX9_isConsistent 56 = .ok (.invokevirtual 334, 3) := by decide +kernel
theorem dX9_isConsistent_59 : decode cX9_isConsistent 59 = .ok (.if_icmp .ne 7, 3) := by decide +kernel
theorem dX9_isConsistent_62 : decode cX9_isConsistent 62 = .ok (.iconst 1, 1) := by decide +kernel
theorem dX9_isConsistent_63 : decode cX9_isConsistent 63 = .ok (.goto 4, 3) := by decide +kernel
theorem dX9_isConsistent_66 : decode cX9_isConsistent 66 = .ok (.iconst 0, 1) := by decide +kernel
theorem dX9_isConsistent_67 : decode cX9_isConsistent 67 = .ok (.ireturn, 1) := by decide +kernel
theorem dX9_save_0 : decode cX9_save 0 = .ok (.aload_n 0, 1) := by decide +kernel
theorem dX9_save_1 : decode cX9_save 1 = .ok (.getfield 19, 3) := by decide +kernel
theorem dX9_save_4 : decode cX9_save 4 = .ok (.aload_n 0, 1) := by decide +kernel
theorem dX9_save_5 : decode cX9_save 5 = .ok (.getfield 12, 3) := by decide +kernel
theorem dX9_save_8 : decode cX9_save 8 = .ok (.invokevirtual 149, 3) := by decide +kernel
theorem dX9_save_11 : decode cX9_save 11 = .ok (.aload_n 0, 1) := by decide +kernel
theorem dX9_save_12 : decode cX9_save 12 = .ok (.iconst 1, 1) := by decide +kernel
theorem dX9_save_13 : decode cX9_save 13 = .ok (.putfield 22, 3) := by decide +kernel
theorem dX9_save_16 : decode cX9_save 16 = .ok (.aload_n 0, 1) := by decide +kernel
theorem dX9_save_17 : decode cX9_save 17 = .ok (.getfield 12, 3) := by decide +kernel
theorem dX9_save_20 : decode cX9_save 20 = .ok (.getfield 86, 3) := by decide +kernel
theorem dX9_save_23 : decode cX9_save 23 = .ok (.ireturn, 1) := by decide +kernel
theorem dX9_restore_0 : decode cX9_restore 0 = .ok (.aload_n 0, 1) := by decide +kernel
theorem dX9_restore_1 : decode cX9_restore 1 = .ok (.getfield 22, 3) := by decide +kernel
theorem dX9_restore_4 : decode cX9_restore 4 = .ok (.ifCond .ne 14, 3) := by decide +kernel
theorem dX9_restore_7 : decode cX9_restore 7 = .ok (.new 263, 3) := by decide +kernel
theorem dX9_restore_10 : decode cX9_restore 10 = .ok (.dup, 1) := by decide +kernel
theorem dX9_restore_11 : decode cX9_restore 11 = .ok (.ldc_w 344, 3) := by decide +kernel
theorem dX9_restore_14 : decode cX9_restore 14 = .ok (.invokespecial 267, 3) := by decide +kernel
theorem dX9_restore_17 : decode cX9_restore 17 = .ok (.athrow, 1) := by decide +kernel
theorem dX9_restore_18 : decode cX9_restore 18 = .ok (.aload_n 0, 1) := by decide +kernel
theorem dX9_restore_19 : decode cX9_restore 19 = .ok (.getfield 12, 3) := by decide +kernel
theorem dX9_restore_22 : decode cX9_restore 22 = .ok (.aload_n 0, 1) := by decide +kernel
theorem dX9_restore_23 : decode cX9_restore 23 = .ok (.getfield 19, 3) := by decide +kernel
theorem dX9_restore_26 : decode cX9_restore 26 = .ok (.invokevirtual 149, 3) := by decide +kernel
theorem dX9_restore_29 : decode cX9_restore 29 = .ok (.aload_n 0, 1) := by decide +kernel
theorem dX9_restore_30 : decode cX9_restore 30 = .ok (.getfield 29, 3) := by decide +kernel
theorem dX9_restore_33 : decode cX9_restore 33 = .ok (.invokevirtual 346, 3) := by decide +kernel
theorem dX9_restore_36 : decode cX9_restore 36 = .ok (.aload_n 0, 1) := by decide +kernel
theorem dX9_restore_37 : decode cX9_restore 37 = .ok (.getfield 12, 3) := by decide +kernel
theorem dX9_restore_40 : decode cX9_restore 40 = .ok (.getfield 86, 3) := by decide +kernel
theorem dX9_restore_43 : decode cX9_restore 43 = .ok (.ireturn, 1) := by decide +kernel
theorem dX9_lakeNumbered_0 : decode cX9_lakeNumbered 0 = .ok (.aload_n 0, 1) := by decide +kernel
theorem dX9_lakeNumbered_1 : decode cX9_lakeNumbered 1 = .ok (.getfield 12, 3) := by decide +kernel
theorem dX9_lakeNumbered_4 : decode cX9_lakeNumbered 4 = .ok (.iload_n 1, 1) := by decide +kernel
theorem dX9_lakeNumbered_5 : decode cX9_lakeNumbered 5 = .ok (.invokevirtual 349, 3) := by decide +kernel
theorem dX9_lakeNumbered_8 : decode cX9_lakeNumbered 8 = .ok (.ifCond .ne 14, 3) := by decide +kernel
theorem dX9_lakeNumbered_11 : decode cX9_lakeNumbered 11 = .ok (.new 315, 3) := by decide +kernel
theorem dX9_lakeNumbered_14 : decode cX9_lakeNumbered 14 = .ok (.dup, 1) := by decide +kernel
theorem dX9_lakeNumbered_15 : decode cX9_lakeNumbered 15 = .ok (.ldc_w 352, 3) := by decide +kernel
theorem dX9_lakeNumbered_18 : decode cX9_lakeNumbered 18 = .ok (.invokespecial 319, 3) := by decide +kernel
theorem dX9_lakeNumbered_21 : decode cX9_lakeNumbered 21 = .ok (.athrow, 1) := by decide +kernel
theorem dX9_lakeNumbered_22 : decode cX9_lakeNumbered 22 = .ok (.aload_n 0, 1) := by decide +kernel
theorem dX9_lakeNumbered_23 : decode cX9_lakeNumbered 23 = .ok (.getfield 12, 3) := by decide +kernel
theorem dX9_lakeNumbered_26 : decode cX9_lakeNumbered 26 = .ok (.getfield 157, 3) := by decide +kernel
theorem dX9_lakeNumbered_29 : decode cX9_lakeNumbered 29 = .ok (.iload_n 1, 1) := by decide +kernel
theorem dX9_lakeNumbered_30 : decode cX9_lakeNumbered 30 = .ok (.aaload, 1) := by decide +kernel
theorem dX9_lakeNumbered_31 : decode cX9_lakeNumbered 31 = .ok (.areturn, 1) := by decide +kernel
theorem dX9_lakeWithLayer_0 : decode cX9_lakeWithLayer 0 = .ok (.aload_n 0, 1) := by decide +kernel
theorem dX9_lakeWithLayer_1 : decode cX9_lakeWithLayer 1 = .ok (.iload_n 1, 1) := by decide +kernel
theorem dX9_lakeWithLayer_2 : decode cX9_lakeWithLayer 2 = .ok (.invokevirtual 89, 3) := by decide +kernel
theorem dX9_lakeWithLayer_5 : decode cX9_lakeWithLayer 5 = .ok (.astore_n 3, 1) := by decide +kernel
theorem dX9_lakeWithLayer_6 : decode cX9_lakeWithLayer 6 = .ok (.aload_n 3, 1) := by decide +kernel
theorem dX9_lakeWithLayer_7 : decode cX9_lakeWithLayer 7 = .ok (.iload_n 2, 1) := by decide +kernel
theorem dX9_lakeWithLayer_8 : decode cX9_lakeWithLayer 8 = .ok (.invokevirtual 354, 3) := by decide +kernel
theorem dX9_lakeWithLayer_11 : decode cX9_lakeWithLayer 11 = .ok (.ifCond .ne 14, 3) := by decide +kernel
theorem dX9_lakeWithLayer_14 : decode cX9_lakeWithLayer 14 = .ok (.new 315, 3) := by decide +kernel
theorem dX9_lakeWithLayer_17 : decode cX9_lakeWithLayer 17 = .ok (.dup, 1) := by decide +kernel
theorem dX9_lakeWithLayer_18 : decode cX9_lakeWithLayer 18 = .ok (.ldc_w 357, 3) := by decide +kernel
theorem dX9_lakeWithLayer_21 : decode cX9_lakeWithLayer 21 = .ok (.invokespecial 319, 3) := by decide +kernel
theorem dX9_lakeWithLayer_24 : decode cX9_lakeWithLayer 24 = .ok (.athrow, 1) := by decide +kernel
theorem dX9_lakeWithLayer_25 : decode cX9_lakeWithLayer 25 = .ok (.aload_n 3, 1) := by decide +kernel
theorem dX9_lakeWithLayer_26 : decode cX9_lakeWithLayer 26 = .ok (.areturn, 1) := by decide +kernel
theorem dX9_pealSlot_0 : decode cX9_pealSlot 0 = .ok (.iload_n 1, 1) := by decide +kernel
theorem dX9_pealSlot_1 : decode cX9_pealSlot 1 = .ok (.ifCond .lt 17, 3) := by decide +kernel
theorem dX9_pealSlot_4 : decode cX9_pealSlot 4 = .ok (.iload_n 1, 1) := by decide +kernel
theorem dX9_pealSlot_5 : decode cX9_pealSlot 5 = .ok (.aload_n 0, 1) := by decide +kernel
theorem dX9_pealSlot_6 : decode cX9_pealSlot 6 = .ok (.getfield 12, 3) := by decide +kernel
theorem dX9_pealSlot_9 : decode cX9_pealSlot 9 = .ok (.getfield 205, 3) := by decide +kernel
theorem dX9_pealSlot_12 : decode cX9_pealSlot 12 = .ok (.getfield 209, 3) := by decide +kernel
theorem dX9_pealSlot_15 : decode cX9_pealSlot 15 = .ok (.if_icmp .lt 14, 3) := by decide +kernel
theorem dX9_pealSlot_18 : decode cX9_pealSlot 18 = .ok (.new 124, 3) := by decide +kernel
theorem dX9_pealSlot_21 : decode cX9_pealSlot 21 = .ok (.dup, 1) := by decide +kernel
theorem dX9_pealSlot_22 : decode cX9_pealSlot 22 = .ok (.ldc_w 359, 3) := by decide +kernel
theorem dX9_pealSlot_25 : decode cX9_pealSlot 25 = .ok (.invokespecial 128, 3) := by decide +kernel
theorem dX9_pealSlot_28 : decode cX9_pealSlot 28 = .ok (.athrow, 1) := by decide +kernel
theorem dX9_pealSlot_29 : decode cX9_pealSlot 29 = .ok (.aload_n 0, 1) := by decide +kernel
theorem dX9_pealSlot_30 : decode cX9_pealSlot 30 = .ok (.getfield 12, 3) := by decide +kernel
theorem dX9_pealSlot_33 : decode cX9_pealSlot 33 = .ok (.getfield 205, 3) := by decide +kernel
theorem dX9_pealSlot_36 : decode cX9_pealSlot 36 = .ok (.iload_n 1, 1) := by decide +kernel
theorem dX9_pealSlot_37 : decode cX9_pealSlot 37 = .ok (.invokevirtual 361, 3) := by decide +kernel
theorem dX9_pealSlot_40 : decode cX9_pealSlot 40 = .ok (.ireturn, 1) := by decide +kernel
theorem dX9_refuseOn_0 : decode cX9_refuseOn 0 = .ok (.iload_n 0, 1) := by decide +kernel
theorem dX9_refuseOn_1 : decode cX9_refuseOn 1 = .ok (.bipush 98, 2) := by decide +kernel
theorem dX9_refuseOn_3 : decode cX9_refuseOn 3 = .ok (.if_icmp .ne 14, 3) := by decide +kernel
theorem dX9_refuseOn_6 : decode cX9_refuseOn 6 = .ok (.new 315, 3) := by decide +kernel
theorem dX9_refuseOn_9 : decode cX9_refuseOn 9 = .ok (.dup, 1) := by decide +kernel
theorem dX9_refuseOn_10 : decode cX9_refuseOn 10 = .ok (.ldc_w 364, 3) := by decide +kernel
theorem dX9_refuseOn_13 : decode cX9_refuseOn 13 = .ok (.invokespecial 319, 3) := by decide +kernel
theorem dX9_refuseOn_16 : decode cX9_refuseOn 16 = .ok (.athrow, 1) := by decide +kernel
theorem dX9_refuseOn_17 : decode cX9_refuseOn 17 = .ok (.iload_n 0, 1) := by decide +kernel
theorem dX9_refuseOn_18 : decode cX9_refuseOn 18 = .ok (.bipush 97, 2) := by decide +kernel
theorem dX9_refuseOn_20 : decode cX9_refuseOn 20 = .ok (.if_icmp .ne 14, 3) := by decide +kernel
theorem dX9_refuseOn_23 : decode cX9_refuseOn 23 = .ok (.new 254, 3) := by decide +kernel
theorem dX9_refuseOn_26 : decode cX9_refuseOn 26 = .ok (.dup, 1) := by decide +kernel
theorem dX9_refuseOn_27 : decode cX9_refuseOn 27 = .ok (.ldc_w 366, 3) := by decide +kernel
theorem dX9_refuseOn_30 : decode cX9_refuseOn 30 = .ok (.invokespecial 258, 3) := by decide +kernel
theorem dX9_refuseOn_33 : decode cX9_refuseOn 33 = .ok (.athrow, 1) := by decide +kernel
theorem dX9_refuseOn_34 : decode cX9_refuseOn 34 = .ok (.iload_n 0, 1) := by decide +kernel
theorem dX9_refuseOn_35 : decode cX9_refuseOn 35 = .ok (.bipush 115, 2) := by decide +kernel
theorem dX9_refuseOn_37 : decode cX9_refuseOn 37 = .ok (.if_icmp .ne 14, 3) := by decide +kernel
theorem dX9_refuseOn_40 : decode cX9_refuseOn 40 = .ok (.new 263, 3) := by decide +kernel
theorem dX9_refuseOn_43 : decode cX9_refuseOn 43 = .ok (.dup, 1) := by decide +kernel
theorem dX9_refuseOn_44 : decode cX9_refuseOn 44 = .ok (.ldc_w 368, 3) := by decide +kernel
theorem dX9_refuseOn_47 : decode cX9_refuseOn 47 = .ok (.invokespecial 267, 3) := by decide +kernel
theorem dX9_refuseOn_50 : decode cX9_refuseOn 50 = .ok (.athrow, 1) := by decide +kernel
theorem dX9_refuseOn_51 : decode cX9_refuseOn 51 = .ok (.iload_n 0, 1) := by decide +kernel
theorem dX9_refuseOn_52 : decode cX9_refuseOn 52 = .ok (.bipush 117, 2) := by decide +kernel
theorem dX9_refuseOn_54 : decode cX9_refuseOn 54 = .ok (.if_icmp .ne 14, 3) := by decide +kernel
theorem dX9_refuseOn_57 : decode cX9_refuseOn 57 = .ok (.new 370, 3) := by decide +kernel
theorem dX9_refuseOn_60 : decode cX9_refuseOn 60 = .ok (.dup, 1) := by decide +kernel
theorem dX9_refuseOn_61 : decode cX9_refuseOn 61 = .ok (.ldc_w 372, 3) := by decide +kernel
theorem dX9_refuseOn_64 : decode cX9_refuseOn 64 = .ok (.invokespecial 374, 3) := by decide +kernel
theorem dX9_refuseOn_67 : decode cX9_refuseOn 67 = .ok (.athrow, 1) := by decide +kernel
theorem dX9_refuseOn_68 : decode cX9_refuseOn 68 = .ok (.return_, 1) := by decide +kernel
