theorem d_Tape_init_0 : decode b_Tape_init 0 = .ok (.aload_n 0, 1) := by decide +kernel
theorem d_Tape_init_1 : decode b_Tape_init 1 = .ok (.invokespecial 3, 3) := by decide +kernel
theorem d_Tape_init_4 : decode b_Tape_init 4 = .ok (.aload_n 0, 1) := by decide +kernel
theorem d_Tape_init_5 : decode b_Tape_init 5 = .ok (.bipush 60, 2) := by decide +kernel
theorem d_Tape_init_7 : decode b_Tape_init 7 = .ok (.newarray .int, 2) := by decide +kernel
theorem d_Tape_init_9 : decode b_Tape_init 9 = .ok (.putfield 11, 3) := by decide +kernel
theorem d_Tape_init_12 : decode b_Tape_init 12 = .ok (.aload_n 0, 1) := by decide +kernel
theorem d_Tape_init_13 : decode b_Tape_init 13 = .ok (.iconst 0, 1) := by decide +kernel
theorem d_Tape_init_14 : decode b_Tape_init 14 = .ok (.putfield 15, 3) := by decide +kernel
theorem d_Tape_init_17 : decode b_Tape_init 17 = .ok (.aload_n 0, 1) := by decide +kernel
theorem d_Tape_init_18 : decode b_Tape_init 18 = .ok (.bipush 6, 2) := by decide +kernel
theorem d_Tape_init_20 : decode b_Tape_init 20 = .ok (.newarray .int, 2) := by decide +kernel
theorem d_Tape_init_22 : decode b_Tape_init 22 = .ok (.putfield 19, 3) := by decide +kernel
theorem d_Tape_init_25 : decode b_Tape_init 25 = .ok (.aload_n 0, 1) := by decide +kernel
theorem d_Tape_init_26 : decode b_Tape_init 26 = .ok (.bipush 6, 2) := by decide +kernel
theorem d_Tape_init_28 : decode b_Tape_init 28 = .ok (.newarray .int, 2) := by decide +kernel
theorem d_Tape_init_30 : decode b_Tape_init 30 = .ok (.putfield 22, 3) := by decide +kernel
theorem d_Tape_init_33 : decode b_Tape_init 33 = .ok (.return_, 1) := by decide +kernel
theorem d_Tape_clear_0 : decode b_Tape_clear 0 = .ok (.aload_n 0, 1) := by decide +kernel
theorem d_Tape_clear_1 : decode b_Tape_clear 1 = .ok (.iconst 0, 1) := by decide +kernel
theorem d_Tape_clear_2 : decode b_Tape_clear 2 = .ok (.putfield 15, 3) := by decide +kernel
theorem d_Tape_clear_5 : decode b_Tape_clear 5 = .ok (.return_, 1) := by decide +kernel
theorem d_Tape_append_0 : decode b_Tape_append 0 = .ok (.iload_n 3, 1) := by decide +kernel
theorem d_Tape_append_1 : decode b_Tape_append 1 = .ok (.iconst 1, 1) := by decide +kernel
theorem d_Tape_append_2 : decode b_Tape_append 2 = .ok (.if_icmp .lt 20, 3) := by decide +kernel
theorem d_Tape_append_5 : decode b_Tape_append 5 = .ok (.iload_n 3, 1) := by decide +kernel
theorem d_Tape_append_6 : decode b_Tape_append 6 = .ok (.bipush 8, 2) := by decide +kernel
theorem d_Tape_append_8 : decode b_Tape_append 8 = .ok (.if_icmp .gt 14, 3) := by decide +kernel
theorem d_Tape_append_11 : decode b_Tape_append 11 = .ok (.aload_n 0, 1) := by decide +kernel
theorem d_Tape_append_12 : decode b_Tape_append 12 = .ok (.getfield 15, 3) := by decide +kernel
theorem d_Tape_append_15 : decode b_Tape_append 15 = .ok (.iload_n 3, 1) := by decide +kernel
theorem d_Tape_append_16 : decode b_Tape_append 16 = .ok (.iadd, 1) := by decide +kernel
theorem d_Tape_append_17 : decode b_Tape_append 17 = .ok (.bipush 60, 2) := by decide +kernel
theorem d_Tape_append_19 : decode b_Tape_append 19 = .ok (.if_icmp .le 5, 3) := by decide +kernel
theorem d_Tape_append_22 : decode b_Tape_append 22 = .ok (.iconst 0, 1) := by decide +kernel
theorem d_Tape_append_23 : decode b_Tape_append 23 = .ok (.ireturn, 1) := by decide +kernel
theorem d_Tape_append_24 : decode b_Tape_append 24 = .ok (.iconst 0, 1) := by decide +kernel
theorem d_Tape_append_25 : decode b_Tape_append 25 = .ok (.istore 4, 2) := by decide +kernel
theorem d_Tape_append_27 : decode b_Tape_append 27 = .ok (.iload 4, 2) := by decide +kernel
theorem d_Tape_append_29 : decode b_Tape_append 29 = .ok (.iload_n 3, 1) := by decide +kernel
theorem d_Tape_append_30 : decode b_Tape_append 30 = .ok (.if_icmp .ge 33, 3) := by decide +kernel
theorem d_Tape_append_33 : decode b_Tape_append 33 = .ok (.lload_n 1, 1) := by decide +kernel
theorem d_Tape_append_34 : decode b_Tape_append 34 = .ok (.iload 4, 2) := by decide +kernel
theorem d_Tape_append_36 : decode b_Tape_append 36 = .ok (.invokestatic 25, 3) := by decide +kernel
theorem d_Tape_append_39 : decode b_Tape_append 39 = .ok (.istore 5, 2) := by decide +kernel
theorem d_Tape_append_41 : decode b_Tape_append 41 = .ok (.iload 5, 2) := by decide +kernel
theorem d_Tape_append_43 : decode b_Tape_append 43 = .ok (.bipush 33, 2) := by decide +kernel
theorem d_Tape_append_45 : decode b_Tape_append 45 = .ok (.if_icmp .lt 10, 3) := by decide +kernel
theorem d_Tape_append_48 : decode b_Tape_append 48 = .ok (.iload 5, 2) := by decide +kernel
theorem d_Tape_append_50 : decode b_Tape_append 50 = .ok (.bipush 126, 2) := by decide +kernel
theorem d_Tape_append_52 : decode b_Tape_append 52 = .ok (.if_icmp .le 5, 3) := by decide +kernel
theorem d_Tape_append_55 : decode b_Tape_append 55 = .ok (.iconst 0, 1) := by decide +kernel
theorem d_Tape_append_56 : decode b_Tape_append 56 = .ok (.ireturn, 1) := by decide +kernel
theorem d_Tape_append_57 : decode b_Tape_append 57 = .ok (.iinc 4 1, 3) := by decide +kernel
theorem d_Tape_append_60 : decode b_Tape_append 60 = .ok (.goto (-33), 3) := by decide +kernel
theorem d_Tape_append_63 : decode b_Tape_append 63 = .ok (.iload_n 3, 1) := by decide +kernel
theorem d_Tape_append_64 : decode b_Tape_append 64 = .ok (.iconst 1, 1) := by decide +kernel
theorem d_Tape_append_65 : decode b_Tape_append 65 = .ok (.isub, 1) := by decide +kernel
theorem d_Tape_append_66 : decode b_Tape_append 66 = .ok (.istore 4, 2) := by decide +kernel
theorem d_Tape_append_68 : decode b_Tape_append 68 = .ok (.iload 4, 2) := by decide +kernel
theorem d_Tape_append_70 : decode b_Tape_append 70 = .ok (.ifCond .lt 34, 3) := by decide +kernel
theorem d_Tape_append_73 : decode b_Tape_append 73 = .ok (.aload_n 0, 1) := by decide +kernel
theorem d_Tape_append_74 : decode b_Tape_append 74 = .ok (.getfield 11, 3) := by decide +kernel
theorem d_Tape_append_77 : decode b_Tape_append 77 = .ok (.aload_n 0, 1) := by decide +kernel
theorem d_Tape_append_78 : decode b_Tape_append 78 = .ok (.getfield 15, 3) := by decide +kernel
theorem d_Tape_append_81 : decode b_Tape_append 81 = .ok (.lload_n 1, 1) := by decide +kernel
theorem d_Tape_append_82 : decode b_Tape_append 82 = .ok (.iload 4, 2) := by decide +kernel
theorem d_Tape_append_84 : decode b_Tape_append 84 = .ok (.invokestatic 25, 3) := by decide +kernel
theorem d_Tape_append_87 : decode b_Tape_append 87 = .ok (.iastore, 1) := by decide +kernel
theorem d_Tape_append_88 : decode b_Tape_append 88 = .ok (.aload_n 0, 1) := by decide +kernel
theorem d_Tape_append_89 : decode b_Tape_append 89 = .ok (.dup, 1) := by decide +kernel
theorem d_Tape_append_90 : decode b_Tape_append 90 = .ok (.getfield 15, 3) := by decide +kernel
theorem d_Tape_append_93 : decode b_Tape_append 93 = .ok (.iconst 1, 1) := by decide +kernel
theorem d_Tape_append_94 : decode b_Tape_append 94 = .ok (.iadd, 1) := by decide +kernel
theorem d_Tape_append_95 : decode b_Tape_append 95 = .ok (.putfield 15, 3) := by decide +kernel
theorem d_Tape_append_98 : decode b_Tape_append 98 = .ok (.iinc 4 (-1), 3) := by decide +kernel
theorem d_Tape_append_101 : decode b_Tape_append 101 = .ok (.goto (-33), 3) := by decide +kernel
theorem d_Tape_append_104 : decode b_Tape_append 104 = .ok (.iconst 1, 1) := by decide +kernel
theorem d_Tape_append_105 : decode b_Tape_append 105 = .ok (.ireturn, 1) := by decide +kernel
theorem d_Tape_readParts_0 : decode b_Tape_readParts 0 = .ok (.aload_n 0, 1) := by decide +kernel
theorem d_Tape_readParts_1 : decode b_Tape_readParts 1 = .ok (.invokevirtual 29, 3) := by decide +kernel
theorem d_Tape_readParts_4 : decode b_Tape_readParts 4 = .ok (.ifCond .ne 5, 3) := by decide +kernel
theorem d_Tape_readParts_7 : decode b_Tape_readParts 7 = .ok (.iconst 0, 1) := by decide +kernel
theorem d_Tape_readParts_8 : decode b_Tape_readParts 8 = .ok (.ireturn, 1) := by decide +kernel
theorem d_Tape_readParts_9 : decode b_Tape_readParts 9 = .ok (.ldc 33, 2) := by decide +kernel
theorem d_Tape_readParts_11 : decode b_Tape_readParts 11 = .ok (.invokevirtual 35, 3) := by decide +kernel
theorem d_Tape_readParts_14 : decode b_Tape_readParts 14 = .ok (.istore_n 1, 1) := by decide +kernel
theorem d_Tape_readParts_15 : decode b_Tape_readParts 15 = .ok (.iconst 0, 1) := by decide +kernel
theorem d_Tape_readParts_16 : decode b_Tape_readParts 16 = .ok (.istore_n 2, 1) := by decide +kernel
theorem d_Tape_readParts_17 : decode b_Tape_readParts 17 = .ok (.iload_n 2, 1) := by decide +kernel
theorem d_Tape_readParts_18 : decode b_Tape_readParts 18 = .ok (.bipush 6, 2) := by decide +kernel
theorem d_Tape_readParts_20 : decode b_Tape_readParts 20 = .ok (.if_icmp .ge 50, 3) := by decide +kernel
theorem d_Tape_readParts_23 : decode b_Tape_readParts 23 = .ok (.aload_n 0, 1) := by decide +kernel
theorem d_Tape_readParts_24 : decode b_Tape_readParts 24 = .ok (.iload_n 2, 1) := by decide +kernel
theorem d_Tape_readParts_25 : decode b_Tape_readParts 25 = .ok (.iload_n 1, 1) := by decide +kernel
theorem d_Tape_readParts_26 : decode b_Tape_readParts 26 = .ok (.invokevirtual 41, 3) := by decide +kernel
theorem d_Tape_readParts_29 : decode b_Tape_readParts 29 = .ok (.istore_n 1, 1) := by decide +kernel
theorem d_Tape_readParts_30 : decode b_Tape_readParts 30 = .ok (.iload_n 1, 1) := by decide +kernel
theorem d_Tape_readParts_31 : decode b_Tape_readParts 31 = .ok (.iconst (-1), 1) := by decide +kernel
theorem d_Tape_readParts_32 : decode b_Tape_readParts 32 = .ok (.if_icmp .ne 5, 3) := by decide +kernel
theorem d_Tape_readParts_35 : decode b_Tape_readParts 35 = .ok (.iconst 0, 1) := by decide +kernel
theorem d_Tape_readParts_36 : decode b_Tape_readParts 36 = .ok (.ireturn, 1) := by decide +kernel
theorem d_Tape_readParts_37 : decode b_Tape_readParts 37 = .ok (.iload_n 1, 1) := by decide +kernel
theorem d_Tape_readParts_38 : decode b_Tape_readParts 38 = .ok (.aload_n 0, 1) := by decide +kernel
theorem d_Tape_readParts_39 : decode b_Tape_readParts 39 = .ok (.getfield 15, 3) := by decide +kernel
theorem d_Tape_readParts_42 : decode b_Tape_readParts 42 = .ok (.if_icmp .ne 7, 3) := by decide +kernel
theorem d_Tape_readParts_45 : decode b_Tape_readParts 45 = .ok (.iload_n 2, 1) := by decide +kernel
theorem d_Tape_readParts_46 : decode b_Tape_readParts 46 = .ok (.iconst 1, 1) := by decide +kernel
theorem d_Tape_readParts_47 : decode b_Tape_readParts 47 = .ok (.iadd, 1) := by decide +kernel
theorem d_Tape_readParts_48 : decode b_Tape_readParts 48 = .ok (.ireturn, 1) := by decide +kernel
theorem d_Tape_readParts_49 : decode b_Tape_readParts 49 = .ok (.aload_n 0, 1) := by decide +kernel
theorem d_Tape_readParts_50 : decode b_Tape_readParts 50 = .ok (.iload_n 1, 1) := by decide +kernel
theorem d_Tape_readParts_51 : decode b_Tape_readParts 51 = .ok (.invokevirtual 45, 3) := by decide +kernel
theorem d_Tape_readParts_54 : decode b_Tape_readParts 54 = .ok (.bipush 44, 2) := by decide +kernel
theorem d_Tape_readParts_56 : decode b_Tape_readParts 56 = .ok (.if_icmp .eq 5, 3) := by decide +kernel
theorem d_Tape_readParts_59 : decode b_Tape_readParts 59 = .ok (.iconst 0, 1) := by decide +kernel
theorem d_Tape_readParts_60 : decode b_Tape_readParts 60 = .ok (.ireturn, 1) := by decide +kernel
theorem d_Tape_readParts_61 : decode b_Tape_readParts 61 = .ok (.iinc 1 1, 3) := by decide +kernel
theorem d_Tape_readParts_64 : decode b_Tape_readParts 64 = .ok (.iinc 2 1, 3) := by decide +kernel
theorem d_Tape_readParts_67 : decode b_Tape_readParts 67 = .ok (.goto (-50), 3) := by decide +kernel
theorem d_Tape_readParts_70 : decode b_Tape_readParts 70 = .ok (.iconst 0, 1) := by decide +kernel
theorem d_Tape_readParts_71 : decode b_Tape_readParts 71 = .ok (.ireturn, 1) := by decide +kernel
theorem d_Tape_firstPlace_0 : decode b_Tape_firstPlace 0 = .ok (.iload_n 1, 1) := by decide +kernel
theorem d_Tape_firstPlace_1 : decode b_Tape_firstPlace 1 = .ok (.ifCond .lt 9, 3) := by decide +kernel
theorem d_Tape_firstPlace_4 : decode b_Tape_firstPlace 4 = .ok (.iload_n 1, 1) := by decide +kernel
theorem d_Tape_firstPlace_5 : decode b_Tape_firstPlace 5 = .ok (.bipush 6, 2) := by decide +kernel
theorem d_Tape_firstPlace_7 : decode b_Tape_firstPlace 7 = .ok (.if_icmp .lt 5, 3) := by decide +kernel
theorem d_Tape_firstPlace_10 : decode b_Tape_firstPlace 10 = .ok (.iload_n 2, 1) := by decide +kernel
theorem d_Tape_firstPlace_11 : decode b_Tape_firstPlace 11 = .ok (.ireturn, 1) := by decide +kernel
theorem d_Tape_firstPlace_12 : decode b_Tape_firstPlace 12 = .ok (.aload_n 0, 1) := by decide +kernel
theorem d_Tape_firstPlace_13 : decode b_Tape_firstPlace 13 = .ok (.getfield 19, 3) := by decide +kernel
theorem d_Tape_firstPlace_16 : decode b_Tape_firstPlace 16 = .ok (.iload_n 1, 1) := by decide +kernel
theorem d_Tape_firstPlace_17 : decode b_Tape_firstPlace 17 = .ok (.iaload, 1) := by decide +kernel
theorem d_Tape_firstPlace_18 : decode b_Tape_firstPlace 18 = .ok (.iconst (-1), 1) := by decide +kernel
theorem d_Tape_firstPlace_19 : decode b_Tape_firstPlace 19 = .ok (.if_icmp .ne 18, 3) := by decide +kernel
theorem d_Tape_firstPlace_22 : decode b_Tape_firstPlace 22 = .ok (.iload_n 2, 1) := by decide +kernel
theorem d_Tape_firstPlace_23 : decode b_Tape_firstPlace 23 = .ok (.aload_n 0, 1) := by decide +kernel
theorem d_Tape_firstPlace_24 : decode b_Tape_firstPlace 24 = .ok (.getfield 22, 3) := by decide +kernel
theorem d_Tape_firstPlace_27 : decode b_Tape_firstPlace 27 = .ok (.iload_n 1, 1) := by decide +kernel
theorem d_Tape_firstPlace_28 : decode b_Tape_firstPlace 28 = .ok (.iaload, 1) := by decide +kernel
theorem d_Tape_firstPlace_29 : decode b_Tape_firstPlace 29 = .ok (.isub, 1) := by decide +kernel
theorem d_Tape_firstPlace_30 : decode b_Tape_firstPlace 30 = .ok (.iconst 0, 1) := by decide +kernel
theorem d_Tape_firstPlace_31 : decode b_Tape_firstPlace 31 = .ok (.invokestatic 49, 3) := by decide +kernel
theorem d_Tape_firstPlace_34 : decode b_Tape_firstPlace 34 = .ok (.goto 9, 3) := by decide +kernel
theorem d_Tape_firstPlace_37 : decode b_Tape_firstPlace 37 = .ok (.aload_n 0, 1) := by decide +kernel
theorem d_Tape_firstPlace_38 : decode b_Tape_firstPlace 38 = .ok (.getfield 19, 3) := by decide +kernel
theorem d_Tape_firstPlace_41 : decode b_Tape_firstPlace 41 = .ok (.iload_n 1, 1) := by decide +kernel
theorem d_Tape_firstPlace_42 : decode b_Tape_firstPlace 42 = .ok (.iaload, 1) := by decide +kernel
theorem d_Tape_firstPlace_43 : decode b_Tape_firstPlace 43 = .ok (.ireturn, 1) := by decide +kernel
theorem d_Tape_lastPlace_0 : decode b_Tape_lastPlace 0 = .ok (.iload_n 1, 1) := by decide +kernel
theorem d_Tape_lastPlace_1 : decode b_Tape_lastPlace 1 = .ok (.ifCond .lt 9, 3) := by decide +kernel
theorem d_Tape_lastPlace_4 : decode b_Tape_lastPlace 4 = .ok (.iload_n 1, 1) := by decide +kernel
theorem d_Tape_lastPlace_5 : decode b_Tape_lastPlace 5 = .ok (.bipush 6, 2) := by decide +kernel
theorem d_Tape_lastPlace_7 : decode b_Tape_lastPlace 7 = .ok (.if_icmp .lt 7, 3) := by decide +kernel
theorem d_Tape_lastPlace_10 : decode b_Tape_lastPlace 10 = .ok (.iload_n 2, 1) := by decide +kernel
theorem d_Tape_lastPlace_11 : decode b_Tape_lastPlace 11 = .ok (.iconst 1, 1) := by decide +kernel
theorem d_Tape_lastPlace_12 : decode b_Tape_lastPlace 12 = .ok (.isub, 1) := by decide +kernel
theorem d_Tape_lastPlace_13 : decode b_Tape_lastPlace 13 = .ok (.ireturn, 1) := by decide +kernel
theorem d_Tape_lastPlace_14 : decode b_Tape_lastPlace 14 = .ok (.aload_n 0, 1) := by decide +kernel
theorem d_Tape_lastPlace_15 : decode b_Tape_lastPlace 15 = .ok (.getfield 19, 3) := by decide +kernel
theorem d_Tape_lastPlace_18 : decode b_Tape_lastPlace 18 = .ok (.iload_n 1, 1) := by decide +kernel
theorem d_Tape_lastPlace_19 : decode b_Tape_lastPlace 19 = .ok (.iaload, 1) := by decide +kernel
theorem d_Tape_lastPlace_20 : decode b_Tape_lastPlace 20 = .ok (.iconst (-1), 1) := by decide +kernel
theorem d_Tape_lastPlace_21 : decode b_Tape_lastPlace 21 = .ok (.if_icmp .eq 13, 3) := by decide +kernel
theorem d_Tape_lastPlace_24 : decode b_Tape_lastPlace 24 = .ok (.aload_n 0, 1) := by decide +kernel
theorem d_Tape_lastPlace_25 : decode b_Tape_lastPlace 25 = .ok (.getfield 22, 3) := by decide +kernel
theorem d_Tape_lastPlace_28 : decode b_Tape_lastPlace 28 = .ok (.iload_n 1, 1) := by decide +kernel
theorem d_Tape_lastPlace_29 : decode b_Tape_lastPlace 29 = .ok (.iaload, 1) := by decide +kernel
theorem d_Tape_lastPlace_30 : decode b_Tape_lastPlace 30 = .ok (.iconst (-1), 1) := by decide +kernel
theorem d_Tape_lastPlace_31 : decode b_Tape_lastPlace 31 = .ok (.if_icmp .ne 7, 3) := by decide +kernel
theorem d_Tape_lastPlace_34 : decode b_Tape_lastPlace 34 = .ok (.iconst 1, 1) := by decide +kernel
theorem d_Tape_lastPlace_35 : decode b_Tape_lastPlace 35 = .ok (.goto 4, 3) := by decide +kernel
theorem d_Tape_lastPlace_38 : decode b_Tape_lastPlace 38 = .ok (.iconst 0, 1) := by decide +kernel
theorem d_Tape_lastPlace_39 : decode b_Tape_lastPlace 39 = .ok (.istore_n 3, 1) := by decide +kernel
theorem d_Tape_lastPlace_40 : decode b_Tape_lastPlace 40 = .ok (.iload_n 3, 1) := by decide +kernel
theorem d_Tape_lastPlace_41 : decode b_Tape_lastPlace 41 = .ok (.ifCond .eq 9, 3) := by decide +kernel
theorem d_Tape_lastPlace_44 : decode b_Tape_lastPlace 44 = .ok (.iload_n 2, 1) := by decide +kernel
theorem d_Tape_lastPlace_45 : decode b_Tape_lastPlace 45 = .ok (.iconst 1, 1) := by decide +kernel
theorem d_Tape_lastPlace_46 : decode b_Tape_lastPlace 46 = .ok (.isub, 1) := by decide +kernel
theorem d_Tape_lastPlace_47 : decode b_Tape_lastPlace 47 = .ok (.goto 15, 3) := by decide +kernel
theorem d_Tape_lastPlace_50 : decode b_Tape_lastPlace 50 = .ok (.aload_n 0, 1) := by decide +kernel
theorem d_Tape_lastPlace_51 : decode b_Tape_lastPlace 51 = .ok (.getfield 22, 3) := by decide +kernel
theorem d_Tape_lastPlace_54 : decode b_Tape_lastPlace 54 = .ok (.iload_n 1, 1) := by decide +kernel
theorem d_Tape_lastPlace_55 : decode b_Tape_lastPlace 55 = .ok (.iaload, 1) := by decide +kernel
theorem d_Tape_lastPlace_56 : decode b_Tape_lastPlace 56 = .ok (.iload_n 2, 1) := by decide +kernel
theorem d_Tape_lastPlace_57 : decode b_Tape_lastPlace 57 = .ok (.iconst 1, 1) := by decide +kernel
theorem d_Tape_lastPlace_58 : decode b_Tape_lastPlace 58 = .ok (.isub, 1) := by decide +kernel
theorem d_Tape_lastPlace_59 : decode b_Tape_lastPlace 59 = .ok (.invokestatic 54, 3) := by decide +kernel
theorem d_Tape_lastPlace_62 : decode b_Tape_lastPlace 62 = .ok (.ireturn, 1) := by decide +kernel
theorem d_Tape_byteOf_0 : decode b_Tape_byteOf 0 = .ok (.lload_n 0, 1) := by decide +kernel
theorem d_Tape_byteOf_1 : decode b_Tape_byteOf 1 = .ok (.bipush 8, 2) := by decide +kernel
theorem d_Tape_byteOf_3 : decode b_Tape_byteOf 3 = .ok (.iload_n 2, 1) := by decide +kernel
theorem d_Tape_byteOf_4 : decode b_Tape_byteOf 4 = .ok (.imul, 1) := by decide +kernel
theorem d_Tape_byteOf_5 : decode b_Tape_byteOf 5 = .ok (.lushr, 1) := by decide +kernel
theorem d_Tape_byteOf_6 : decode b_Tape_byteOf 6 = .ok (.ldc2_w 57, 3) := by decide +kernel
theorem d_Tape_byteOf_9 : decode b_Tape_byteOf 9 = .ok (.land, 1) := by decide +kernel
theorem d_Tape_byteOf_10 : decode b_Tape_byteOf 10 = .ok (.l2i, 1) := by decide +kernel
theorem d_Tape_byteOf_11 : decode b_Tape_byteOf 11 = .ok (.ireturn, 1) := by decide +kernel
theorem d_Tape_signAt_0 : decode b_Tape_signAt 0 = .ok (.iload_n 1, 1) := by decide +kernel
theorem d_Tape_signAt_1 : decode b_Tape_signAt 1 = .ok (.ifCond .lt 11, 3) := by decide +kernel
theorem d_Tape_signAt_4 : decode b_Tape_signAt 4 = .ok (.iload_n 1, 1) := by decide +kernel
theorem d_Tape_signAt_5 : decode b_Tape_signAt 5 = .ok (.aload_n 0, 1) := by decide +kernel
theorem d_Tape_signAt_6 : decode b_Tape_signAt 6 = .ok (.getfield 15, 3) := by decide +kernel
theorem d_Tape_signAt_9 : decode b_Tape_signAt 9 = .ok (.if_icmp .lt 7, 3) := by decide +kernel
theorem d_Tape_signAt_12 : decode b_Tape_signAt 12 = .ok (.iconst (-1), 1) := by decide +kernel
theorem d_Tape_signAt_13 : decode b_Tape_signAt 13 = .ok (.goto 9, 3) := by decide +kernel
theorem d_Tape_signAt_16 : decode b_Tape_signAt 16 = .ok (.aload_n 0, 1) := by decide +kernel
theorem d_Tape_signAt_17 : decode b_Tape_signAt 17 = .ok (.getfield 11, 3) := by decide +kernel
theorem d_Tape_signAt_20 : decode b_Tape_signAt 20 = .ok (.iload_n 1, 1) := by decide +kernel
theorem d_Tape_signAt_21 : decode b_Tape_signAt 21 = .ok (.iaload, 1) := by decide +kernel
theorem d_Tape_signAt_22 : decode b_Tape_signAt 22 = .ok (.ireturn, 1) := by decide +kernel
theorem d_Tape_hasHead_0 : decode b_Tape_hasHead 0 = .ok (.iconst 0, 1) := by decide +kernel
theorem d_Tape_hasHead_1 : decode b_Tape_hasHead 1 = .ok (.istore_n 1, 1) := by decide +kernel
theorem d_Tape_hasHead_2 : decode b_Tape_hasHead 2 = .ok (.iload_n 1, 1) := by decide +kernel
theorem d_Tape_hasHead_3 : decode b_Tape_hasHead 3 = .ok (.ldc 33, 2) := by decide +kernel
theorem d_Tape_hasHead_5 : decode b_Tape_hasHead 5 = .ok (.invokevirtual 35, 3) := by decide +kernel
theorem d_Tape_hasHead_8 : decode b_Tape_hasHead 8 = .ok (.if_icmp .ge 25, 3) := by decide +kernel
theorem d_Tape_hasHead_11 : decode b_Tape_hasHead 11 = .ok (.aload_n 0, 1) := by decide +kernel
theorem d_Tape_hasHead_12 : decode b_Tape_hasHead 12 = .ok (.iload_n 1, 1) := by decide +kernel
theorem d_Tape_hasHead_13 : decode b_Tape_hasHead 13 = .ok (.invokevirtual 45, 3) := by decide +kernel
theorem d_Tape_hasHead_16 : decode b_Tape_hasHead 16 = .ok (.ldc 33, 2) := by decide +kernel
theorem d_Tape_hasHead_18 : decode b_Tape_hasHead 18 = .ok (.iload_n 1, 1) := by decide +kernel
theorem d_Tape_hasHead_19 : decode b_Tape_hasHead 19 = .ok (.invokevirtual 59, 3) := by decide +kernel
theorem d_Tape_hasHead_22 : decode b_Tape_hasHead 22 = .ok (.if_icmp .eq 5, 3) := by decide +kernel
theorem d_Tape_hasHead_25 : decode b_Tape_hasHead 25 = .ok (.iconst 0, 1) := by decide +kernel
theorem d_Tape_hasHead_26 : decode b_Tape_hasHead 26 = .ok (.ireturn, 1) := by decide +kernel
theorem d_Tape_hasHead_27 : decode b_Tape_hasHead 27 = .ok (.iinc 1 1, 3) := by decide +kernel
theorem d_Tape_hasHead_30 : decode b_Tape_hasHead 30 = .ok (.goto (-28), 3) := by decide +kernel
theorem d_Tape_hasHead_33 : decode b_Tape_hasHead 33 = .ok (.iconst 1, 1) := by decide +kernel
theorem d_Tape_hasHead_34 : decode b_Tape_hasHead 34 = .ok (.ireturn, 1) := by decide +kernel
theorem d_Tape_readPart_0 : decode b_Tape_readPart 0 = .ok (.aload_n 0, 1) := by decide +kernel
theorem d_Tape_readPart_1 : decode b_Tape_readPart 1 = .ok (.iload_n 2, 1) := by decide +kernel
theorem d_Tape_readPart_2 : decode b_Tape_readPart 2 = .ok (.invokevirtual 63, 3) := by decide +kernel
theorem d_Tape_readPart_5 : decode b_Tape_readPart 5 = .ok (.istore_n 3, 1) := by decide +kernel
theorem d_Tape_readPart_6 : decode b_Tape_readPart 6 = .ok (.aload_n 0, 1) := by decide +kernel
theorem d_Tape_readPart_7 : decode b_Tape_readPart 7 = .ok (.iload_n 3, 1) := by decide +kernel
theorem d_Tape_readPart_8 : decode b_Tape_readPart 8 = .ok (.invokevirtual 45, 3) := by decide +kernel
theorem d_Tape_readPart_11 : decode b_Tape_readPart 11 = .ok (.bipush 45, 2) := by decide +kernel
theorem d_Tape_readPart_13 : decode b_Tape_readPart 13 = .ok (.if_icmp .ne 13, 3) := by decide +kernel
theorem d_Tape_readPart_16 : decode b_Tape_readPart 16 = .ok (.iload_n 1, 1) := by decide +kernel
theorem d_Tape_readPart_17 : decode b_Tape_readPart 17 = .ok (.ifCond .lt 9, 3) := by decide +kernel
theorem d_Tape_readPart_20 : decode b_Tape_readPart 20 = .ok (.iload_n 1, 1) := by decide +kernel
theorem d_Tape_readPart_21 : decode b_Tape_readPart 21 = .ok (.bipush 6, 2) := by decide +kernel
theorem d_Tape_readPart_23 : decode b_Tape_readPart 23 = .ok (.if_icmp .lt 5, 3) := by decide +kernel
theorem d_Tape_readPart_26 : decode b_Tape_readPart 26 = .ok (.iconst (-1), 1) := by decide +kernel
theorem d_Tape_readPart_27 : decode b_Tape_readPart 27 = .ok (.ireturn, 1) := by decide +kernel
theorem d_Tape_readPart_28 : decode b_Tape_readPart 28 = .ok (.aload_n 0, 1) := by decide +kernel
theorem d_Tape_readPart_29 : decode b_Tape_readPart 29 = .ok (.iload_n 3, 1) := by decide +kernel
theorem d_Tape_readPart_30 : decode b_Tape_readPart 30 = .ok (.iconst 1, 1) := by decide +kernel
theorem d_Tape_readPart_31 : decode b_Tape_readPart 31 = .ok (.iadd, 1) := by decide +kernel
theorem d_Tape_readPart_32 : decode b_Tape_readPart 32 = .ok (.invokevirtual 63, 3) := by decide +kernel
theorem d_Tape_readPart_35 : decode b_Tape_readPart 35 = .ok (.istore 4, 2) := by decide +kernel
theorem d_Tape_readPart_37 : decode b_Tape_readPart 37 = .ok (.aload_n 0, 1) := by decide +kernel
theorem d_Tape_readPart_38 : decode b_Tape_readPart 38 = .ok (.iload_n 2, 1) := by decide +kernel
theorem d_Tape_readPart_39 : decode b_Tape_readPart 39 = .ok (.iload_n 3, 1) := by decide +kernel
theorem d_Tape_readPart_40 : decode b_Tape_readPart 40 = .ok (.invokevirtual 66, 3) := by decide +kernel
theorem d_Tape_readPart_43 : decode b_Tape_readPart 43 = .ok (.istore 5, 2) := by decide +kernel
theorem d_Tape_readPart_45 : decode b_Tape_readPart 45 = .ok (.aload_n 0, 1) := by decide +kernel
theorem d_Tape_readPart_46 : decode b_Tape_readPart 46 = .ok (.iload_n 3, 1) := by decide +kernel
theorem d_Tape_readPart_47 : decode b_Tape_readPart 47 = .ok (.iconst 1, 1) := by decide +kernel
theorem d_Tape_readPart_48 : decode b_Tape_readPart 48 = .ok (.iadd, 1) := by decide +kernel
theorem d_Tape_readPart_49 : decode b_Tape_readPart 49 = .ok (.iload 4, 2) := by decide +kernel
theorem d_Tape_readPart_51 : decode b_Tape_readPart 51 = .ok (.invokevirtual 66, 3) := by decide +kernel
theorem d_Tape_readPart_54 : decode b_Tape_readPart 54 = .ok (.istore 6, 2) := by decide +kernel
theorem d_Tape_readPart_56 : decode b_Tape_readPart 56 = .ok (.iload 5, 2) := by decide +kernel
theorem d_Tape_readPart_58 : decode b_Tape_readPart 58 = .ok (.iconst (-1), 1) := by decide +kernel
theorem d_Tape_readPart_59 : decode b_Tape_readPart 59 = .ok (.if_icmp .ne 13, 3) := by decide +kernel
theorem d_Tape_readPart_62 : decode b_Tape_readPart 62 = .ok (.iload 6, 2) := by decide +kernel
theorem d_Tape_readPart_64 : decode b_Tape_readPart 64 = .ok (.iconst (-1), 1) := by decide +kernel
theorem d_Tape_readPart_65 : decode b_Tape_readPart 65 = .ok (.if_icmp .ne 7, 3) := by decide +kernel
theorem d_Tape_readPart_68 : decode b_Tape_readPart 68 = .ok (.iconst 1, 1) := by decide +kernel
theorem d_Tape_readPart_69 : decode b_Tape_readPart 69 = .ok (.goto 4, 3) := by decide +kernel
theorem d_Tape_readPart_72 : decode b_Tape_readPart 72 = .ok (.iconst 0, 1) := by decide +kernel
theorem d_Tape_readPart_73 : decode b_Tape_readPart 73 = .ok (.istore 7, 2) := by decide +kernel
theorem d_Tape_readPart_75 : decode b_Tape_readPart 75 = .ok (.iload 6, 2) := by decide +kernel
theorem d_Tape_readPart_77 : decode b_Tape_readPart 77 = .ok (.iconst (-1), 1) := by decide +kernel
theorem d_Tape_readPart_78 : decode b_Tape_readPart 78 = .ok (.if_icmp .eq 14, 3) := by decide +kernel
theorem d_Tape_readPart_81 : decode b_Tape_readPart 81 = .ok (.iload 5, 2) := by decide +kernel
theorem d_Tape_readPart_83 : decode b_Tape_readPart 83 = .ok (.iload 6, 2) := by decide +kernel
theorem d_Tape_readPart_85 : decode b_Tape_readPart 85 = .ok (.if_icmp .le 7, 3) := by decide +kernel
theorem d_Tape_readPart_88 : decode b_Tape_readPart 88 = .ok (.iconst 1, 1) := by decide +kernel
theorem d_Tape_readPart_89 : decode b_Tape_readPart 89 = .ok (.goto 4, 3) := by decide +kernel
theorem d_Tape_readPart_92 : decode b_Tape_readPart 92 = .ok (.iconst 0, 1) := by decide +kernel
theorem d_Tape_readPart_93 : decode b_Tape_readPart 93 = .ok (.istore 8, 2) := by decide +kernel
theorem d_Tape_readPart_95 : decode b_Tape_readPart 95 = .ok (.iload 7, 2) := by decide +kernel
theorem d_Tape_readPart_97 : decode b_Tape_readPart 97 = .ok (.ifCond .ne 8, 3) := by decide +kernel
theorem d_Tape_readPart_100 : decode b_Tape_readPart 100 = .ok (.iload 8, 2) := by decide +kernel
theorem d_Tape_readPart_102 : decode b_Tape_readPart 102 = .ok (.ifCond .eq 5, 3) := by decide +kernel
theorem d_Tape_readPart_105 : decode b_Tape_readPart 105 = .ok (.iconst (-1), 1) := by decide +kernel
theorem d_Tape_readPart_106 : decode b_Tape_readPart 106 = .ok (.ireturn, 1) := by decide +kernel
theorem d_Tape_readPart_107 : decode b_Tape_readPart 107 = .ok (.aload_n 0, 1) := by decide +kernel
theorem d_Tape_readPart_108 : decode b_Tape_readPart 108 = .ok (.getfield 19, 3) := by decide +kernel
theorem d_Tape_readPart_111 : decode b_Tape_readPart 111 = .ok (.iload_n 1, 1) := by decide +kernel
theorem d_Tape_readPart_112 : decode b_Tape_readPart 112 = .ok (.iload 5, 2) := by decide +kernel
theorem d_Tape_readPart_114 : decode b_Tape_readPart 114 = .ok (.iastore, 1) := by decide +kernel
theorem d_Tape_readPart_115 : decode b_Tape_readPart 115 = .ok (.aload_n 0, 1) := by decide +kernel
theorem d_Tape_readPart_116 : decode b_Tape_readPart 116 = .ok (.getfield 22, 3) := by decide +kernel
theorem d_Tape_readPart_119 : decode b_Tape_readPart 119 = .ok (.iload_n 1, 1) := by decide +kernel
theorem d_Tape_readPart_120 : decode b_Tape_readPart 120 = .ok (.iload 6, 2) := by decide +kernel
theorem d_Tape_readPart_122 : decode b_Tape_readPart 122 = .ok (.iastore, 1) := by decide +kernel
theorem d_Tape_readPart_123 : decode b_Tape_readPart 123 = .ok (.iload 4, 2) := by decide +kernel
theorem d_Tape_readPart_125 : decode b_Tape_readPart 125 = .ok (.ireturn, 1) := by decide +kernel
theorem d_Tape_endOfDigits_0 : decode b_Tape_endOfDigits 0 = .ok (.iload_n 1, 1) := by decide +kernel
theorem d_Tape_endOfDigits_1 : decode b_Tape_endOfDigits 1 = .ok (.istore_n 2, 1) := by decide +kernel
theorem d_Tape_endOfDigits_2 : decode b_Tape_endOfDigits 2 = .ok (.iload_n 2, 1) := by decide +kernel
theorem d_Tape_endOfDigits_3 : decode b_Tape_endOfDigits 3 = .ok (.iload_n 1, 1) := by decide +kernel
theorem d_Tape_endOfDigits_4 : decode b_Tape_endOfDigits 4 = .ok (.iconst 5, 1) := by decide +kernel
theorem d_Tape_endOfDigits_5 : decode b_Tape_endOfDigits 5 = .ok (.iadd, 1) := by decide +kernel
theorem d_Tape_endOfDigits_6 : decode b_Tape_endOfDigits 6 = .ok (.if_icmp .ge 29, 3) := by decide +kernel
theorem d_Tape_endOfDigits_9 : decode b_Tape_endOfDigits 9 = .ok (.aload_n 0, 1) := by decide +kernel
theorem d_Tape_endOfDigits_10 : decode b_Tape_endOfDigits 10 = .ok (.iload_n 2, 1) := by decide +kernel
theorem d_Tape_endOfDigits_11 : decode b_Tape_endOfDigits 11 = .ok (.invokevirtual 45, 3) := by decide +kernel
theorem d_Tape_endOfDigits_14 : decode b_Tape_endOfDigits 14 = .ok (.bipush 48, 2) := by decide +kernel
theorem d_Tape_endOfDigits_16 : decode b_Tape_endOfDigits 16 = .ok (.if_icmp .lt 19, 3) := by decide +kernel
theorem d_Tape_endOfDigits_19 : decode b_Tape_endOfDigits 19 = .ok (.aload_n 0, 1) := by decide +kernel
theorem d_Tape_endOfDigits_20 : decode b_Tape_endOfDigits 20 = .ok (.iload_n 2, 1) := by decide +kernel
theorem d_Tape_endOfDigits_21 : decode b_Tape_endOfDigits 21 = .ok (.invokevirtual 45, 3) := by decide +kernel
theorem d_Tape_endOfDigits_24 : decode b_Tape_endOfDigits 24 = .ok (.bipush 57, 2) := by decide +kernel
theorem d_Tape_endOfDigits_26 : decode b_Tape_endOfDigits 26 = .ok (.if_icmp .gt 9, 3) := by decide +kernel
theorem d_Tape_endOfDigits_29 : decode b_Tape_endOfDigits 29 = .ok (.iinc 2 1, 3) := by decide +kernel
theorem d_Tape_endOfDigits_32 : decode b_Tape_endOfDigits 32 = .ok (.goto (-30), 3) := by decide +kernel
theorem d_Tape_endOfDigits_35 : decode b_Tape_endOfDigits 35 = .ok (.iload_n 2, 1) := by decide +kernel
theorem d_Tape_endOfDigits_36 : decode b_Tape_endOfDigits 36 = .ok (.ireturn, 1) := by decide +kernel
theorem d_Tape_numberIn_0 : decode b_Tape_numberIn 0 = .ok (.iload_n 1, 1) := by decide +kernel
theorem d_Tape_numberIn_1 : decode b_Tape_numberIn 1 = .ok (.iload_n 2, 1) := by decide +kernel
theorem d_Tape_numberIn_2 : decode b_Tape_numberIn 2 = .ok (.if_icmp .ne 5, 3) := by decide +kernel
theorem d_Tape_numberIn_5 : decode b_Tape_numberIn 5 = .ok (.iconst (-1), 1) := by decide +kernel
theorem d_Tape_numberIn_6 : decode b_Tape_numberIn 6 = .ok (.ireturn, 1) := by decide +kernel
theorem d_Tape_numberIn_7 : decode b_Tape_numberIn 7 = .ok (.iconst 0, 1) := by decide +kernel
theorem d_Tape_numberIn_8 : decode b_Tape_numberIn 8 = .ok (.istore_n 3, 1) := by decide +kernel
theorem d_Tape_numberIn_9 : decode b_Tape_numberIn 9 = .ok (.iload_n 1, 1) := by decide +kernel
theorem d_Tape_numberIn_10 : decode b_Tape_numberIn 10 = .ok (.istore 4, 2) := by decide +kernel
theorem d_Tape_numberIn_12 : decode b_Tape_numberIn 12 = .ok (.iload 4, 2) := by decide +kernel
theorem d_Tape_numberIn_14 : decode b_Tape_numberIn 14 = .ok (.iload_n 2, 1) := by decide +kernel
theorem d_Tape_numberIn_15 : decode b_Tape_numberIn 15 = .ok (.if_icmp .ge 24, 3) := by decide +kernel
theorem d_Tape_numberIn_18 : decode b_Tape_numberIn 18 = .ok (.iload_n 3, 1) := by decide +kernel
theorem d_Tape_numberIn_19 : decode b_Tape_numberIn 19 = .ok (.bipush 10, 2) := by decide +kernel
theorem d_Tape_numberIn_21 : decode b_Tape_numberIn 21 = .ok (.imul, 1) := by decide +kernel
theorem d_Tape_numberIn_22 : decode b_Tape_numberIn 22 = .ok (.aload_n 0, 1) := by decide +kernel
theorem d_Tape_numberIn_23 : decode b_Tape_numberIn 23 = .ok (.iload 4, 2) := by decide +kernel
theorem d_Tape_numberIn_25 : decode b_Tape_numberIn 25 = .ok (.invokevirtual 45, 3) := by decide +kernel
theorem d_Tape_numberIn_28 : decode b_Tape_numberIn 28 = .ok (.iadd, 1) := by decide +kernel
theorem d_Tape_numberIn_29 : decode b_Tape_numberIn 29 = .ok (.bipush 48, 2) := by decide +kernel
theorem d_Tape_numberIn_31 : decode b_Tape_numberIn 31 = .ok (.isub, 1) := by decide +kernel
theorem d_Tape_numberIn_32 : decode b_Tape_numberIn 32 = .ok (.istore_n 3, 1) := by decide +kernel
theorem d_Tape_numberIn_33 : decode b_Tape_numberIn 33 = .ok (.iinc 4 1, 3) := by decide +kernel
theorem d_Tape_numberIn_36 : decode b_Tape_numberIn 36 = .ok (.goto (-24), 3) := by decide +kernel
theorem d_Tape_numberIn_39 : decode b_Tape_numberIn 39 = .ok (.iload_n 3, 1) := by decide +kernel
theorem d_Tape_numberIn_40 : decode b_Tape_numberIn 40 = .ok (.ireturn, 1) := by decide +kernel
theorem d_Thing_init_0 : decode b_Thing_init 0 = .ok (.aload_n 0, 1) := by decide +kernel
theorem d_Thing_init_1 : decode b_Thing_init 1 = .ok (.invokespecial 3, 3) := by decide +kernel
theorem d_Thing_init_4 : decode b_Thing_init 4 = .ok (.aload_n 0, 1) := by decide +kernel
theorem d_Thing_init_5 : decode b_Thing_init 5 = .ok (.new 9, 3) := by decide +kernel
theorem d_Thing_init_8 : decode b_Thing_init 8 = .ok (.dup, 1) := by decide +kernel
theorem d_Thing_init_9 : decode b_Thing_init 9 = .ok (.invokespecial 11, 3) := by decide +kernel
theorem d_Thing_init_12 : decode b_Thing_init 12 = .ok (.putfield 12, 3) := by decide +kernel
theorem d_Thing_init_15 : decode b_Thing_init 15 = .ok (.aload_n 0, 1) := by decide +kernel
theorem d_Thing_init_16 : decode b_Thing_init 16 = .ok (.iconst (-1), 1) := by decide +kernel
theorem d_Thing_init_17 : decode b_Thing_init 17 = .ok (.putfield 18, 3) := by decide +kernel
theorem d_Thing_init_20 : decode b_Thing_init 20 = .ok (.aload_n 0, 1) := by decide +kernel
theorem d_Thing_init_21 : decode b_Thing_init 21 = .ok (.iconst 0, 1) := by decide +kernel
theorem d_Thing_init_22 : decode b_Thing_init 22 = .ok (.putfield 22, 3) := by decide +kernel
theorem d_Thing_init_25 : decode b_Thing_init 25 = .ok (.aload_n 0, 1) := by decide +kernel
theorem d_Thing_init_26 : decode b_Thing_init 26 = .ok (.lconst 0, 1) := by decide +kernel
theorem d_Thing_init_27 : decode b_Thing_init 27 = .ok (.putfield 25, 3) := by decide +kernel
theorem d_Thing_init_30 : decode b_Thing_init 30 = .ok (.return_, 1) := by decide +kernel
theorem d_Thing_describe_0 : decode b_Thing_describe 0 = .ok (.iload_n 1, 1) := by decide +kernel
theorem d_Thing_describe_1 : decode b_Thing_describe 1 = .ok (.aload_n 0, 1) := by decide +kernel
theorem d_Thing_describe_2 : decode b_Thing_describe 2 = .ok (.getfield 18, 3) := by decide +kernel
theorem d_Thing_describe_5 : decode b_Thing_describe 5 = .ok (.if_icmp .ne 11, 3) := by decide +kernel
theorem d_Thing_describe_8 : decode b_Thing_describe 8 = .ok (.iload_n 2, 1) := by decide +kernel
theorem d_Thing_describe_9 : decode b_Thing_describe 9 = .ok (.aload_n 0, 1) := by decide +kernel
theorem d_Thing_describe_10 : decode b_Thing_describe 10 = .ok (.getfield 22, 3) := by decide +kernel
theorem d_Thing_describe_13 : decode b_Thing_describe 13 = .ok (.if_icmp .eq 10, 3) := by decide +kernel
theorem d_Thing_describe_16 : decode b_Thing_describe 16 = .ok (.aload_n 0, 1) := by decide +kernel
theorem d_Thing_describe_17 : decode b_Thing_describe 17 = .ok (.getfield 12, 3) := by decide +kernel
theorem d_Thing_describe_20 : decode b_Thing_describe 20 = .ok (.invokevirtual 29, 3) := by decide +kernel
theorem d_Thing_describe_23 : decode b_Thing_describe 23 = .ok (.aload_n 0, 1) := by decide +kernel
theorem d_Thing_describe_24 : decode b_Thing_describe 24 = .ok (.iload_n 1, 1) := by decide +kernel
theorem d_Thing_describe_25 : decode b_Thing_describe 25 = .ok (.putfield 18, 3) := by decide +kernel
theorem d_Thing_describe_28 : decode b_Thing_describe 28 = .ok (.aload_n 0, 1) := by decide +kernel
theorem d_Thing_describe_29 : decode b_Thing_describe 29 = .ok (.iload_n 2, 1) := by decide +kernel
theorem d_Thing_describe_30 : decode b_Thing_describe 30 = .ok (.putfield 22, 3) := by decide +kernel
theorem d_Thing_describe_33 : decode b_Thing_describe 33 = .ok (.return_, 1) := by decide +kernel
theorem d_Thing_lose_0 : decode b_Thing_lose 0 = .ok (.aload_n 0, 1) := by decide +kernel
theorem d_Thing_lose_1 : decode b_Thing_lose 1 = .ok (.iconst (-1), 1) := by decide +kernel
theorem d_Thing_lose_2 : decode b_Thing_lose 2 = .ok (.putfield 18, 3) := by decide +kernel
theorem d_Thing_lose_5 : decode b_Thing_lose 5 = .ok (.aload_n 0, 1) := by decide +kernel
theorem d_Thing_lose_6 : decode b_Thing_lose 6 = .ok (.getfield 12, 3) := by decide +kernel
theorem d_Thing_lose_9 : decode b_Thing_lose 9 = .ok (.invokevirtual 29, 3) := by decide +kernel
theorem d_Thing_lose_12 : decode b_Thing_lose 12 = .ok (.return_, 1) := by decide +kernel
theorem d_Thing_accepts_0 : decode b_Thing_accepts 0 = .ok (.iload_n 3, 1) := by decide +kernel
theorem d_Thing_accepts_1 : decode b_Thing_accepts 1 = .ok (.aload_n 0, 1) := by decide +kernel
theorem d_Thing_accepts_2 : decode b_Thing_accepts 2 = .ok (.getfield 22, 3) := by decide +kernel
theorem d_Thing_accepts_5 : decode b_Thing_accepts 5 = .ok (.if_icmp .ne 24, 3) := by decide +kernel
theorem d_Thing_accepts_8 : decode b_Thing_accepts 8 = .ok (.iload_n 1, 1) := by decide +kernel
theorem d_Thing_accepts_9 : decode b_Thing_accepts 9 = .ok (.ifCond .lt 20, 3) := by decide +kernel
theorem d_Thing_accepts_12 : decode b_Thing_accepts 12 = .ok (.iload_n 1, 1) := by decide +kernel
theorem d_Thing_accepts_13 : decode b_Thing_accepts 13 = .ok (.iload_n 2, 1) := by decide +kernel
theorem d_Thing_accepts_14 : decode b_Thing_accepts 14 = .ok (.if_icmp .gt 15, 3) := by decide +kernel
theorem d_Thing_accepts_17 : decode b_Thing_accepts 17 = .ok (.iload_n 2, 1) := by decide +kernel
theorem d_Thing_accepts_18 : decode b_Thing_accepts 18 = .ok (.aload_n 0, 1) := by decide +kernel
theorem d_Thing_accepts_19 : decode b_Thing_accepts 19 = .ok (.getfield 18, 3) := by decide +kernel
theorem d_Thing_accepts_22 : decode b_Thing_accepts 22 = .ok (.if_icmp .ge 7, 3) := by decide +kernel
theorem d_Thing_accepts_25 : decode b_Thing_accepts 25 = .ok (.iconst 1, 1) := by decide +kernel
theorem d_Thing_accepts_26 : decode b_Thing_accepts 26 = .ok (.goto 4, 3) := by decide +kernel
theorem d_Thing_accepts_29 : decode b_Thing_accepts 29 = .ok (.iconst 0, 1) := by decide +kernel
theorem d_Thing_accepts_30 : decode b_Thing_accepts 30 = .ok (.ireturn, 1) := by decide +kernel
theorem d_Thing_firstMissing_0 : decode b_Thing_firstMissing 0 = .ok (.aload_n 0, 1) := by decide +kernel
theorem d_Thing_firstMissing_1 : decode b_Thing_firstMissing 1 = .ok (.getfield 12, 3) := by decide +kernel
theorem d_Thing_firstMissing_4 : decode b_Thing_firstMissing 4 = .ok (.iconst 0, 1) := by decide +kernel
theorem d_Thing_firstMissing_5 : decode b_Thing_firstMissing 5 = .ok (.iconst 0, 1) := by decide +kernel
theorem d_Thing_firstMissing_6 : decode b_Thing_firstMissing 6 = .ok (.invokevirtual 32, 3) := by decide +kernel
theorem d_Thing_firstMissing_9 : decode b_Thing_firstMissing 9 = .ok (.istore_n 1, 1) := by decide +kernel
theorem d_Thing_firstMissing_10 : decode b_Thing_firstMissing 10 = .ok (.iload_n 1, 1) := by decide +kernel
theorem d_Thing_firstMissing_11 : decode b_Thing_firstMissing 11 = .ok (.aload_n 0, 1) := by decide +kernel
theorem d_Thing_firstMissing_12 : decode b_Thing_firstMissing 12 = .ok (.getfield 18, 3) := by decide +kernel
theorem d_Thing_firstMissing_15 : decode b_Thing_firstMissing 15 = .ok (.if_icmp .ge 7, 3) := by decide +kernel
theorem d_Thing_firstMissing_18 : decode b_Thing_firstMissing 18 = .ok (.iload_n 1, 1) := by decide +kernel
theorem d_Thing_firstMissing_19 : decode b_Thing_firstMissing 19 = .ok (.goto 4, 3) := by decide +kernel
theorem d_Thing_firstMissing_22 : decode b_Thing_firstMissing 22 = .ok (.iconst (-1), 1) := by decide +kernel
theorem d_Thing_firstMissing_23 : decode b_Thing_firstMissing 23 = .ok (.ireturn, 1) := by decide +kernel
theorem d_Reply_init_0 : decode b_Reply_init 0 = .ok (.aload_n 0, 1) := by decide +kernel
theorem d_Reply_init_1 : decode b_Reply_init 1 = .ok (.invokespecial 3, 3) := by decide +kernel
theorem d_Reply_init_4 : decode b_Reply_init 4 = .ok (.aload_n 0, 1) := by decide +kernel
theorem d_Reply_init_5 : decode b_Reply_init 5 = .ok (.iconst (-1), 1) := by decide +kernel
theorem d_Reply_init_6 : decode b_Reply_init 6 = .ok (.putfield 9, 3) := by decide +kernel
theorem d_Reply_init_9 : decode b_Reply_init 9 = .ok (.aload_n 0, 1) := by decide +kernel
theorem d_Reply_init_10 : decode b_Reply_init 10 = .ok (.bipush 6, 2) := by decide +kernel
theorem d_Reply_init_12 : decode b_Reply_init 12 = .ok (.newarray .int, 2) := by decide +kernel
theorem d_Reply_init_14 : decode b_Reply_init 14 = .ok (.putfield 17, 3) := by decide +kernel
theorem d_Reply_init_17 : decode b_Reply_init 17 = .ok (.aload_n 0, 1) := by decide +kernel
theorem d_Reply_init_18 : decode b_Reply_init 18 = .ok (.bipush 6, 2) := by decide +kernel
theorem d_Reply_init_20 : decode b_Reply_init 20 = .ok (.newarray .int, 2) := by decide +kernel
theorem d_Reply_init_22 : decode b_Reply_init 22 = .ok (.putfield 21, 3) := by decide +kernel
theorem d_Reply_init_25 : decode b_Reply_init 25 = .ok (.aload_n 0, 1) := by decide +kernel
theorem d_Reply_init_26 : decode b_Reply_init 26 = .ok (.new 24, 3) := by decide +kernel
theorem d_Reply_init_29 : decode b_Reply_init 29 = .ok (.dup, 1) := by decide +kernel
theorem d_Reply_init_30 : decode b_Reply_init 30 = .ok (.invokespecial 26, 3) := by decide +kernel
theorem d_Reply_init_33 : decode b_Reply_init 33 = .ok (.putfield 27, 3) := by decide +kernel
theorem d_Reply_init_36 : decode b_Reply_init 36 = .ok (.aload_n 0, 1) := by decide +kernel
theorem d_Reply_init_37 : decode b_Reply_init 37 = .ok (.new 24, 3) := by decide +kernel
theorem d_Reply_init_40 : decode b_Reply_init 40 = .ok (.dup, 1) := by decide +kernel
theorem d_Reply_init_41 : decode b_Reply_init 41 = .ok (.invokespecial 26, 3) := by decide +kernel
theorem d_Reply_init_44 : decode b_Reply_init 44 = .ok (.putfield 31, 3) := by decide +kernel
theorem d_Reply_init_47 : decode b_Reply_init 47 = .ok (.aload_n 0, 1) := by decide +kernel
theorem d_Reply_init_48 : decode b_Reply_init 48 = .ok (.new 24, 3) := by decide +kernel
theorem d_Reply_init_51 : decode b_Reply_init 51 = .ok (.dup, 1) := by decide +kernel
theorem d_Reply_init_52 : decode b_Reply_init 52 = .ok (.invokespecial 26, 3) := by decide +kernel
theorem d_Reply_init_55 : decode b_Reply_init 55 = .ok (.putfield 34, 3) := by decide +kernel
theorem d_Reply_init_58 : decode b_Reply_init 58 = .ok (.return_, 1) := by decide +kernel
theorem d_Reply_begin_0 : decode b_Reply_begin 0 = .ok (.aload_n 0, 1) := by decide +kernel
theorem d_Reply_begin_1 : decode b_Reply_begin 1 = .ok (.iload_n 1, 1) := by decide +kernel
theorem d_Reply_begin_2 : decode b_Reply_begin 2 = .ok (.putfield 9, 3) := by decide +kernel
theorem d_Reply_begin_5 : decode b_Reply_begin 5 = .ok (.aload_n 0, 1) := by decide +kernel
theorem d_Reply_begin_6 : decode b_Reply_begin 6 = .ok (.iconst 0, 1) := by decide +kernel
theorem d_Reply_begin_7 : decode b_Reply_begin 7 = .ok (.putfield 37, 3) := by decide +kernel
theorem d_Reply_begin_10 : decode b_Reply_begin 10 = .ok (.aload_n 0, 1) := by decide +kernel
theorem d_Reply_begin_11 : decode b_Reply_begin 11 = .ok (.iconst 0, 1) := by decide +kernel
theorem d_Reply_begin_12 : decode b_Reply_begin 12 = .ok (.putfield 40, 3) := by decide +kernel
theorem d_Reply_begin_15 : decode b_Reply_begin 15 = .ok (.aload_n 0, 1) := by decide +kernel
theorem d_Reply_begin_16 : decode b_Reply_begin 16 = .ok (.iconst 0, 1) := by decide +kernel
theorem d_Reply_begin_17 : decode b_Reply_begin 17 = .ok (.putfield 44, 3) := by decide +kernel
theorem d_Reply_begin_20 : decode b_Reply_begin 20 = .ok (.aload_n 0, 1) := by decide +kernel
theorem d_Reply_begin_21 : decode b_Reply_begin 21 = .ok (.iconst 0, 1) := by decide +kernel
theorem d_Reply_begin_22 : decode b_Reply_begin 22 = .ok (.putfield 47, 3) := by decide +kernel
theorem d_Reply_begin_25 : decode b_Reply_begin 25 = .ok (.aload_n 0, 1) := by decide +kernel
theorem d_Reply_begin_26 : decode b_Reply_begin 26 = .ok (.getfield 27, 3) := by decide +kernel
theorem d_Reply_begin_29 : decode b_Reply_begin 29 = .ok (.invokevirtual 50, 3) := by decide +kernel
theorem d_Reply_begin_32 : decode b_Reply_begin 32 = .ok (.aload_n 0, 1) := by decide +kernel
theorem d_Reply_begin_33 : decode b_Reply_begin 33 = .ok (.getfield 31, 3) := by decide +kernel
theorem d_Reply_begin_36 : decode b_Reply_begin 36 = .ok (.invokevirtual 50, 3) := by decide +kernel
theorem d_Reply_begin_39 : decode b_Reply_begin 39 = .ok (.aload_n 0, 1) := by decide +kernel
theorem d_Reply_begin_40 : decode b_Reply_begin 40 = .ok (.getfield 34, 3) := by decide +kernel
theorem d_Reply_begin_43 : decode b_Reply_begin 43 = .ok (.invokevirtual 50, 3) := by decide +kernel
theorem d_Reply_begin_46 : decode b_Reply_begin 46 = .ok (.return_, 1) := by decide +kernel
theorem d_Reply_addRow_0 : decode b_Reply_addRow 0 = .ok (.iload_n 1, 1) := by decide +kernel
theorem d_Reply_addRow_1 : decode b_Reply_addRow 1 = .ok (.iload_n 2, 1) := by decide +kernel
theorem d_Reply_addRow_2 : decode b_Reply_addRow 2 = .ok (.if_icmp .gt 12, 3) := by decide +kernel
theorem d_Reply_addRow_5 : decode b_Reply_addRow 5 = .ok (.aload_n 0, 1) := by decide +kernel
theorem d_Reply_addRow_6 : decode b_Reply_addRow 6 = .ok (.getfield 37, 3) := by decide +kernel
theorem d_Reply_addRow_9 : decode b_Reply_addRow 9 = .ok (.bipush 6, 2) := by decide +kernel
theorem d_Reply_addRow_11 : decode b_Reply_addRow 11 = .ok (.if_icmp .lt 4, 3) := by decide +kernel
theorem d_Reply_addRow_14 : decode b_Reply_addRow 14 = .ok (.return_, 1) := by decide +kernel
theorem d_Reply_addRow_15 : decode b_Reply_addRow 15 = .ok (.aload_n 0, 1) := by decide +kernel
theorem d_Reply_addRow_16 : decode b_Reply_addRow 16 = .ok (.getfield 17, 3) := by decide +kernel
theorem d_Reply_addRow_19 : decode b_Reply_addRow 19 = .ok (.aload_n 0, 1) := by decide +kernel
theorem d_Reply_addRow_20 : decode b_Reply_addRow 20 = .ok (.getfield 37, 3) := by decide +kernel
theorem d_Reply_addRow_23 : decode b_Reply_addRow 23 = .ok (.iload_n 1, 1) := by decide +kernel
theorem d_Reply_addRow_24 : decode b_Reply_addRow 24 = .ok (.iastore, 1) := by decide +kernel
theorem d_Reply_addRow_25 : decode b_Reply_addRow 25 = .ok (.aload_n 0, 1) := by decide +kernel
theorem d_Reply_addRow_26 : decode b_Reply_addRow 26 = .ok (.getfield 21, 3) := by decide +kernel
theorem d_Reply_addRow_29 : decode b_Reply_addRow 29 = .ok (.aload_n 0, 1) := by decide +kernel
theorem d_Reply_addRow_30 : decode b_Reply_addRow 30 = .ok (.getfield 37, 3) := by decide +kernel
theorem d_Reply_addRow_33 : decode b_Reply_addRow 33 = .ok (.iload_n 2, 1) := by decide +kernel
theorem d_Reply_addRow_34 : decode b_Reply_addRow 34 = .ok (.iastore, 1) := by decide +kernel
theorem d_Reply_addRow_35 : decode b_Reply_addRow 35 = .ok (.aload_n 0, 1) := by decide +kernel
theorem d_Reply_addRow_36 : decode b_Reply_addRow 36 = .ok (.dup, 1) := by decide +kernel
theorem d_Reply_addRow_37 : decode b_Reply_addRow 37 = .ok (.getfield 37, 3) := by decide +kernel
theorem d_Reply_addRow_40 : decode b_Reply_addRow 40 = .ok (.iconst 1, 1) := by decide +kernel
theorem d_Reply_addRow_41 : decode b_Reply_addRow 41 = .ok (.iadd, 1) := by decide +kernel
theorem d_Reply_addRow_42 : decode b_Reply_addRow 42 = .ok (.putfield 37, 3) := by decide +kernel
theorem d_Reply_addRow_45 : decode b_Reply_addRow 45 = .ok (.aload_n 0, 1) := by decide +kernel
theorem d_Reply_addRow_46 : decode b_Reply_addRow 46 = .ok (.getfield 27, 3) := by decide +kernel
theorem d_Reply_addRow_49 : decode b_Reply_addRow 49 = .ok (.iload_n 1, 1) := by decide +kernel
theorem d_Reply_addRow_50 : decode b_Reply_addRow 50 = .ok (.iload_n 2, 1) := by decide +kernel
theorem d_Reply_addRow_51 : decode b_Reply_addRow 51 = .ok (.invokevirtual 53, 3) := by decide +kernel
theorem d_Reply_addRow_54 : decode b_Reply_addRow 54 = .ok (.istore_n 3, 1) := by decide +kernel
theorem d_Reply_addRow_55 : decode b_Reply_addRow 55 = .ok (.iload_n 3, 1) := by decide +kernel
theorem d_Reply_addRow_56 : decode b_Reply_addRow 56 = .ok (.iload_n 2, 1) := by decide +kernel
theorem d_Reply_addRow_57 : decode b_Reply_addRow 57 = .ok (.iload_n 1, 1) := by decide +kernel
theorem d_Reply_addRow_58 : decode b_Reply_addRow 58 = .ok (.isub, 1) := by decide +kernel
theorem d_Reply_addRow_59 : decode b_Reply_addRow 59 = .ok (.iconst 1, 1) := by decide +kernel
theorem d_Reply_addRow_60 : decode b_Reply_addRow 60 = .ok (.iadd, 1) := by decide +kernel
theorem d_Reply_addRow_61 : decode b_Reply_addRow 61 = .ok (.if_icmp .ge 8, 3) := by decide +kernel
theorem d_Reply_addRow_64 : decode b_Reply_addRow 64 = .ok (.aload_n 0, 1) := by decide +kernel
theorem d_Reply_addRow_65 : decode b_Reply_addRow 65 = .ok (.iconst 1, 1) := by decide +kernel
theorem d_Reply_addRow_66 : decode b_Reply_addRow 66 = .ok (.putfield 40, 3) := by decide +kernel
theorem d_Reply_addRow_69 : decode b_Reply_addRow 69 = .ok (.return_, 1) := by decide +kernel
theorem d_Reply_finish_0 : decode b_Reply_finish 0 = .ok (.aload_n 0, 1) := by decide +kernel
theorem d_Reply_finish_1 : decode b_Reply_finish 1 = .ok (.getfield 40, 3) := by decide +kernel
theorem d_Reply_finish_4 : decode b_Reply_finish 4 = .ok (.ifCond .ne 11, 3) := by decide +kernel
theorem d_Reply_finish_7 : decode b_Reply_finish 7 = .ok (.aload_n 0, 1) := by decide +kernel
theorem d_Reply_finish_8 : decode b_Reply_finish 8 = .ok (.getfield 37, 3) := by decide +kernel
theorem d_Reply_finish_11 : decode b_Reply_finish 11 = .ok (.iconst 3, 1) := by decide +kernel
theorem d_Reply_finish_12 : decode b_Reply_finish 12 = .ok (.if_icmp .le 7, 3) := by decide +kernel
theorem d_Reply_finish_15 : decode b_Reply_finish 15 = .ok (.aload_n 0, 1) := by decide +kernel
theorem d_Reply_finish_16 : decode b_Reply_finish 16 = .ok (.invokevirtual 57, 3) := by decide +kernel
theorem d_Reply_finish_19 : decode b_Reply_finish 19 = .ok (.aload_n 0, 1) := by decide +kernel
theorem d_Reply_finish_20 : decode b_Reply_finish 20 = .ok (.aload_n 0, 1) := by decide +kernel
theorem d_Reply_finish_21 : decode b_Reply_finish 21 = .ok (.getfield 27, 3) := by decide +kernel
theorem d_Reply_finish_24 : decode b_Reply_finish 24 = .ok (.invokevirtual 60, 3) := by decide +kernel
theorem d_Reply_finish_27 : decode b_Reply_finish 27 = .ok (.putfield 64, 3) := by decide +kernel
theorem d_Reply_finish_30 : decode b_Reply_finish 30 = .ok (.aload_n 0, 1) := by decide +kernel
theorem d_Reply_finish_31 : decode b_Reply_finish 31 = .ok (.getfield 27, 3) := by decide +kernel
theorem d_Reply_finish_34 : decode b_Reply_finish 34 = .ok (.aload_n 1, 1) := by decide +kernel
theorem d_Reply_finish_35 : decode b_Reply_finish 35 = .ok (.invokevirtual 67, 3) := by decide +kernel
theorem d_Reply_finish_38 : decode b_Reply_finish 38 = .ok (.aload_n 0, 1) := by decide +kernel
theorem d_Reply_finish_39 : decode b_Reply_finish 39 = .ok (.aload_n 0, 1) := by decide +kernel
theorem d_Reply_finish_40 : decode b_Reply_finish 40 = .ok (.getfield 64, 3) := by decide +kernel
theorem d_Reply_finish_43 : decode b_Reply_finish 43 = .ok (.aload_n 0, 1) := by decide +kernel
theorem d_Reply_finish_44 : decode b_Reply_finish 44 = .ok (.getfield 27, 3) := by decide +kernel
theorem d_Reply_finish_47 : decode b_Reply_finish 47 = .ok (.invokevirtual 60, 3) := by decide +kernel
theorem d_Reply_finish_50 : decode b_Reply_finish 50 = .ok (.isub, 1) := by decide +kernel
theorem d_Reply_finish_51 : decode b_Reply_finish 51 = .ok (.putfield 71, 3) := by decide +kernel
theorem d_Reply_finish_54 : decode b_Reply_finish 54 = .ok (.aload_n 0, 1) := by decide +kernel
theorem d_Reply_finish_55 : decode b_Reply_finish 55 = .ok (.iload_n 2, 1) := by decide +kernel
theorem d_Reply_finish_56 : decode b_Reply_finish 56 = .ok (.invokevirtual 74, 3) := by decide +kernel
theorem d_Reply_finish_59 : decode b_Reply_finish 59 = .ok (.return_, 1) := by decide +kernel
theorem d_Reply_number_0 : decode b_Reply_number 0 = .ok (.aload_n 0, 1) := by decide +kernel
theorem d_Reply_number_1 : decode b_Reply_number 1 = .ok (.getfield 9, 3) := by decide +kernel
theorem d_Reply_number_4 : decode b_Reply_number 4 = .ok (.iconst (-1), 1) := by decide +kernel
theorem d_Reply_number_5 : decode b_Reply_number 5 = .ok (.if_icmp .ne 5, 3) := by decide +kernel
theorem d_Reply_number_8 : decode b_Reply_number 8 = .ok (.iconst (-1), 1) := by decide +kernel
theorem d_Reply_number_9 : decode b_Reply_number 9 = .ok (.ireturn, 1) := by decide +kernel
theorem d_Reply_number_10 : decode b_Reply_number 10 = .ok (.iload_n 1, 1) := by decide +kernel
theorem d_Reply_number_11 : decode b_Reply_number 11 = .ok (.tableswitch 67 0 5 #[37, 42, 47, 52, 57, 62], 37) := by decide +kernel
theorem d_Reply_number_48 : decode b_Reply_number 48 = .ok (.aload_n 0, 1) := by decide +kernel
theorem d_Reply_number_49 : decode b_Reply_number 49 = .ok (.getfield 37, 3) := by decide +kernel
theorem d_Reply_number_52 : decode b_Reply_number 52 = .ok (.ireturn, 1) := by decide +kernel
theorem d_Reply_number_53 : decode b_Reply_number 53 = .ok (.aload_n 0, 1) := by decide +kernel
theorem d_Reply_number_54 : decode b_Reply_number 54 = .ok (.getfield 64, 3) := by decide +kernel
theorem d_Reply_number_57 : decode b_Reply_number 57 = .ok (.ireturn, 1) := by decide +kernel
theorem d_Reply_number_58 : decode b_Reply_number 58 = .ok (.aload_n 0, 1) := by decide +kernel
theorem d_Reply_number_59 : decode b_Reply_number 59 = .ok (.getfield 71, 3) := by decide +kernel
theorem d_Reply_number_62 : decode b_Reply_number 62 = .ok (.ireturn, 1) := by decide +kernel
theorem d_Reply_number_63 : decode b_Reply_number 63 = .ok (.aload_n 0, 1) := by decide +kernel
theorem d_Reply_number_64 : decode b_Reply_number 64 = .ok (.getfield 44, 3) := by decide +kernel
theorem d_Reply_number_67 : decode b_Reply_number 67 = .ok (.ireturn, 1) := by decide +kernel
theorem d_Reply_number_68 : decode b_Reply_number 68 = .ok (.aload_n 0, 1) := by decide +kernel
theorem d_Reply_number_69 : decode b_Reply_number 69 = .ok (.getfield 47, 3) := by decide +kernel
theorem d_Reply_number_72 : decode b_Reply_number 72 = .ok (.ireturn, 1) := by decide +kernel
theorem d_Reply_number_73 : decode b_Reply_number 73 = .ok (.aload_n 0, 1) := by decide +kernel
theorem d_Reply_number_74 : decode b_Reply_number 74 = .ok (.getfield 9, 3) := by decide +kernel
theorem d_Reply_number_77 : decode b_Reply_number 77 = .ok (.ireturn, 1) := by decide +kernel
theorem d_Reply_number_78 : decode b_Reply_number 78 = .ok (.iconst (-1), 1) := by decide +kernel
theorem d_Reply_number_79 : decode b_Reply_number 79 = .ok (.ireturn, 1) := by decide +kernel
theorem d_Reply_joinRows_0 : decode b_Reply_joinRows 0 = .ok (.aload_n 0, 1) := by decide +kernel
theorem d_Reply_joinRows_1 : decode b_Reply_joinRows 1 = .ok (.iconst 0, 1) := by decide +kernel
theorem d_Reply_joinRows_2 : decode b_Reply_joinRows 2 = .ok (.putfield 37, 3) := by decide +kernel
theorem d_Reply_joinRows_5 : decode b_Reply_joinRows 5 = .ok (.aload_n 0, 1) := by decide +kernel
theorem d_Reply_joinRows_6 : decode b_Reply_joinRows 6 = .ok (.getfield 27, 3) := by decide +kernel
theorem d_Reply_joinRows_9 : decode b_Reply_joinRows 9 = .ok (.iconst 0, 1) := by decide +kernel
theorem d_Reply_joinRows_10 : decode b_Reply_joinRows 10 = .ok (.iconst 1, 1) := by decide +kernel
theorem d_Reply_joinRows_11 : decode b_Reply_joinRows 11 = .ok (.invokevirtual 78, 3) := by decide +kernel
theorem d_Reply_joinRows_14 : decode b_Reply_joinRows 14 = .ok (.istore_n 1, 1) := by decide +kernel
theorem d_Reply_joinRows_15 : decode b_Reply_joinRows 15 = .ok (.aload_n 0, 1) := by decide +kernel
theorem d_Reply_joinRows_16 : decode b_Reply_joinRows 16 = .ok (.getfield 37, 3) := by decide +kernel
theorem d_Reply_joinRows_19 : decode b_Reply_joinRows 19 = .ok (.bipush 6, 2) := by decide +kernel
theorem d_Reply_joinRows_21 : decode b_Reply_joinRows 21 = .ok (.if_icmp .ge 65, 3) := by decide +kernel
theorem d_Reply_joinRows_24 : decode b_Reply_joinRows 24 = .ok (.iload_n 1, 1) := by decide +kernel
theorem d_Reply_joinRows_25 : decode b_Reply_joinRows 25 = .ok (.sipush 4096, 3) := by decide +kernel
theorem d_Reply_joinRows_28 : decode b_Reply_joinRows 28 = .ok (.if_icmp .ge 58, 3) := by decide +kernel
theorem d_Reply_joinRows_31 : decode b_Reply_joinRows 31 = .ok (.aload_n 0, 1) := by decide +kernel
theorem d_Reply_joinRows_32 : decode b_Reply_joinRows 32 = .ok (.getfield 27, 3) := by decide +kernel
theorem d_Reply_joinRows_35 : decode b_Reply_joinRows 35 = .ok (.iload_n 1, 1) := by decide +kernel
theorem d_Reply_joinRows_36 : decode b_Reply_joinRows 36 = .ok (.iconst 0, 1) := by decide +kernel
theorem d_Reply_joinRows_37 : decode b_Reply_joinRows 37 = .ok (.invokevirtual 78, 3) := by decide +kernel
theorem d_Reply_joinRows_40 : decode b_Reply_joinRows 40 = .ok (.istore_n 2, 1) := by decide +kernel
theorem d_Reply_joinRows_41 : decode b_Reply_joinRows 41 = .ok (.aload_n 0, 1) := by decide +kernel
theorem d_Reply_joinRows_42 : decode b_Reply_joinRows 42 = .ok (.getfield 17, 3) := by decide +kernel
theorem d_Reply_joinRows_45 : decode b_Reply_joinRows 45 = .ok (.aload_n 0, 1) := by decide +kernel
theorem d_Reply_joinRows_46 : decode b_Reply_joinRows 46 = .ok (.getfield 37, 3) := by decide +kernel
theorem d_Reply_joinRows_49 : decode b_Reply_joinRows 49 = .ok (.iload_n 1, 1) := by decide +kernel
theorem d_Reply_joinRows_50 : decode b_Reply_joinRows 50 = .ok (.iastore, 1) := by decide +kernel
theorem d_Reply_joinRows_51 : decode b_Reply_joinRows 51 = .ok (.aload_n 0, 1) := by decide +kernel
theorem d_Reply_joinRows_52 : decode b_Reply_joinRows 52 = .ok (.getfield 21, 3) := by decide +kernel
theorem d_Reply_joinRows_55 : decode b_Reply_joinRows 55 = .ok (.aload_n 0, 1) := by decide +kernel
theorem d_Reply_joinRows_56 : decode b_Reply_joinRows 56 = .ok (.getfield 37, 3) := by decide +kernel
theorem d_Reply_joinRows_59 : decode b_Reply_joinRows 59 = .ok (.iload_n 2, 1) := by decide +kernel
theorem d_Reply_joinRows_60 : decode b_Reply_joinRows 60 = .ok (.iconst 1, 1) := by decide +kernel
theorem d_Reply_joinRows_61 : decode b_Reply_joinRows 61 = .ok (.isub, 1) := by decide +kernel
theorem d_Reply_joinRows_62 : decode b_Reply_joinRows 62 = .ok (.iastore, 1) := by decide +kernel
theorem d_Reply_joinRows_63 : decode b_Reply_joinRows 63 = .ok (.aload_n 0, 1) := by decide +kernel
theorem d_Reply_joinRows_64 : decode b_Reply_joinRows 64 = .ok (.dup, 1) := by decide +kernel
theorem d_Reply_joinRows_65 : decode b_Reply_joinRows 65 = .ok (.getfield 37, 3) := by decide +kernel
theorem d_Reply_joinRows_68 : decode b_Reply_joinRows 68 = .ok (.iconst 1, 1) := by decide +kernel
theorem d_Reply_joinRows_69 : decode b_Reply_joinRows 69 = .ok (.iadd, 1) := by decide +kernel
theorem d_Reply_joinRows_70 : decode b_Reply_joinRows 70 = .ok (.putfield 37, 3) := by decide +kernel
theorem d_Reply_joinRows_73 : decode b_Reply_joinRows 73 = .ok (.aload_n 0, 1) := by decide +kernel
theorem d_Reply_joinRows_74 : decode b_Reply_joinRows 74 = .ok (.getfield 27, 3) := by decide +kernel
theorem d_Reply_joinRows_77 : decode b_Reply_joinRows 77 = .ok (.iload_n 2, 1) := by decide +kernel
theorem d_Reply_joinRows_78 : decode b_Reply_joinRows 78 = .ok (.iconst 1, 1) := by decide +kernel
theorem d_Reply_joinRows_79 : decode b_Reply_joinRows 79 = .ok (.invokevirtual 78, 3) := by decide +kernel
theorem d_Reply_joinRows_82 : decode b_Reply_joinRows 82 = .ok (.istore_n 1, 1) := by decide +kernel
theorem d_Reply_joinRows_83 : decode b_Reply_joinRows 83 = .ok (.goto (-68), 3) := by decide +kernel
theorem d_Reply_joinRows_86 : decode b_Reply_joinRows 86 = .ok (.return_, 1) := by decide +kernel
theorem d_Reply_plan_0 : decode b_Reply_plan 0 = .ok (.aload_n 0, 1) := by decide +kernel
theorem d_Reply_plan_1 : decode b_Reply_plan 1 = .ok (.getfield 27, 3) := by decide +kernel
theorem d_Reply_plan_4 : decode b_Reply_plan 4 = .ok (.iconst 0, 1) := by decide +kernel
theorem d_Reply_plan_5 : decode b_Reply_plan 5 = .ok (.iconst 1, 1) := by decide +kernel
theorem d_Reply_plan_6 : decode b_Reply_plan 6 = .ok (.invokevirtual 78, 3) := by decide +kernel
theorem d_Reply_plan_9 : decode b_Reply_plan 9 = .ok (.istore_n 2, 1) := by decide +kernel
theorem d_Reply_plan_10 : decode b_Reply_plan 10 = .ok (.aload_n 0, 1) := by decide +kernel
theorem d_Reply_plan_11 : decode b_Reply_plan 11 = .ok (.getfield 44, 3) := by decide +kernel
theorem d_Reply_plan_14 : decode b_Reply_plan 14 = .ok (.sipush 4096, 3) := by decide +kernel
theorem d_Reply_plan_17 : decode b_Reply_plan 17 = .ok (.if_icmp .ge 78, 3) := by decide +kernel
theorem d_Reply_plan_20 : decode b_Reply_plan 20 = .ok (.iload_n 2, 1) := by decide +kernel
theorem d_Reply_plan_21 : decode b_Reply_plan 21 = .ok (.sipush 4096, 3) := by decide +kernel
theorem d_Reply_plan_24 : decode b_Reply_plan 24 = .ok (.if_icmp .ge 71, 3) := by decide +kernel
theorem d_Reply_plan_27 : decode b_Reply_plan 27 = .ok (.aload_n 0, 1) := by decide +kernel
theorem d_Reply_plan_28 : decode b_Reply_plan 28 = .ok (.iload_n 2, 1) := by decide +kernel
theorem d_Reply_plan_29 : decode b_Reply_plan 29 = .ok (.iload_n 1, 1) := by decide +kernel
theorem d_Reply_plan_30 : decode b_Reply_plan 30 = .ok (.invokevirtual 82, 3) := by decide +kernel
theorem d_Reply_plan_33 : decode b_Reply_plan 33 = .ok (.istore_n 3, 1) := by decide +kernel
theorem d_Reply_plan_34 : decode b_Reply_plan 34 = .ok (.aload_n 0, 1) := by decide +kernel
theorem d_Reply_plan_35 : decode b_Reply_plan 35 = .ok (.getfield 31, 3) := by decide +kernel
theorem d_Reply_plan_38 : decode b_Reply_plan 38 = .ok (.iload_n 2, 1) := by decide +kernel
theorem d_Reply_plan_39 : decode b_Reply_plan 39 = .ok (.iload_n 2, 1) := by decide +kernel
theorem d_Reply_plan_40 : decode b_Reply_plan 40 = .ok (.invokevirtual 53, 3) := by decide +kernel
theorem d_Reply_plan_43 : decode b_Reply_plan 43 = .ok (.pop, 1) := by decide +kernel
theorem d_Reply_plan_44 : decode b_Reply_plan 44 = .ok (.aload_n 0, 1) := by decide +kernel
theorem d_Reply_plan_45 : decode b_Reply_plan 45 = .ok (.getfield 34, 3) := by decide +kernel
theorem d_Reply_plan_48 : decode b_Reply_plan 48 = .ok (.iload_n 3, 1) := by decide +kernel
theorem d_Reply_plan_49 : decode b_Reply_plan 49 = .ok (.iload_n 3, 1) := by decide +kernel
theorem d_Reply_plan_50 : decode b_Reply_plan 50 = .ok (.invokevirtual 53, 3) := by decide +kernel
theorem d_Reply_plan_53 : decode b_Reply_plan 53 = .ok (.pop, 1) := by decide +kernel
theorem d_Reply_plan_54 : decode b_Reply_plan 54 = .ok (.aload_n 0, 1) := by decide +kernel
theorem d_Reply_plan_55 : decode b_Reply_plan 55 = .ok (.dup, 1) := by decide +kernel
theorem d_Reply_plan_56 : decode b_Reply_plan 56 = .ok (.getfield 44, 3) := by decide +kernel
theorem d_Reply_plan_59 : decode b_Reply_plan 59 = .ok (.iconst 1, 1) := by decide +kernel
theorem d_Reply_plan_60 : decode b_Reply_plan 60 = .ok (.iadd, 1) := by decide +kernel
theorem d_Reply_plan_61 : decode b_Reply_plan 61 = .ok (.putfield 44, 3) := by decide +kernel
theorem d_Reply_plan_64 : decode b_Reply_plan 64 = .ok (.aload_n 0, 1) := by decide +kernel
theorem d_Reply_plan_65 : decode b_Reply_plan 65 = .ok (.dup, 1) := by decide +kernel
theorem d_Reply_plan_66 : decode b_Reply_plan 66 = .ok (.getfield 47, 3) := by decide +kernel
theorem d_Reply_plan_69 : decode b_Reply_plan 69 = .ok (.iload_n 1, 1) := by decide +kernel
theorem d_Reply_plan_70 : decode b_Reply_plan 70 = .ok (.iload_n 3, 1) := by decide +kernel
theorem d_Reply_plan_71 : decode b_Reply_plan 71 = .ok (.iadd, 1) := by decide +kernel
theorem d_Reply_plan_72 : decode b_Reply_plan 72 = .ok (.iload_n 2, 1) := by decide +kernel
theorem d_Reply_plan_73 : decode b_Reply_plan 73 = .ok (.isub, 1) := by decide +kernel
theorem d_Reply_plan_74 : decode b_Reply_plan 74 = .ok (.iconst 1, 1) := by decide +kernel
theorem d_Reply_plan_75 : decode b_Reply_plan 75 = .ok (.iadd, 1) := by decide +kernel
theorem d_Reply_plan_76 : decode b_Reply_plan 76 = .ok (.iadd, 1) := by decide +kernel
theorem d_Reply_plan_77 : decode b_Reply_plan 77 = .ok (.putfield 47, 3) := by decide +kernel
theorem d_Reply_plan_80 : decode b_Reply_plan 80 = .ok (.aload_n 0, 1) := by decide +kernel
theorem d_Reply_plan_81 : decode b_Reply_plan 81 = .ok (.getfield 27, 3) := by decide +kernel
theorem d_Reply_plan_84 : decode b_Reply_plan 84 = .ok (.iload_n 3, 1) := by decide +kernel
theorem d_Reply_plan_85 : decode b_Reply_plan 85 = .ok (.iconst 1, 1) := by decide +kernel
theorem d_Reply_plan_86 : decode b_Reply_plan 86 = .ok (.iadd, 1) := by decide +kernel
theorem d_Reply_plan_87 : decode b_Reply_plan 87 = .ok (.iconst 1, 1) := by decide +kernel
theorem d_Reply_plan_88 : decode b_Reply_plan 88 = .ok (.invokevirtual 78, 3) := by decide +kernel
theorem d_Reply_plan_91 : decode b_Reply_plan 91 = .ok (.istore_n 2, 1) := by decide +kernel
theorem d_Reply_plan_92 : decode b_Reply_plan 92 = .ok (.goto (-82), 3) := by decide +kernel
theorem d_Reply_plan_95 : decode b_Reply_plan 95 = .ok (.return_, 1) := by decide +kernel
theorem d_Reply_lastOfFetch_0 : decode b_Reply_lastOfFetch 0 = .ok (.iload_n 1, 1) := by decide +kernel
theorem d_Reply_lastOfFetch_1 : decode b_Reply_lastOfFetch 1 = .ok (.istore_n 3, 1) := by decide +kernel
theorem d_Reply_lastOfFetch_2 : decode b_Reply_lastOfFetch 2 = .ok (.iconst 0, 1) := by decide +kernel
theorem d_Reply_lastOfFetch_3 : decode b_Reply_lastOfFetch 3 = .ok (.istore 4, 2) := by decide +kernel
theorem d_Reply_lastOfFetch_5 : decode b_Reply_lastOfFetch 5 = .ok (.iload 4, 2) := by decide +kernel
theorem d_Reply_lastOfFetch_7 : decode b_Reply_lastOfFetch 7 = .ok (.sipush 4096, 3) := by decide +kernel
theorem d_Reply_lastOfFetch_10 : decode b_Reply_lastOfFetch 10 = .ok (.if_icmp .ge 55, 3) := by decide +kernel
theorem d_Reply_lastOfFetch_13 : decode b_Reply_lastOfFetch 13 = .ok (.aload_n 0, 1) := by decide +kernel
theorem d_Reply_lastOfFetch_14 : decode b_Reply_lastOfFetch 14 = .ok (.getfield 27, 3) := by decide +kernel
theorem d_Reply_lastOfFetch_17 : decode b_Reply_lastOfFetch 17 = .ok (.iload_n 3, 1) := by decide +kernel
theorem d_Reply_lastOfFetch_18 : decode b_Reply_lastOfFetch 18 = .ok (.iconst 1, 1) := by decide +kernel
theorem d_Reply_lastOfFetch_19 : decode b_Reply_lastOfFetch 19 = .ok (.iadd, 1) := by decide +kernel
theorem d_Reply_lastOfFetch_20 : decode b_Reply_lastOfFetch 20 = .ok (.iconst 1, 1) := by decide +kernel
theorem d_Reply_lastOfFetch_21 : decode b_Reply_lastOfFetch 21 = .ok (.invokevirtual 78, 3) := by decide +kernel
theorem d_Reply_lastOfFetch_24 : decode b_Reply_lastOfFetch 24 = .ok (.istore 5, 2) := by decide +kernel
theorem d_Reply_lastOfFetch_26 : decode b_Reply_lastOfFetch 26 = .ok (.iload 5, 2) := by decide +kernel
theorem d_Reply_lastOfFetch_28 : decode b_Reply_lastOfFetch 28 = .ok (.sipush 4096, 3) := by decide +kernel
theorem d_Reply_lastOfFetch_31 : decode b_Reply_lastOfFetch 31 = .ok (.if_icmp .eq 13, 3) := by decide +kernel
theorem d_Reply_lastOfFetch_34 : decode b_Reply_lastOfFetch 34 = .ok (.iload 5, 2) := by decide +kernel
theorem d_Reply_lastOfFetch_36 : decode b_Reply_lastOfFetch 36 = .ok (.iload_n 3, 1) := by decide +kernel
theorem d_Reply_lastOfFetch_37 : decode b_Reply_lastOfFetch 37 = .ok (.isub, 1) := by decide +kernel
theorem d_Reply_lastOfFetch_38 : decode b_Reply_lastOfFetch 38 = .ok (.iconst 1, 1) := by decide +kernel
theorem d_Reply_lastOfFetch_39 : decode b_Reply_lastOfFetch 39 = .ok (.isub, 1) := by decide +kernel
theorem d_Reply_lastOfFetch_40 : decode b_Reply_lastOfFetch 40 = .ok (.iload_n 2, 1) := by decide +kernel
theorem d_Reply_lastOfFetch_41 : decode b_Reply_lastOfFetch 41 = .ok (.if_icmp .le 5, 3) := by decide +kernel
theorem d_Reply_lastOfFetch_44 : decode b_Reply_lastOfFetch 44 = .ok (.iload_n 3, 1) := by decide +kernel
theorem d_Reply_lastOfFetch_45 : decode b_Reply_lastOfFetch 45 = .ok (.ireturn, 1) := by decide +kernel
theorem d_Reply_lastOfFetch_46 : decode b_Reply_lastOfFetch 46 = .ok (.aload_n 0, 1) := by decide +kernel
theorem d_Reply_lastOfFetch_47 : decode b_Reply_lastOfFetch 47 = .ok (.getfield 27, 3) := by decide +kernel
theorem d_Reply_lastOfFetch_50 : decode b_Reply_lastOfFetch 50 = .ok (.iload 5, 2) := by decide +kernel
theorem d_Reply_lastOfFetch_52 : decode b_Reply_lastOfFetch 52 = .ok (.iconst 0, 1) := by decide +kernel
theorem d_Reply_lastOfFetch_53 : decode b_Reply_lastOfFetch 53 = .ok (.invokevirtual 78, 3) := by decide +kernel
theorem d_Reply_lastOfFetch_56 : decode b_Reply_lastOfFetch 56 = .ok (.iconst 1, 1) := by decide +kernel
theorem d_Reply_lastOfFetch_57 : decode b_Reply_lastOfFetch 57 = .ok (.isub, 1) := by decide +kernel
theorem d_Reply_lastOfFetch_58 : decode b_Reply_lastOfFetch 58 = .ok (.istore_n 3, 1) := by decide +kernel
theorem d_Reply_lastOfFetch_59 : decode b_Reply_lastOfFetch 59 = .ok (.iinc 4 1, 3) := by decide +kernel
theorem d_Reply_lastOfFetch_62 : decode b_Reply_lastOfFetch 62 = .ok (.goto (-57), 3) := by decide +kernel
theorem d_Reply_lastOfFetch_65 : decode b_Reply_lastOfFetch 65 = .ok (.iload_n 3, 1) := by decide +kernel
theorem d_Reply_lastOfFetch_66 : decode b_Reply_lastOfFetch 66 = .ok (.ireturn, 1) := by decide +kernel
