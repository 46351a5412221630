theorem d_Places_init_0 : decode b_Places_init 0 = .ok (.aload_n 0, 1) := by decide +kernel
theorem d_Places_init_1 : decode b_Places_init 1 = .ok (.invokespecial 1, 3) := by decide +kernel
theorem d_Places_init_4 : decode b_Places_init 4 = .ok (.aload_n 0, 1) := by decide +kernel
theorem d_Places_init_5 : decode b_Places_init 5 = .ok (.bipush 64, 2) := by decide +kernel
theorem d_Places_init_7 : decode b_Places_init 7 = .ok (.newarray .long, 2) := by decide +kernel
theorem d_Places_init_9 : decode b_Places_init 9 = .ok (.putfield 9, 3) := by decide +kernel
theorem d_Places_init_12 : decode b_Places_init 12 = .ok (.return_, 1) := by decide +kernel
theorem d_Places_clear_0 : decode b_Places_clear 0 = .ok (.iconst 0, 1) := by decide +kernel
theorem d_Places_clear_1 : decode b_Places_clear 1 = .ok (.istore_n 1, 1) := by decide +kernel
theorem d_Places_clear_2 : decode b_Places_clear 2 = .ok (.iload_n 1, 1) := by decide +kernel
theorem d_Places_clear_3 : decode b_Places_clear 3 = .ok (.bipush 64, 2) := by decide +kernel
theorem d_Places_clear_5 : decode b_Places_clear 5 = .ok (.if_icmp .ge 16, 3) := by decide +kernel
theorem d_Places_clear_8 : decode b_Places_clear 8 = .ok (.aload_n 0, 1) := by decide +kernel
theorem d_Places_clear_9 : decode b_Places_clear 9 = .ok (.getfield 9, 3) := by decide +kernel
theorem d_Places_clear_12 : decode b_Places_clear 12 = .ok (.iload_n 1, 1) := by decide +kernel
theorem d_Places_clear_13 : decode b_Places_clear 13 = .ok (.lconst 0, 1) := by decide +kernel
theorem d_Places_clear_14 : decode b_Places_clear 14 = .ok (.lastore, 1) := by decide +kernel
theorem d_Places_clear_15 : decode b_Places_clear 15 = .ok (.iinc 1 1, 3) := by decide +kernel
theorem d_Places_clear_18 : decode b_Places_clear 18 = .ok (.goto (-16), 3) := by decide +kernel
theorem d_Places_clear_21 : decode b_Places_clear 21 = .ok (.return_, 1) := by decide +kernel
theorem d_Places_has_0 : decode b_Places_has 0 = .ok (.iload_n 1, 1) := by decide +kernel
theorem d_Places_has_1 : decode b_Places_has 1 = .ok (.ifCond .lt 35, 3) := by decide +kernel
theorem d_Places_has_4 : decode b_Places_has 4 = .ok (.iload_n 1, 1) := by decide +kernel
theorem d_Places_has_5 : decode b_Places_has 5 = .ok (.sipush 4096, 3) := by decide +kernel
theorem d_Places_has_8 : decode b_Places_has 8 = .ok (.if_icmp .ge 28, 3) := by decide +kernel
theorem d_Places_has_11 : decode b_Places_has 11 = .ok (.aload_n 0, 1) := by decide +kernel
theorem d_Places_has_12 : decode b_Places_has 12 = .ok (.getfield 9, 3) := by decide +kernel
theorem d_Places_has_15 : decode b_Places_has 15 = .ok (.iload_n 1, 1) := by decide +kernel
theorem d_Places_has_16 : decode b_Places_has 16 = .ok (.bipush 6, 2) := by decide +kernel
theorem d_Places_has_18 : decode b_Places_has 18 = .ok (.ishr, 1) := by decide +kernel
theorem d_Places_has_19 : decode b_Places_has 19 = .ok (.laload, 1) := by decide +kernel
theorem d_Places_has_20 : decode b_Places_has 20 = .ok (.iload_n 1, 1) := by decide +kernel
theorem d_Places_has_21 : decode b_Places_has 21 = .ok (.bipush 63, 2) := by decide +kernel
theorem d_Places_has_23 : decode b_Places_has 23 = .ok (.iand, 1) := by decide +kernel
theorem d_Places_has_24 : decode b_Places_has 24 = .ok (.lushr, 1) := by decide +kernel
theorem d_Places_has_25 : decode b_Places_has 25 = .ok (.lconst 1, 1) := by decide +kernel
theorem d_Places_has_26 : decode b_Places_has 26 = .ok (.land, 1) := by decide +kernel
theorem d_Places_has_27 : decode b_Places_has 27 = .ok (.lconst 0, 1) := by decide +kernel
theorem d_Places_has_28 : decode b_Places_has 28 = .ok (.lcmp, 1) := by decide +kernel
theorem d_Places_has_29 : decode b_Places_has 29 = .ok (.ifCond .eq 7, 3) := by decide +kernel
theorem d_Places_has_32 : decode b_Places_has 32 = .ok (.iconst 1, 1) := by decide +kernel
theorem d_Places_has_33 : decode b_Places_has 33 = .ok (.goto 4, 3) := by decide +kernel
theorem d_Places_has_36 : decode b_Places_has 36 = .ok (.iconst 0, 1) := by decide +kernel
theorem d_Places_has_37 : decode b_Places_has 37 = .ok (.ireturn, 1) := by decide +kernel
theorem d_Places_add_0 : decode b_Places_add 0 = .ok (.iload_n 1, 1) := by decide +kernel
theorem d_Places_add_1 : decode b_Places_add 1 = .ok (.ifCond .lt 10, 3) := by decide +kernel
theorem d_Places_add_4 : decode b_Places_add 4 = .ok (.iload_n 2, 1) := by decide +kernel
theorem d_Places_add_5 : decode b_Places_add 5 = .ok (.sipush 4096, 3) := by decide +kernel
theorem d_Places_add_8 : decode b_Places_add 8 = .ok (.if_icmp .lt 5, 3) := by decide +kernel
theorem d_Places_add_11 : decode b_Places_add 11 = .ok (.iconst 0, 1) := by decide +kernel
theorem d_Places_add_12 : decode b_Places_add 12 = .ok (.ireturn, 1) := by decide +kernel
theorem d_Places_add_13 : decode b_Places_add 13 = .ok (.iconst 0, 1) := by decide +kernel
theorem d_Places_add_14 : decode b_Places_add 14 = .ok (.istore_n 3, 1) := by decide +kernel
theorem d_Places_add_15 : decode b_Places_add 15 = .ok (.iload_n 1, 1) := by decide +kernel
theorem d_Places_add_16 : decode b_Places_add 16 = .ok (.bipush 6, 2) := by decide +kernel
theorem d_Places_add_18 : decode b_Places_add 18 = .ok (.ishr, 1) := by decide +kernel
theorem d_Places_add_19 : decode b_Places_add 19 = .ok (.istore 4, 2) := by decide +kernel
theorem d_Places_add_21 : decode b_Places_add 21 = .ok (.iload 4, 2) := by decide +kernel
theorem d_Places_add_23 : decode b_Places_add 23 = .ok (.iload_n 2, 1) := by decide +kernel
theorem d_Places_add_24 : decode b_Places_add 24 = .ok (.bipush 6, 2) := by decide +kernel
theorem d_Places_add_26 : decode b_Places_add 26 = .ok (.ishr, 1) := by decide +kernel
theorem d_Places_add_27 : decode b_Places_add 27 = .ok (.if_icmp .gt 86, 3) := by decide +kernel
theorem d_Places_add_30 : decode b_Places_add 30 = .ok (.iload_n 1, 1) := by decide +kernel
theorem d_Places_add_31 : decode b_Places_add 31 = .ok (.iload 4, 2) := by decide +kernel
theorem d_Places_add_33 : decode b_Places_add 33 = .ok (.bipush 6, 2) := by decide +kernel
theorem d_Places_add_35 : decode b_Places_add 35 = .ok (.ishl, 1) := by decide +kernel
theorem d_Places_add_36 : decode b_Places_add 36 = .ok (.isub, 1) := by decide +kernel
theorem d_Places_add_37 : decode b_Places_add 37 = .ok (.iconst 0, 1) := by decide +kernel
theorem d_Places_add_38 : decode b_Places_add 38 = .ok (.invokestatic 13, 3) := by decide +kernel
theorem d_Places_add_41 : decode b_Places_add 41 = .ok (.istore 5, 2) := by decide +kernel
theorem d_Places_add_43 : decode b_Places_add 43 = .ok (.iload_n 2, 1) := by decide +kernel
theorem d_Places_add_44 : decode b_Places_add 44 = .ok (.iload 4, 2) := by decide +kernel
theorem d_Places_add_46 : decode b_Places_add 46 = .ok (.bipush 6, 2) := by decide +kernel
theorem d_Places_add_48 : decode b_Places_add 48 = .ok (.ishl, 1) := by decide +kernel
theorem d_Places_add_49 : decode b_Places_add 49 = .ok (.isub, 1) := by decide +kernel
theorem d_Places_add_50 : decode b_Places_add 50 = .ok (.bipush 63, 2) := by decide +kernel
theorem d_Places_add_52 : decode b_Places_add 52 = .ok (.invokestatic 19, 3) := by decide +kernel
theorem d_Places_add_55 : decode b_Places_add 55 = .ok (.istore 6, 2) := by decide +kernel
theorem d_Places_add_57 : decode b_Places_add 57 = .ok (.ldc2_w 22, 3) := by decide +kernel
theorem d_Places_add_60 : decode b_Places_add 60 = .ok (.iload 5, 2) := by decide +kernel
theorem d_Places_add_62 : decode b_Places_add 62 = .ok (.lshl, 1) := by decide +kernel
theorem d_Places_add_63 : decode b_Places_add 63 = .ok (.ldc2_w 22, 3) := by decide +kernel
theorem d_Places_add_66 : decode b_Places_add 66 = .ok (.bipush 63, 2) := by decide +kernel
theorem d_Places_add_68 : decode b_Places_add 68 = .ok (.iload 6, 2) := by decide +kernel
theorem d_Places_add_70 : decode b_Places_add 70 = .ok (.isub, 1) := by decide +kernel
theorem d_Places_add_71 : decode b_Places_add 71 = .ok (.lushr, 1) := by decide +kernel
theorem d_Places_add_72 : decode b_Places_add 72 = .ok (.land, 1) := by decide +kernel
theorem d_Places_add_73 : decode b_Places_add 73 = .ok (.lstore 7, 2) := by decide +kernel
theorem d_Places_add_75 : decode b_Places_add 75 = .ok (.iload_n 3, 1) := by decide +kernel
theorem d_Places_add_76 : decode b_Places_add 76 = .ok (.lload 7, 2) := by decide +kernel
theorem d_Places_add_78 : decode b_Places_add 78 = .ok (.aload_n 0, 1) := by decide +kernel
theorem d_Places_add_79 : decode b_Places_add 79 = .ok (.getfield 9, 3) := by decide +kernel
theorem d_Places_add_82 : decode b_Places_add 82 = .ok (.iload 4, 2) := by decide +kernel
theorem d_Places_add_84 : decode b_Places_add 84 = .ok (.laload, 1) := by decide +kernel
theorem d_Places_add_85 : decode b_Places_add 85 = .ok (.ldc2_w 22, 3) := by decide +kernel
theorem d_Places_add_88 : decode b_Places_add 88 = .ok (.lxor, 1) := by decide +kernel
theorem d_Places_add_89 : decode b_Places_add 89 = .ok (.land, 1) := by decide +kernel
theorem d_Places_add_90 : decode b_Places_add 90 = .ok (.invokestatic 24, 3) := by decide +kernel
theorem d_Places_add_93 : decode b_Places_add 93 = .ok (.iadd, 1) := by decide +kernel
theorem d_Places_add_94 : decode b_Places_add 94 = .ok (.istore_n 3, 1) := by decide +kernel
theorem d_Places_add_95 : decode b_Places_add 95 = .ok (.aload_n 0, 1) := by decide +kernel
theorem d_Places_add_96 : decode b_Places_add 96 = .ok (.getfield 9, 3) := by decide +kernel
theorem d_Places_add_99 : decode b_Places_add 99 = .ok (.iload 4, 2) := by decide +kernel
theorem d_Places_add_101 : decode b_Places_add 101 = .ok (.dup2, 1) := by decide +kernel
theorem d_Places_add_102 : decode b_Places_add 102 = .ok (.laload, 1) := by decide +kernel
theorem d_Places_add_103 : decode b_Places_add 103 = .ok (.lload 7, 2) := by decide +kernel
theorem d_Places_add_105 : decode b_Places_add 105 = .ok (.lor, 1) := by decide +kernel
theorem d_Places_add_106 : decode b_Places_add 106 = .ok (.lastore, 1) := by decide +kernel
theorem d_Places_add_107 : decode b_Places_add 107 = .ok (.iinc 4 1, 3) := by decide +kernel
theorem d_Places_add_110 : decode b_Places_add 110 = .ok (.goto (-89), 3) := by decide +kernel
theorem d_Places_add_113 : decode b_Places_add 113 = .ok (.iload_n 3, 1) := by decide +kernel
theorem d_Places_add_114 : decode b_Places_add 114 = .ok (.ireturn, 1) := by decide +kernel
theorem d_Places_removeAll_0 : decode b_Places_removeAll 0 = .ok (.iconst 0, 1) := by decide +kernel
theorem d_Places_removeAll_1 : decode b_Places_removeAll 1 = .ok (.istore_n 2, 1) := by decide +kernel
theorem d_Places_removeAll_2 : decode b_Places_removeAll 2 = .ok (.iload_n 2, 1) := by decide +kernel
theorem d_Places_removeAll_3 : decode b_Places_removeAll 3 = .ok (.bipush 64, 2) := by decide +kernel
theorem d_Places_removeAll_5 : decode b_Places_removeAll 5 = .ok (.if_icmp .ge 28, 3) := by decide +kernel
theorem d_Places_removeAll_8 : decode b_Places_removeAll 8 = .ok (.aload_n 0, 1) := by decide +kernel
theorem d_Places_removeAll_9 : decode b_Places_removeAll 9 = .ok (.getfield 9, 3) := by decide +kernel
theorem d_Places_removeAll_12 : decode b_Places_removeAll 12 = .ok (.iload_n 2, 1) := by decide +kernel
theorem d_Places_removeAll_13 : decode b_Places_removeAll 13 = .ok (.dup2, 1) := by decide +kernel
theorem d_Places_removeAll_14 : decode b_Places_removeAll 14 = .ok (.laload, 1) := by decide +kernel
theorem d_Places_removeAll_15 : decode b_Places_removeAll 15 = .ok (.aload_n 1, 1) := by decide +kernel
theorem d_Places_removeAll_16 : decode b_Places_removeAll 16 = .ok (.getfield 9, 3) := by decide +kernel
theorem d_Places_removeAll_19 : decode b_Places_removeAll 19 = .ok (.iload_n 2, 1) := by decide +kernel
theorem d_Places_removeAll_20 : decode b_Places_removeAll 20 = .ok (.laload, 1) := by decide +kernel
theorem d_Places_removeAll_21 : decode b_Places_removeAll 21 = .ok (.ldc2_w 22, 3) := by decide +kernel
theorem d_Places_removeAll_24 : decode b_Places_removeAll 24 = .ok (.lxor, 1) := by decide +kernel
theorem d_Places_removeAll_25 : decode b_Places_removeAll 25 = .ok (.land, 1) := by decide +kernel
theorem d_Places_removeAll_26 : decode b_Places_removeAll 26 = .ok (.lastore, 1) := by decide +kernel
theorem d_Places_removeAll_27 : decode b_Places_removeAll 27 = .ok (.iinc 2 1, 3) := by decide +kernel
theorem d_Places_removeAll_30 : decode b_Places_removeAll 30 = .ok (.goto (-28), 3) := by decide +kernel
theorem d_Places_removeAll_33 : decode b_Places_removeAll 33 = .ok (.return_, 1) := by decide +kernel
theorem d_Places_dropLast_0 : decode b_Places_dropLast 0 = .ok (.iload_n 1, 1) := by decide +kernel
theorem d_Places_dropLast_1 : decode b_Places_dropLast 1 = .ok (.istore_n 2, 1) := by decide +kernel
theorem d_Places_dropLast_2 : decode b_Places_dropLast 2 = .ok (.bipush 63, 2) := by decide +kernel
theorem d_Places_dropLast_4 : decode b_Places_dropLast 4 = .ok (.istore_n 3, 1) := by decide +kernel
theorem d_Places_dropLast_5 : decode b_Places_dropLast 5 = .ok (.iload_n 3, 1) := by decide +kernel
theorem d_Places_dropLast_6 : decode b_Places_dropLast 6 = .ok (.ifCond .lt 75, 3) := by decide +kernel
theorem d_Places_dropLast_9 : decode b_Places_dropLast 9 = .ok (.bipush 63, 2) := by decide +kernel
theorem d_Places_dropLast_11 : decode b_Places_dropLast 11 = .ok (.istore 4, 2) := by decide +kernel
theorem d_Places_dropLast_13 : decode b_Places_dropLast 13 = .ok (.iload 4, 2) := by decide +kernel
theorem d_Places_dropLast_15 : decode b_Places_dropLast 15 = .ok (.ifCond .lt 60, 3) := by decide +kernel
theorem d_Places_dropLast_18 : decode b_Places_dropLast 18 = .ok (.iload_n 2, 1) := by decide +kernel
theorem d_Places_dropLast_19 : decode b_Places_dropLast 19 = .ok (.ifCond .le 56, 3) := by decide +kernel
theorem d_Places_dropLast_22 : decode b_Places_dropLast 22 = .ok (.aload_n 0, 1) := by decide +kernel
theorem d_Places_dropLast_23 : decode b_Places_dropLast 23 = .ok (.getfield 9, 3) := by decide +kernel
theorem d_Places_dropLast_26 : decode b_Places_dropLast 26 = .ok (.iload_n 3, 1) := by decide +kernel
theorem d_Places_dropLast_27 : decode b_Places_dropLast 27 = .ok (.laload, 1) := by decide +kernel
theorem d_Places_dropLast_28 : decode b_Places_dropLast 28 = .ok (.lconst 0, 1) := by decide +kernel
theorem d_Places_dropLast_29 : decode b_Places_dropLast 29 = .ok (.lcmp, 1) := by decide +kernel
theorem d_Places_dropLast_30 : decode b_Places_dropLast 30 = .ok (.ifCond .eq 45, 3) := by decide +kernel
theorem d_Places_dropLast_33 : decode b_Places_dropLast 33 = .ok (.aload_n 0, 1) := by decide +kernel
theorem d_Places_dropLast_34 : decode b_Places_dropLast 34 = .ok (.getfield 9, 3) := by decide +kernel
theorem d_Places_dropLast_37 : decode b_Places_dropLast 37 = .ok (.iload_n 3, 1) := by decide +kernel
theorem d_Places_dropLast_38 : decode b_Places_dropLast 38 = .ok (.laload, 1) := by decide +kernel
theorem d_Places_dropLast_39 : decode b_Places_dropLast 39 = .ok (.iload 4, 2) := by decide +kernel
theorem d_Places_dropLast_41 : decode b_Places_dropLast 41 = .ok (.lushr, 1) := by decide +kernel
theorem d_Places_dropLast_42 : decode b_Places_dropLast 42 = .ok (.lconst 1, 1) := by decide +kernel
theorem d_Places_dropLast_43 : decode b_Places_dropLast 43 = .ok (.land, 1) := by decide +kernel
theorem d_Places_dropLast_44 : decode b_Places_dropLast 44 = .ok (.lconst 0, 1) := by decide +kernel
theorem d_Places_dropLast_45 : decode b_Places_dropLast 45 = .ok (.lcmp, 1) := by decide +kernel
theorem d_Places_dropLast_46 : decode b_Places_dropLast 46 = .ok (.ifCond .eq 23, 3) := by decide +kernel
theorem d_Places_dropLast_49 : decode b_Places_dropLast 49 = .ok (.aload_n 0, 1) := by decide +kernel
theorem d_Places_dropLast_50 : decode b_Places_dropLast 50 = .ok (.getfield 9, 3) := by decide +kernel
theorem d_Places_dropLast_53 : decode b_Places_dropLast 53 = .ok (.iload_n 3, 1) := by decide +kernel
theorem d_Places_dropLast_54 : decode b_Places_dropLast 54 = .ok (.dup2, 1) := by decide +kernel
theorem d_Places_dropLast_55 : decode b_Places_dropLast 55 = .ok (.laload, 1) := by decide +kernel
theorem d_Places_dropLast_56 : decode b_Places_dropLast 56 = .ok (.lconst 1, 1) := by decide +kernel
theorem d_Places_dropLast_57 : decode b_Places_dropLast 57 = .ok (.iload 4, 2) := by decide +kernel
theorem d_Places_dropLast_59 : decode b_Places_dropLast 59 = .ok (.lshl, 1) := by decide +kernel
theorem d_Places_dropLast_60 : decode b_Places_dropLast 60 = .ok (.ldc2_w 22, 3) := by decide +kernel
theorem d_Places_dropLast_63 : decode b_Places_dropLast 63 = .ok (.lxor, 1) := by decide +kernel
theorem d_Places_dropLast_64 : decode b_Places_dropLast 64 = .ok (.land, 1) := by decide +kernel
theorem d_Places_dropLast_65 : decode b_Places_dropLast 65 = .ok (.lastore, 1) := by decide +kernel
theorem d_Places_dropLast_66 : decode b_Places_dropLast 66 = .ok (.iinc 2 (-1), 3) := by decide +kernel
theorem d_Places_dropLast_69 : decode b_Places_dropLast 69 = .ok (.iinc 4 (-1), 3) := by decide +kernel
theorem d_Places_dropLast_72 : decode b_Places_dropLast 72 = .ok (.goto (-59), 3) := by decide +kernel
theorem d_Places_dropLast_75 : decode b_Places_dropLast 75 = .ok (.iinc 3 (-1), 3) := by decide +kernel
theorem d_Places_dropLast_78 : decode b_Places_dropLast 78 = .ok (.goto (-73), 3) := by decide +kernel
theorem d_Places_dropLast_81 : decode b_Places_dropLast 81 = .ok (.iload_n 1, 1) := by decide +kernel
theorem d_Places_dropLast_82 : decode b_Places_dropLast 82 = .ok (.iload_n 2, 1) := by decide +kernel
theorem d_Places_dropLast_83 : decode b_Places_dropLast 83 = .ok (.isub, 1) := by decide +kernel
theorem d_Places_dropLast_84 : decode b_Places_dropLast 84 = .ok (.ireturn, 1) := by decide +kernel
theorem d_Places_size_0 : decode b_Places_size 0 = .ok (.iconst 0, 1) := by decide +kernel
theorem d_Places_size_1 : decode b_Places_size 1 = .ok (.istore_n 1, 1) := by decide +kernel
theorem d_Places_size_2 : decode b_Places_size 2 = .ok (.iconst 0, 1) := by decide +kernel
theorem d_Places_size_3 : decode b_Places_size 3 = .ok (.istore_n 2, 1) := by decide +kernel
theorem d_Places_size_4 : decode b_Places_size 4 = .ok (.iload_n 2, 1) := by decide +kernel
theorem d_Places_size_5 : decode b_Places_size 5 = .ok (.bipush 64, 2) := by decide +kernel
theorem d_Places_size_7 : decode b_Places_size 7 = .ok (.if_icmp .ge 21, 3) := by decide +kernel
theorem d_Places_size_10 : decode b_Places_size 10 = .ok (.iload_n 1, 1) := by decide +kernel
theorem d_Places_size_11 : decode b_Places_size 11 = .ok (.aload_n 0, 1) := by decide +kernel
theorem d_Places_size_12 : decode b_Places_size 12 = .ok (.getfield 9, 3) := by decide +kernel
theorem d_Places_size_15 : decode b_Places_size 15 = .ok (.iload_n 2, 1) := by decide +kernel
theorem d_Places_size_16 : decode b_Places_size 16 = .ok (.laload, 1) := by decide +kernel
theorem d_Places_size_17 : decode b_Places_size 17 = .ok (.invokestatic 24, 3) := by decide +kernel
theorem d_Places_size_20 : decode b_Places_size 20 = .ok (.iadd, 1) := by decide +kernel
theorem d_Places_size_21 : decode b_Places_size 21 = .ok (.istore_n 1, 1) := by decide +kernel
theorem d_Places_size_22 : decode b_Places_size 22 = .ok (.iinc 2 1, 3) := by decide +kernel
theorem d_Places_size_25 : decode b_Places_size 25 = .ok (.goto (-21), 3) := by decide +kernel
theorem d_Places_size_28 : decode b_Places_size 28 = .ok (.iload_n 1, 1) := by decide +kernel
theorem d_Places_size_29 : decode b_Places_size 29 = .ok (.ireturn, 1) := by decide +kernel
theorem d_Places_isEmpty_0 : decode b_Places_isEmpty 0 = .ok (.aload_n 0, 1) := by decide +kernel
theorem d_Places_isEmpty_1 : decode b_Places_isEmpty 1 = .ok (.iconst 0, 1) := by decide +kernel
theorem d_Places_isEmpty_2 : decode b_Places_isEmpty 2 = .ok (.iconst 1, 1) := by decide +kernel
theorem d_Places_isEmpty_3 : decode b_Places_isEmpty 3 = .ok (.invokevirtual 30, 3) := by decide +kernel
theorem d_Places_isEmpty_6 : decode b_Places_isEmpty 6 = .ok (.sipush 4096, 3) := by decide +kernel
theorem d_Places_isEmpty_9 : decode b_Places_isEmpty 9 = .ok (.if_icmp .ne 7, 3) := by decide +kernel
theorem d_Places_isEmpty_12 : decode b_Places_isEmpty 12 = .ok (.iconst 1, 1) := by decide +kernel
theorem d_Places_isEmpty_13 : decode b_Places_isEmpty 13 = .ok (.goto 4, 3) := by decide +kernel
theorem d_Places_isEmpty_16 : decode b_Places_isEmpty 16 = .ok (.iconst 0, 1) := by decide +kernel
theorem d_Places_isEmpty_17 : decode b_Places_isEmpty 17 = .ok (.ireturn, 1) := by decide +kernel
theorem d_Places_spans_0 : decode b_Places_spans 0 = .ok (.aload_n 0, 1) := by decide +kernel
theorem d_Places_spans_1 : decode b_Places_spans 1 = .ok (.iconst 0, 1) := by decide +kernel
theorem d_Places_spans_2 : decode b_Places_spans 2 = .ok (.iconst 1, 1) := by decide +kernel
theorem d_Places_spans_3 : decode b_Places_spans 3 = .ok (.invokevirtual 30, 3) := by decide +kernel
theorem d_Places_spans_6 : decode b_Places_spans 6 = .ok (.istore_n 1, 1) := by decide +kernel
theorem d_Places_spans_7 : decode b_Places_spans 7 = .ok (.iconst 0, 1) := by decide +kernel
theorem d_Places_spans_8 : decode b_Places_spans 8 = .ok (.istore_n 2, 1) := by decide +kernel
theorem d_Places_spans_9 : decode b_Places_spans 9 = .ok (.iload_n 2, 1) := by decide +kernel
theorem d_Places_spans_10 : decode b_Places_spans 10 = .ok (.sipush 4096, 3) := by decide +kernel
theorem d_Places_spans_13 : decode b_Places_spans 13 = .ok (.if_icmp .ge 28, 3) := by decide +kernel
theorem d_Places_spans_16 : decode b_Places_spans 16 = .ok (.iload_n 1, 1) := by decide +kernel
theorem d_Places_spans_17 : decode b_Places_spans 17 = .ok (.sipush 4096, 3) := by decide +kernel
theorem d_Places_spans_20 : decode b_Places_spans 20 = .ok (.if_icmp .ge 21, 3) := by decide +kernel
theorem d_Places_spans_23 : decode b_Places_spans 23 = .ok (.aload_n 0, 1) := by decide +kernel
theorem d_Places_spans_24 : decode b_Places_spans 24 = .ok (.aload_n 0, 1) := by decide +kernel
theorem d_Places_spans_25 : decode b_Places_spans 25 = .ok (.iload_n 1, 1) := by decide +kernel
theorem d_Places_spans_26 : decode b_Places_spans 26 = .ok (.iconst 0, 1) := by decide +kernel
theorem d_Places_spans_27 : decode b_Places_spans 27 = .ok (.invokevirtual 30, 3) := by decide +kernel
theorem d_Places_spans_30 : decode b_Places_spans 30 = .ok (.iconst 1, 1) := by decide +kernel
theorem d_Places_spans_31 : decode b_Places_spans 31 = .ok (.invokevirtual 30, 3) := by decide +kernel
theorem d_Places_spans_34 : decode b_Places_spans 34 = .ok (.istore_n 1, 1) := by decide +kernel
theorem d_Places_spans_35 : decode b_Places_spans 35 = .ok (.iinc 2 1, 3) := by decide +kernel
theorem d_Places_spans_38 : decode b_Places_spans 38 = .ok (.goto (-29), 3) := by decide +kernel
theorem d_Places_spans_41 : decode b_Places_spans 41 = .ok (.iload_n 2, 1) := by decide +kernel
theorem d_Places_spans_42 : decode b_Places_spans 42 = .ok (.ireturn, 1) := by decide +kernel
theorem d_Places_next_0 : decode b_Places_next 0 = .ok (.iload_n 1, 1) := by decide +kernel
theorem d_Places_next_1 : decode b_Places_next 1 = .ok (.ifCond .ge 7, 3) := by decide +kernel
theorem d_Places_next_4 : decode b_Places_next 4 = .ok (.sipush 4096, 3) := by decide +kernel
theorem d_Places_next_7 : decode b_Places_next 7 = .ok (.ireturn, 1) := by decide +kernel
theorem d_Places_next_8 : decode b_Places_next 8 = .ok (.ldc2_w 22, 3) := by decide +kernel
theorem d_Places_next_11 : decode b_Places_next 11 = .ok (.iload_n 1, 1) := by decide +kernel
theorem d_Places_next_12 : decode b_Places_next 12 = .ok (.bipush 63, 2) := by decide +kernel
theorem d_Places_next_14 : decode b_Places_next 14 = .ok (.iand, 1) := by decide +kernel
theorem d_Places_next_15 : decode b_Places_next 15 = .ok (.lshl, 1) := by decide +kernel
theorem d_Places_next_16 : decode b_Places_next 16 = .ok (.lstore_n 3, 1) := by decide +kernel
theorem d_Places_next_17 : decode b_Places_next 17 = .ok (.iload_n 1, 1) := by decide +kernel
theorem d_Places_next_18 : decode b_Places_next 18 = .ok (.bipush 6, 2) := by decide +kernel
theorem d_Places_next_20 : decode b_Places_next 20 = .ok (.ishr, 1) := by decide +kernel
theorem d_Places_next_21 : decode b_Places_next 21 = .ok (.istore 5, 2) := by decide +kernel
theorem d_Places_next_23 : decode b_Places_next 23 = .ok (.iload 5, 2) := by decide +kernel
theorem d_Places_next_25 : decode b_Places_next 25 = .ok (.bipush 64, 2) := by decide +kernel
theorem d_Places_next_27 : decode b_Places_next 27 = .ok (.if_icmp .ge 61, 3) := by decide +kernel
theorem d_Places_next_30 : decode b_Places_next 30 = .ok (.iload_n 2, 1) := by decide +kernel
theorem d_Places_next_31 : decode b_Places_next 31 = .ok (.ifCond .eq 13, 3) := by decide +kernel
theorem d_Places_next_34 : decode b_Places_next 34 = .ok (.aload_n 0, 1) := by decide +kernel
theorem d_Places_next_35 : decode b_Places_next 35 = .ok (.getfield 9, 3) := by decide +kernel
theorem d_Places_next_38 : decode b_Places_next 38 = .ok (.iload 5, 2) := by decide +kernel
theorem d_Places_next_40 : decode b_Places_next 40 = .ok (.laload, 1) := by decide +kernel
theorem d_Places_next_41 : decode b_Places_next 41 = .ok (.goto 14, 3) := by decide +kernel
theorem d_Places_next_44 : decode b_Places_next 44 = .ok (.aload_n 0, 1) := by decide +kernel
theorem d_Places_next_45 : decode b_Places_next 45 = .ok (.getfield 9, 3) := by decide +kernel
theorem d_Places_next_48 : decode b_Places_next 48 = .ok (.iload 5, 2) := by decide +kernel
theorem d_Places_next_50 : decode b_Places_next 50 = .ok (.laload, 1) := by decide +kernel
theorem d_Places_next_51 : decode b_Places_next 51 = .ok (.ldc2_w 22, 3) := by decide +kernel
theorem d_Places_next_54 : decode b_Places_next 54 = .ok (.lxor, 1) := by decide +kernel
theorem d_Places_next_55 : decode b_Places_next 55 = .ok (.lload_n 3, 1) := by decide +kernel
theorem d_Places_next_56 : decode b_Places_next 56 = .ok (.land, 1) := by decide +kernel
theorem d_Places_next_57 : decode b_Places_next 57 = .ok (.lstore 6, 2) := by decide +kernel
theorem d_Places_next_59 : decode b_Places_next 59 = .ok (.lload 6, 2) := by decide +kernel
theorem d_Places_next_61 : decode b_Places_next 61 = .ok (.lconst 0, 1) := by decide +kernel
theorem d_Places_next_62 : decode b_Places_next 62 = .ok (.lcmp, 1) := by decide +kernel
theorem d_Places_next_63 : decode b_Places_next 63 = .ok (.ifCond .eq 15, 3) := by decide +kernel
theorem d_Places_next_66 : decode b_Places_next 66 = .ok (.iload 5, 2) := by decide +kernel
theorem d_Places_next_68 : decode b_Places_next 68 = .ok (.bipush 6, 2) := by decide +kernel
theorem d_Places_next_70 : decode b_Places_next 70 = .ok (.ishl, 1) := by decide +kernel
theorem d_Places_next_71 : decode b_Places_next 71 = .ok (.lload 6, 2) := by decide +kernel
theorem d_Places_next_73 : decode b_Places_next 73 = .ok (.invokestatic 34, 3) := by decide +kernel
theorem d_Places_next_76 : decode b_Places_next 76 = .ok (.iadd, 1) := by decide +kernel
theorem d_Places_next_77 : decode b_Places_next 77 = .ok (.ireturn, 1) := by decide +kernel
theorem d_Places_next_78 : decode b_Places_next 78 = .ok (.ldc2_w 22, 3) := by decide +kernel
theorem d_Places_next_81 : decode b_Places_next 81 = .ok (.lstore_n 3, 1) := by decide +kernel
theorem d_Places_next_82 : decode b_Places_next 82 = .ok (.iinc 5 1, 3) := by decide +kernel
theorem d_Places_next_85 : decode b_Places_next 85 = .ok (.goto (-62), 3) := by decide +kernel
theorem d_Places_next_88 : decode b_Places_next 88 = .ok (.sipush 4096, 3) := by decide +kernel
theorem d_Places_next_91 : decode b_Places_next 91 = .ok (.ireturn, 1) := by decide +kernel
theorem d_Places_nth_0 : decode b_Places_nth 0 = .ok (.iload_n 1, 1) := by decide +kernel
theorem d_Places_nth_1 : decode b_Places_nth 1 = .ok (.istore_n 2, 1) := by decide +kernel
theorem d_Places_nth_2 : decode b_Places_nth 2 = .ok (.iconst 0, 1) := by decide +kernel
theorem d_Places_nth_3 : decode b_Places_nth 3 = .ok (.istore_n 3, 1) := by decide +kernel
theorem d_Places_nth_4 : decode b_Places_nth 4 = .ok (.iload_n 3, 1) := by decide +kernel
theorem d_Places_nth_5 : decode b_Places_nth 5 = .ok (.bipush 64, 2) := by decide +kernel
theorem d_Places_nth_7 : decode b_Places_nth 7 = .ok (.if_icmp .ge 70, 3) := by decide +kernel
theorem d_Places_nth_10 : decode b_Places_nth 10 = .ok (.aload_n 0, 1) := by decide +kernel
theorem d_Places_nth_11 : decode b_Places_nth 11 = .ok (.getfield 9, 3) := by decide +kernel
theorem d_Places_nth_14 : decode b_Places_nth 14 = .ok (.iload_n 3, 1) := by decide +kernel
theorem d_Places_nth_15 : decode b_Places_nth 15 = .ok (.laload, 1) := by decide +kernel
theorem d_Places_nth_16 : decode b_Places_nth 16 = .ok (.lstore 4, 2) := by decide +kernel
theorem d_Places_nth_18 : decode b_Places_nth 18 = .ok (.lload 4, 2) := by decide +kernel
theorem d_Places_nth_20 : decode b_Places_nth 20 = .ok (.invokestatic 24, 3) := by decide +kernel
theorem d_Places_nth_23 : decode b_Places_nth 23 = .ok (.istore 6, 2) := by decide +kernel
theorem d_Places_nth_25 : decode b_Places_nth 25 = .ok (.iload_n 2, 1) := by decide +kernel
theorem d_Places_nth_26 : decode b_Places_nth 26 = .ok (.iload 6, 2) := by decide +kernel
theorem d_Places_nth_28 : decode b_Places_nth 28 = .ok (.if_icmp .ge 38, 3) := by decide +kernel
theorem d_Places_nth_31 : decode b_Places_nth 31 = .ok (.iconst 0, 1) := by decide +kernel
theorem d_Places_nth_32 : decode b_Places_nth 32 = .ok (.istore 7, 2) := by decide +kernel
theorem d_Places_nth_34 : decode b_Places_nth 34 = .ok (.iload 7, 2) := by decide +kernel
theorem d_Places_nth_36 : decode b_Places_nth 36 = .ok (.iload_n 2, 1) := by decide +kernel
theorem d_Places_nth_37 : decode b_Places_nth 37 = .ok (.if_icmp .ge 18, 3) := by decide +kernel
theorem d_Places_nth_40 : decode b_Places_nth 40 = .ok (.lload 4, 2) := by decide +kernel
theorem d_Places_nth_42 : decode b_Places_nth 42 = .ok (.lload 4, 2) := by decide +kernel
theorem d_Places_nth_44 : decode b_Places_nth 44 = .ok (.lconst 1, 1) := by decide +kernel
theorem d_Places_nth_45 : decode b_Places_nth 45 = .ok (.lsub, 1) := by decide +kernel
theorem d_Places_nth_46 : decode b_Places_nth 46 = .ok (.land, 1) := by decide +kernel
theorem d_Places_nth_47 : decode b_Places_nth 47 = .ok (.lstore 4, 2) := by decide +kernel
theorem d_Places_nth_49 : decode b_Places_nth 49 = .ok (.iinc 7 1, 3) := by decide +kernel
theorem d_Places_nth_52 : decode b_Places_nth 52 = .ok (.goto (-18), 3) := by decide +kernel
theorem d_Places_nth_55 : decode b_Places_nth 55 = .ok (.iload_n 3, 1) := by decide +kernel
theorem d_Places_nth_56 : decode b_Places_nth 56 = .ok (.bipush 6, 2) := by decide +kernel
theorem d_Places_nth_58 : decode b_Places_nth 58 = .ok (.ishl, 1) := by decide +kernel
theorem d_Places_nth_59 : decode b_Places_nth 59 = .ok (.lload 4, 2) := by decide +kernel
theorem d_Places_nth_61 : decode b_Places_nth 61 = .ok (.invokestatic 34, 3) := by decide +kernel
theorem d_Places_nth_64 : decode b_Places_nth 64 = .ok (.iadd, 1) := by decide +kernel
theorem d_Places_nth_65 : decode b_Places_nth 65 = .ok (.ireturn, 1) := by decide +kernel
theorem d_Places_nth_66 : decode b_Places_nth 66 = .ok (.iload_n 2, 1) := by decide +kernel
theorem d_Places_nth_67 : decode b_Places_nth 67 = .ok (.iload 6, 2) := by decide +kernel
theorem d_Places_nth_69 : decode b_Places_nth 69 = .ok (.isub, 1) := by decide +kernel
theorem d_Places_nth_70 : decode b_Places_nth 70 = .ok (.istore_n 2, 1) := by decide +kernel
theorem d_Places_nth_71 : decode b_Places_nth 71 = .ok (.iinc 3 1, 3) := by decide +kernel
theorem d_Places_nth_74 : decode b_Places_nth 74 = .ok (.goto (-70), 3) := by decide +kernel
theorem d_Places_nth_77 : decode b_Places_nth 77 = .ok (.sipush 4096, 3) := by decide +kernel
theorem d_Places_nth_80 : decode b_Places_nth 80 = .ok (.ireturn, 1) := by decide +kernel
theorem d_Places_lowest_0 : decode b_Places_lowest 0 = .ok (.lload_n 0, 1) := by decide +kernel
theorem d_Places_lowest_1 : decode b_Places_lowest 1 = .ok (.lload_n 0, 1) := by decide +kernel
theorem d_Places_lowest_2 : decode b_Places_lowest 2 = .ok (.lneg, 1) := by decide +kernel
theorem d_Places_lowest_3 : decode b_Places_lowest 3 = .ok (.land, 1) := by decide +kernel
theorem d_Places_lowest_4 : decode b_Places_lowest 4 = .ok (.lconst 1, 1) := by decide +kernel
theorem d_Places_lowest_5 : decode b_Places_lowest 5 = .ok (.lsub, 1) := by decide +kernel
theorem d_Places_lowest_6 : decode b_Places_lowest 6 = .ok (.invokestatic 24, 3) := by decide +kernel
theorem d_Places_lowest_9 : decode b_Places_lowest 9 = .ok (.ireturn, 1) := by decide +kernel
theorem d_Long_bitCount_0 : decode b_Long_bitCount 0 = .ok (.lload_n 0, 1) := by decide +kernel
theorem d_Long_bitCount_1 : decode b_Long_bitCount 1 = .ok (.lload_n 0, 1) := by decide +kernel
theorem d_Long_bitCount_2 : decode b_Long_bitCount 2 = .ok (.iconst 1, 1) := by decide +kernel
theorem d_Long_bitCount_3 : decode b_Long_bitCount 3 = .ok (.lushr, 1) := by decide +kernel
theorem d_Long_bitCount_4 : decode b_Long_bitCount 4 = .ok (.ldc2_w 314, 3) := by decide +kernel
theorem d_Long_bitCount_7 : decode b_Long_bitCount 7 = .ok (.land, 1) := by decide +kernel
theorem d_Long_bitCount_8 : decode b_Long_bitCount 8 = .ok (.lsub, 1) := by decide +kernel
theorem d_Long_bitCount_9 : decode b_Long_bitCount 9 = .ok (.lstore_n 0, 1) := by decide +kernel
theorem d_Long_bitCount_10 : decode b_Long_bitCount 10 = .ok (.lload_n 0, 1) := by decide +kernel
theorem d_Long_bitCount_11 : decode b_Long_bitCount 11 = .ok (.ldc2_w 316, 3) := by decide +kernel
theorem d_Long_bitCount_14 : decode b_Long_bitCount 14 = .ok (.land, 1) := by decide +kernel
theorem d_Long_bitCount_15 : decode b_Long_bitCount 15 = .ok (.lload_n 0, 1) := by decide +kernel
theorem d_Long_bitCount_16 : decode b_Long_bitCount 16 = .ok (.iconst 2, 1) := by decide +kernel
theorem d_Long_bitCount_17 : decode b_Long_bitCount 17 = .ok (.lushr, 1) := by decide +kernel
theorem d_Long_bitCount_18 : decode b_Long_bitCount 18 = .ok (.ldc2_w 316, 3) := by decide +kernel
theorem d_Long_bitCount_21 : decode b_Long_bitCount 21 = .ok (.land, 1) := by decide +kernel
theorem d_Long_bitCount_22 : decode b_Long_bitCount 22 = .ok (.ladd, 1) := by decide +kernel
theorem d_Long_bitCount_23 : decode b_Long_bitCount 23 = .ok (.lstore_n 0, 1) := by decide +kernel
theorem d_Long_bitCount_24 : decode b_Long_bitCount 24 = .ok (.lload_n 0, 1) := by decide +kernel
theorem d_Long_bitCount_25 : decode b_Long_bitCount 25 = .ok (.lload_n 0, 1) := by decide +kernel
theorem d_Long_bitCount_26 : decode b_Long_bitCount 26 = .ok (.iconst 4, 1) := by decide +kernel
theorem d_Long_bitCount_27 : decode b_Long_bitCount 27 = .ok (.lushr, 1) := by decide +kernel
theorem d_Long_bitCount_28 : decode b_Long_bitCount 28 = .ok (.ladd, 1) := by decide +kernel
theorem d_Long_bitCount_29 : decode b_Long_bitCount 29 = .ok (.ldc2_w 318, 3) := by decide +kernel
theorem d_Long_bitCount_32 : decode b_Long_bitCount 32 = .ok (.land, 1) := by decide +kernel
theorem d_Long_bitCount_33 : decode b_Long_bitCount 33 = .ok (.lstore_n 0, 1) := by decide +kernel
theorem d_Long_bitCount_34 : decode b_Long_bitCount 34 = .ok (.lload_n 0, 1) := by decide +kernel
theorem d_Long_bitCount_35 : decode b_Long_bitCount 35 = .ok (.lload_n 0, 1) := by decide +kernel
theorem d_Long_bitCount_36 : decode b_Long_bitCount 36 = .ok (.bipush 8, 2) := by decide +kernel
theorem d_Long_bitCount_38 : decode b_Long_bitCount 38 = .ok (.lushr, 1) := by decide +kernel
theorem d_Long_bitCount_39 : decode b_Long_bitCount 39 = .ok (.ladd, 1) := by decide +kernel
theorem d_Long_bitCount_40 : decode b_Long_bitCount 40 = .ok (.lstore_n 0, 1) := by decide +kernel
theorem d_Long_bitCount_41 : decode b_Long_bitCount 41 = .ok (.lload_n 0, 1) := by decide +kernel
theorem d_Long_bitCount_42 : decode b_Long_bitCount 42 = .ok (.lload_n 0, 1) := by decide +kernel
theorem d_Long_bitCount_43 : decode b_Long_bitCount 43 = .ok (.bipush 16, 2) := by decide +kernel
theorem d_Long_bitCount_45 : decode b_Long_bitCount 45 = .ok (.lushr, 1) := by decide +kernel
theorem d_Long_bitCount_46 : decode b_Long_bitCount 46 = .ok (.ladd, 1) := by decide +kernel
theorem d_Long_bitCount_47 : decode b_Long_bitCount 47 = .ok (.lstore_n 0, 1) := by decide +kernel
theorem d_Long_bitCount_48 : decode b_Long_bitCount 48 = .ok (.lload_n 0, 1) := by decide +kernel
theorem d_Long_bitCount_49 : decode b_Long_bitCount 49 = .ok (.lload_n 0, 1) := by decide +kernel
theorem d_Long_bitCount_50 : decode b_Long_bitCount 50 = .ok (.bipush 32, 2) := by decide +kernel
theorem d_Long_bitCount_52 : decode b_Long_bitCount 52 = .ok (.lushr, 1) := by decide +kernel
theorem d_Long_bitCount_53 : decode b_Long_bitCount 53 = .ok (.ladd, 1) := by decide +kernel
theorem d_Long_bitCount_54 : decode b_Long_bitCount 54 = .ok (.lstore_n 0, 1) := by decide +kernel
theorem d_Long_bitCount_55 : decode b_Long_bitCount 55 = .ok (.lload_n 0, 1) := by decide +kernel
theorem d_Long_bitCount_56 : decode b_Long_bitCount 56 = .ok (.l2i, 1) := by decide +kernel
theorem d_Long_bitCount_57 : decode b_Long_bitCount 57 = .ok (.bipush 127, 2) := by decide +kernel
theorem d_Long_bitCount_59 : decode b_Long_bitCount 59 = .ok (.iand, 1) := by decide +kernel
theorem d_Long_bitCount_60 : decode b_Long_bitCount 60 = .ok (.ireturn, 1) := by decide +kernel
