theorem d_Model_init_0 : decode b_Model_init 0 = .ok (.aload_n 0, 1) := by decide +kernel
theorem d_Model_init_1 : decode b_Model_init 1 = .ok (.invokespecial 1, 3) := by decide +kernel
theorem d_Model_init_4 : decode b_Model_init 4 = .ok (.aload_n 0, 1) := by decide +kernel
theorem d_Model_init_5 : decode b_Model_init 5 = .ok (.bipush 60, 2) := by decide +kernel
theorem d_Model_init_7 : decode b_Model_init 7 = .ok (.newarray .int, 2) := by decide +kernel
theorem d_Model_init_9 : decode b_Model_init 9 = .ok (.putfield 7, 3) := by decide +kernel
theorem d_Model_init_12 : decode b_Model_init 12 = .ok (.aload_n 0, 1) := by decide +kernel
theorem d_Model_init_13 : decode b_Model_init 13 = .ok (.sipush 8000, 3) := by decide +kernel
theorem d_Model_init_16 : decode b_Model_init 16 = .ok (.putfield 13, 3) := by decide +kernel
theorem d_Model_init_19 : decode b_Model_init 19 = .ok (.aload_n 0, 1) := by decide +kernel
theorem d_Model_init_20 : decode b_Model_init 20 = .ok (.bipush 100, 2) := by decide +kernel
theorem d_Model_init_22 : decode b_Model_init 22 = .ok (.putfield 17, 3) := by decide +kernel
theorem d_Model_init_25 : decode b_Model_init 25 = .ok (.aload_n 0, 1) := by decide +kernel
theorem d_Model_init_26 : decode b_Model_init 26 = .ok (.bipush 6, 2) := by decide +kernel
theorem d_Model_init_28 : decode b_Model_init 28 = .ok (.newarray .int, 2) := by decide +kernel
theorem d_Model_init_30 : decode b_Model_init 30 = .ok (.putfield 20, 3) := by decide +kernel
theorem d_Model_init_33 : decode b_Model_init 33 = .ok (.aload_n 0, 1) := by decide +kernel
theorem d_Model_init_34 : decode b_Model_init 34 = .ok (.bipush 6, 2) := by decide +kernel
theorem d_Model_init_36 : decode b_Model_init 36 = .ok (.newarray .int, 2) := by decide +kernel
theorem d_Model_init_38 : decode b_Model_init 38 = .ok (.putfield 23, 3) := by decide +kernel
theorem d_Model_init_41 : decode b_Model_init 41 = .ok (.aload_n 0, 1) := by decide +kernel
theorem d_Model_init_42 : decode b_Model_init 42 = .ok (.sipush 24576, 3) := by decide +kernel
theorem d_Model_init_45 : decode b_Model_init 45 = .ok (.newarray .boolean, 2) := by decide +kernel
theorem d_Model_init_47 : decode b_Model_init 47 = .ok (.putfield 26, 3) := by decide +kernel
theorem d_Model_init_50 : decode b_Model_init 50 = .ok (.aload_n 0, 1) := by decide +kernel
theorem d_Model_init_51 : decode b_Model_init 51 = .ok (.bipush 6, 2) := by decide +kernel
theorem d_Model_init_53 : decode b_Model_init 53 = .ok (.newarray .int, 2) := by decide +kernel
theorem d_Model_init_55 : decode b_Model_init 55 = .ok (.putfield 30, 3) := by decide +kernel
theorem d_Model_init_58 : decode b_Model_init 58 = .ok (.aload_n 0, 1) := by decide +kernel
theorem d_Model_init_59 : decode b_Model_init 59 = .ok (.bipush 6, 2) := by decide +kernel
theorem d_Model_init_61 : decode b_Model_init 61 = .ok (.newarray .int, 2) := by decide +kernel
theorem d_Model_init_63 : decode b_Model_init 63 = .ok (.putfield 33, 3) := by decide +kernel
theorem d_Model_init_66 : decode b_Model_init 66 = .ok (.aload_n 0, 1) := by decide +kernel
theorem d_Model_init_67 : decode b_Model_init 67 = .ok (.bipush 6, 2) := by decide +kernel
theorem d_Model_init_69 : decode b_Model_init 69 = .ok (.newarray .int, 2) := by decide +kernel
theorem d_Model_init_71 : decode b_Model_init 71 = .ok (.putfield 36, 3) := by decide +kernel
theorem d_Model_init_74 : decode b_Model_init 74 = .ok (.aload_n 0, 1) := by decide +kernel
theorem d_Model_init_75 : decode b_Model_init 75 = .ok (.iconst (-1), 1) := by decide +kernel
theorem d_Model_init_76 : decode b_Model_init 76 = .ok (.putfield 39, 3) := by decide +kernel
theorem d_Model_init_79 : decode b_Model_init 79 = .ok (.aload_n 0, 1) := by decide +kernel
theorem d_Model_init_80 : decode b_Model_init 80 = .ok (.bipush 6, 2) := by decide +kernel
theorem d_Model_init_82 : decode b_Model_init 82 = .ok (.newarray .int, 2) := by decide +kernel
theorem d_Model_init_84 : decode b_Model_init 84 = .ok (.putfield 42, 3) := by decide +kernel
theorem d_Model_init_87 : decode b_Model_init 87 = .ok (.aload_n 0, 1) := by decide +kernel
theorem d_Model_init_88 : decode b_Model_init 88 = .ok (.bipush 6, 2) := by decide +kernel
theorem d_Model_init_90 : decode b_Model_init 90 = .ok (.newarray .int, 2) := by decide +kernel
theorem d_Model_init_92 : decode b_Model_init 92 = .ok (.putfield 45, 3) := by decide +kernel
theorem d_Model_init_95 : decode b_Model_init 95 = .ok (.aload_n 0, 1) := by decide +kernel
theorem d_Model_init_96 : decode b_Model_init 96 = .ok (.sipush 2048, 3) := by decide +kernel
theorem d_Model_init_99 : decode b_Model_init 99 = .ok (.newarray .int, 2) := by decide +kernel
theorem d_Model_init_101 : decode b_Model_init 101 = .ok (.putfield 48, 3) := by decide +kernel
theorem d_Model_init_104 : decode b_Model_init 104 = .ok (.aload_n 0, 1) := by decide +kernel
theorem d_Model_init_105 : decode b_Model_init 105 = .ok (.sipush 2048, 3) := by decide +kernel
theorem d_Model_init_108 : decode b_Model_init 108 = .ok (.newarray .int, 2) := by decide +kernel
theorem d_Model_init_110 : decode b_Model_init 110 = .ok (.putfield 51, 3) := by decide +kernel
theorem d_Model_init_113 : decode b_Model_init 113 = .ok (.aload_n 0, 1) := by decide +kernel
theorem d_Model_init_114 : decode b_Model_init 114 = .ok (.sipush 4096, 3) := by decide +kernel
theorem d_Model_init_117 : decode b_Model_init 117 = .ok (.newarray .boolean, 2) := by decide +kernel
theorem d_Model_init_119 : decode b_Model_init 119 = .ok (.putfield 54, 3) := by decide +kernel
theorem d_Model_init_122 : decode b_Model_init 122 = .ok (.iconst 0, 1) := by decide +kernel
theorem d_Model_init_123 : decode b_Model_init 123 = .ok (.istore_n 1, 1) := by decide +kernel
theorem d_Model_init_124 : decode b_Model_init 124 = .ok (.iload_n 1, 1) := by decide +kernel
theorem d_Model_init_125 : decode b_Model_init 125 = .ok (.bipush 6, 2) := by decide +kernel
theorem d_Model_init_127 : decode b_Model_init 127 = .ok (.if_icmp .ge 16, 3) := by decide +kernel
theorem d_Model_init_130 : decode b_Model_init 130 = .ok (.aload_n 0, 1) := by decide +kernel
theorem d_Model_init_131 : decode b_Model_init 131 = .ok (.getfield 20, 3) := by decide +kernel
theorem d_Model_init_134 : decode b_Model_init 134 = .ok (.iload_n 1, 1) := by decide +kernel
theorem d_Model_init_135 : decode b_Model_init 135 = .ok (.iconst (-1), 1) := by decide +kernel
theorem d_Model_init_136 : decode b_Model_init 136 = .ok (.iastore, 1) := by decide +kernel
theorem d_Model_init_137 : decode b_Model_init 137 = .ok (.iinc 1 1, 3) := by decide +kernel
theorem d_Model_init_140 : decode b_Model_init 140 = .ok (.goto (-16), 3) := by decide +kernel
theorem d_Model_init_143 : decode b_Model_init 143 = .ok (.return_, 1) := by decide +kernel
theorem d_Model_thrown_0 : decode b_Model_thrown 0 = .ok (.aload_n 0, 1) := by decide +kernel
theorem d_Model_thrown_1 : decode b_Model_thrown 1 = .ok (.getfield 57, 3) := by decide +kernel
theorem d_Model_thrown_4 : decode b_Model_thrown 4 = .ok (.ireturn, 1) := by decide +kernel
theorem d_Model_raise_0 : decode b_Model_raise 0 = .ok (.aload_n 0, 1) := by decide +kernel
theorem d_Model_raise_1 : decode b_Model_raise 1 = .ok (.iload_n 1, 1) := by decide +kernel
theorem d_Model_raise_2 : decode b_Model_raise 2 = .ok (.putfield 57, 3) := by decide +kernel
theorem d_Model_raise_5 : decode b_Model_raise 5 = .ok (.iconst 0, 1) := by decide +kernel
theorem d_Model_raise_6 : decode b_Model_raise 6 = .ok (.ireturn, 1) := by decide +kernel
theorem d_Model_isThing_0 : decode b_Model_isThing 0 = .ok (.iload_n 0, 1) := by decide +kernel
theorem d_Model_isThing_1 : decode b_Model_isThing 1 = .ok (.ifCond .lt 13, 3) := by decide +kernel
theorem d_Model_isThing_4 : decode b_Model_isThing 4 = .ok (.iload_n 0, 1) := by decide +kernel
theorem d_Model_isThing_5 : decode b_Model_isThing 5 = .ok (.bipush 6, 2) := by decide +kernel
theorem d_Model_isThing_7 : decode b_Model_isThing 7 = .ok (.if_icmp .ge 7, 3) := by decide +kernel
theorem d_Model_isThing_10 : decode b_Model_isThing 10 = .ok (.iconst 1, 1) := by decide +kernel
theorem d_Model_isThing_11 : decode b_Model_isThing 11 = .ok (.goto 4, 3) := by decide +kernel
theorem d_Model_isThing_14 : decode b_Model_isThing 14 = .ok (.iconst 0, 1) := by decide +kernel
theorem d_Model_isThing_15 : decode b_Model_isThing 15 = .ok (.ireturn, 1) := by decide +kernel
theorem d_Model_isKnown_0 : decode b_Model_isKnown 0 = .ok (.iload_n 1, 1) := by decide +kernel
theorem d_Model_isKnown_1 : decode b_Model_isKnown 1 = .ok (.invokestatic 60, 3) := by decide +kernel
theorem d_Model_isKnown_4 : decode b_Model_isKnown 4 = .ok (.ifCond .eq 17, 3) := by decide +kernel
theorem d_Model_isKnown_7 : decode b_Model_isKnown 7 = .ok (.aload_n 0, 1) := by decide +kernel
theorem d_Model_isKnown_8 : decode b_Model_isKnown 8 = .ok (.getfield 20, 3) := by decide +kernel
theorem d_Model_isKnown_11 : decode b_Model_isKnown 11 = .ok (.iload_n 1, 1) := by decide +kernel
theorem d_Model_isKnown_12 : decode b_Model_isKnown 12 = .ok (.iaload, 1) := by decide +kernel
theorem d_Model_isKnown_13 : decode b_Model_isKnown 13 = .ok (.iconst (-1), 1) := by decide +kernel
theorem d_Model_isKnown_14 : decode b_Model_isKnown 14 = .ok (.if_icmp .eq 7, 3) := by decide +kernel
theorem d_Model_isKnown_17 : decode b_Model_isKnown 17 = .ok (.iconst 1, 1) := by decide +kernel
theorem d_Model_isKnown_18 : decode b_Model_isKnown 18 = .ok (.goto 4, 3) := by decide +kernel
theorem d_Model_isKnown_21 : decode b_Model_isKnown 21 = .ok (.iconst 0, 1) := by decide +kernel
theorem d_Model_isKnown_22 : decode b_Model_isKnown 22 = .ok (.ireturn, 1) := by decide +kernel
theorem d_Model_type_0 : decode b_Model_type 0 = .ok (.aload_n 0, 1) := by decide +kernel
theorem d_Model_type_1 : decode b_Model_type 1 = .ok (.iconst 0, 1) := by decide +kernel
theorem d_Model_type_2 : decode b_Model_type 2 = .ok (.putfield 57, 3) := by decide +kernel
theorem d_Model_type_5 : decode b_Model_type 5 = .ok (.iload_n 3, 1) := by decide +kernel
theorem d_Model_type_6 : decode b_Model_type 6 = .ok (.iconst 1, 1) := by decide +kernel
theorem d_Model_type_7 : decode b_Model_type 7 = .ok (.if_icmp .lt 20, 3) := by decide +kernel
theorem d_Model_type_10 : decode b_Model_type 10 = .ok (.iload_n 3, 1) := by decide +kernel
theorem d_Model_type_11 : decode b_Model_type 11 = .ok (.bipush 8, 2) := by decide +kernel
theorem d_Model_type_13 : decode b_Model_type 13 = .ok (.if_icmp .gt 14, 3) := by decide +kernel
theorem d_Model_type_16 : decode b_Model_type 16 = .ok (.aload_n 0, 1) := by decide +kernel
theorem d_Model_type_17 : decode b_Model_type 17 = .ok (.getfield 64, 3) := by decide +kernel
theorem d_Model_type_20 : decode b_Model_type 20 = .ok (.iload_n 3, 1) := by decide +kernel
theorem d_Model_type_21 : decode b_Model_type 21 = .ok (.iadd, 1) := by decide +kernel
theorem d_Model_type_22 : decode b_Model_type 22 = .ok (.bipush 60, 2) := by decide +kernel
theorem d_Model_type_24 : decode b_Model_type 24 = .ok (.if_icmp .le 5, 3) := by decide +kernel
theorem d_Model_type_27 : decode b_Model_type 27 = .ok (.iconst 0, 1) := by decide +kernel
theorem d_Model_type_28 : decode b_Model_type 28 = .ok (.ireturn, 1) := by decide +kernel
theorem d_Model_type_29 : decode b_Model_type 29 = .ok (.iconst 0, 1) := by decide +kernel
theorem d_Model_type_30 : decode b_Model_type 30 = .ok (.istore 4, 2) := by decide +kernel
theorem d_Model_type_32 : decode b_Model_type 32 = .ok (.iload 4, 2) := by decide +kernel
theorem d_Model_type_34 : decode b_Model_type 34 = .ok (.iload_n 3, 1) := by decide +kernel
theorem d_Model_type_35 : decode b_Model_type 35 = .ok (.if_icmp .ge 39, 3) := by decide +kernel
theorem d_Model_type_38 : decode b_Model_type 38 = .ok (.lload_n 1, 1) := by decide +kernel
theorem d_Model_type_39 : decode b_Model_type 39 = .ok (.bipush 8, 2) := by decide +kernel
theorem d_Model_type_41 : decode b_Model_type 41 = .ok (.iload 4, 2) := by decide +kernel
theorem d_Model_type_43 : decode b_Model_type 43 = .ok (.imul, 1) := by decide +kernel
theorem d_Model_type_44 : decode b_Model_type 44 = .ok (.lshr, 1) := by decide +kernel
theorem d_Model_type_45 : decode b_Model_type 45 = .ok (.ldc2_w 67, 3) := by decide +kernel
theorem d_Model_type_48 : decode b_Model_type 48 = .ok (.land, 1) := by decide +kernel
theorem d_Model_type_49 : decode b_Model_type 49 = .ok (.l2i, 1) := by decide +kernel
theorem d_Model_type_50 : decode b_Model_type 50 = .ok (.istore 5, 2) := by decide +kernel
theorem d_Model_type_52 : decode b_Model_type 52 = .ok (.iload 5, 2) := by decide +kernel
theorem d_Model_type_54 : decode b_Model_type 54 = .ok (.bipush 33, 2) := by decide +kernel
theorem d_Model_type_56 : decode b_Model_type 56 = .ok (.if_icmp .lt 10, 3) := by decide +kernel
theorem d_Model_type_59 : decode b_Model_type 59 = .ok (.iload 5, 2) := by decide +kernel
theorem d_Model_type_61 : decode b_Model_type 61 = .ok (.bipush 126, 2) := by decide +kernel
theorem d_Model_type_63 : decode b_Model_type 63 = .ok (.if_icmp .le 5, 3) := by decide +kernel
theorem d_Model_type_66 : decode b_Model_type 66 = .ok (.iconst 0, 1) := by decide +kernel
theorem d_Model_type_67 : decode b_Model_type 67 = .ok (.ireturn, 1) := by decide +kernel
theorem d_Model_type_68 : decode b_Model_type 68 = .ok (.iinc 4 1, 3) := by decide +kernel
theorem d_Model_type_71 : decode b_Model_type 71 = .ok (.goto (-39), 3) := by decide +kernel
theorem d_Model_type_74 : decode b_Model_type 74 = .ok (.iload_n 3, 1) := by decide +kernel
theorem d_Model_type_75 : decode b_Model_type 75 = .ok (.iconst 1, 1) := by decide +kernel
theorem d_Model_type_76 : decode b_Model_type 76 = .ok (.isub, 1) := by decide +kernel
theorem d_Model_type_77 : decode b_Model_type 77 = .ok (.istore 4, 2) := by decide +kernel
theorem d_Model_type_79 : decode b_Model_type 79 = .ok (.iload 4, 2) := by decide +kernel
theorem d_Model_type_81 : decode b_Model_type 81 = .ok (.ifCond .lt 40, 3) := by decide +kernel
theorem d_Model_type_84 : decode b_Model_type 84 = .ok (.aload_n 0, 1) := by decide +kernel
theorem d_Model_type_85 : decode b_Model_type 85 = .ok (.getfield 7, 3) := by decide +kernel
theorem d_Model_type_88 : decode b_Model_type 88 = .ok (.aload_n 0, 1) := by decide +kernel
theorem d_Model_type_89 : decode b_Model_type 89 = .ok (.getfield 64, 3) := by decide +kernel
theorem d_Model_type_92 : decode b_Model_type 92 = .ok (.lload_n 1, 1) := by decide +kernel
theorem d_Model_type_93 : decode b_Model_type 93 = .ok (.bipush 8, 2) := by decide +kernel
theorem d_Model_type_95 : decode b_Model_type 95 = .ok (.iload 4, 2) := by decide +kernel
theorem d_Model_type_97 : decode b_Model_type 97 = .ok (.imul, 1) := by decide +kernel
theorem d_Model_type_98 : decode b_Model_type 98 = .ok (.lshr, 1) := by decide +kernel
theorem d_Model_type_99 : decode b_Model_type 99 = .ok (.ldc2_w 67, 3) := by decide +kernel
theorem d_Model_type_102 : decode b_Model_type 102 = .ok (.land, 1) := by decide +kernel
theorem d_Model_type_103 : decode b_Model_type 103 = .ok (.l2i, 1) := by decide +kernel
theorem d_Model_type_104 : decode b_Model_type 104 = .ok (.iastore, 1) := by decide +kernel
theorem d_Model_type_105 : decode b_Model_type 105 = .ok (.aload_n 0, 1) := by decide +kernel
theorem d_Model_type_106 : decode b_Model_type 106 = .ok (.dup, 1) := by decide +kernel
theorem d_Model_type_107 : decode b_Model_type 107 = .ok (.getfield 64, 3) := by decide +kernel
theorem d_Model_type_110 : decode b_Model_type 110 = .ok (.iconst 1, 1) := by decide +kernel
theorem d_Model_type_111 : decode b_Model_type 111 = .ok (.iadd, 1) := by decide +kernel
theorem d_Model_type_112 : decode b_Model_type 112 = .ok (.putfield 64, 3) := by decide +kernel
theorem d_Model_type_115 : decode b_Model_type 115 = .ok (.iinc 4 (-1), 3) := by decide +kernel
theorem d_Model_type_118 : decode b_Model_type 118 = .ok (.goto (-39), 3) := by decide +kernel
theorem d_Model_type_121 : decode b_Model_type 121 = .ok (.iconst 1, 1) := by decide +kernel
theorem d_Model_type_122 : decode b_Model_type 122 = .ok (.ireturn, 1) := by decide +kernel
theorem d_Model_empty_0 : decode b_Model_empty 0 = .ok (.iconst 0, 1) := by decide +kernel
theorem d_Model_empty_1 : decode b_Model_empty 1 = .ok (.istore_n 2, 1) := by decide +kernel
theorem d_Model_empty_2 : decode b_Model_empty 2 = .ok (.iload_n 2, 1) := by decide +kernel
theorem d_Model_empty_3 : decode b_Model_empty 3 = .ok (.sipush 4096, 3) := by decide +kernel
theorem d_Model_empty_6 : decode b_Model_empty 6 = .ok (.if_icmp .ge 22, 3) := by decide +kernel
theorem d_Model_empty_9 : decode b_Model_empty 9 = .ok (.aload_n 0, 1) := by decide +kernel
theorem d_Model_empty_10 : decode b_Model_empty 10 = .ok (.getfield 26, 3) := by decide +kernel
theorem d_Model_empty_13 : decode b_Model_empty 13 = .ok (.sipush 4096, 3) := by decide +kernel
theorem d_Model_empty_16 : decode b_Model_empty 16 = .ok (.iload_n 1, 1) := by decide +kernel
theorem d_Model_empty_17 : decode b_Model_empty 17 = .ok (.imul, 1) := by decide +kernel
theorem d_Model_empty_18 : decode b_Model_empty 18 = .ok (.iload_n 2, 1) := by decide +kernel
theorem d_Model_empty_19 : decode b_Model_empty 19 = .ok (.iadd, 1) := by decide +kernel
theorem d_Model_empty_20 : decode b_Model_empty 20 = .ok (.iconst 0, 1) := by decide +kernel
theorem d_Model_empty_21 : decode b_Model_empty 21 = .ok (.bastore, 1) := by decide +kernel
theorem d_Model_empty_22 : decode b_Model_empty 22 = .ok (.iinc 2 1, 3) := by decide +kernel
theorem d_Model_empty_25 : decode b_Model_empty 25 = .ok (.goto (-23), 3) := by decide +kernel
theorem d_Model_empty_28 : decode b_Model_empty 28 = .ok (.return_, 1) := by decide +kernel
theorem d_Model_thing_0 : decode b_Model_thing 0 = .ok (.aload_n 0, 1) := by decide +kernel
theorem d_Model_thing_1 : decode b_Model_thing 1 = .ok (.iconst 0, 1) := by decide +kernel
theorem d_Model_thing_2 : decode b_Model_thing 2 = .ok (.putfield 57, 3) := by decide +kernel
theorem d_Model_thing_5 : decode b_Model_thing 5 = .ok (.iload_n 1, 1) := by decide +kernel
theorem d_Model_thing_6 : decode b_Model_thing 6 = .ok (.invokestatic 60, 3) := by decide +kernel
theorem d_Model_thing_9 : decode b_Model_thing 9 = .ok (.ifCond .eq 14, 3) := by decide +kernel
theorem d_Model_thing_12 : decode b_Model_thing 12 = .ok (.iload_n 2, 1) := by decide +kernel
theorem d_Model_thing_13 : decode b_Model_thing 13 = .ok (.ifCond .lt 10, 3) := by decide +kernel
theorem d_Model_thing_16 : decode b_Model_thing 16 = .ok (.iload_n 2, 1) := by decide +kernel
theorem d_Model_thing_17 : decode b_Model_thing 17 = .ok (.sipush 4095, 3) := by decide +kernel
theorem d_Model_thing_20 : decode b_Model_thing 20 = .ok (.if_icmp .le 5, 3) := by decide +kernel
theorem d_Model_thing_23 : decode b_Model_thing 23 = .ok (.iconst 0, 1) := by decide +kernel
theorem d_Model_thing_24 : decode b_Model_thing 24 = .ok (.ireturn, 1) := by decide +kernel
theorem d_Model_thing_25 : decode b_Model_thing 25 = .ok (.aload_n 0, 1) := by decide +kernel
theorem d_Model_thing_26 : decode b_Model_thing 26 = .ok (.getfield 20, 3) := by decide +kernel
theorem d_Model_thing_29 : decode b_Model_thing 29 = .ok (.iload_n 1, 1) := by decide +kernel
theorem d_Model_thing_30 : decode b_Model_thing 30 = .ok (.iaload, 1) := by decide +kernel
theorem d_Model_thing_31 : decode b_Model_thing 31 = .ok (.iload_n 2, 1) := by decide +kernel
theorem d_Model_thing_32 : decode b_Model_thing 32 = .ok (.if_icmp .ne 13, 3) := by decide +kernel
theorem d_Model_thing_35 : decode b_Model_thing 35 = .ok (.aload_n 0, 1) := by decide +kernel
theorem d_Model_thing_36 : decode b_Model_thing 36 = .ok (.getfield 23, 3) := by decide +kernel
theorem d_Model_thing_39 : decode b_Model_thing 39 = .ok (.iload_n 1, 1) := by decide +kernel
theorem d_Model_thing_40 : decode b_Model_thing 40 = .ok (.iaload, 1) := by decide +kernel
theorem d_Model_thing_41 : decode b_Model_thing 41 = .ok (.iload_n 3, 1) := by decide +kernel
theorem d_Model_thing_42 : decode b_Model_thing 42 = .ok (.if_icmp .eq 8, 3) := by decide +kernel
theorem d_Model_thing_45 : decode b_Model_thing 45 = .ok (.aload_n 0, 1) := by decide +kernel
theorem d_Model_thing_46 : decode b_Model_thing 46 = .ok (.iload_n 1, 1) := by decide +kernel
theorem d_Model_thing_47 : decode b_Model_thing 47 = .ok (.invokevirtual 69, 3) := by decide +kernel
theorem d_Model_thing_50 : decode b_Model_thing 50 = .ok (.aload_n 0, 1) := by decide +kernel
theorem d_Model_thing_51 : decode b_Model_thing 51 = .ok (.getfield 20, 3) := by decide +kernel
theorem d_Model_thing_54 : decode b_Model_thing 54 = .ok (.iload_n 1, 1) := by decide +kernel
theorem d_Model_thing_55 : decode b_Model_thing 55 = .ok (.iload_n 2, 1) := by decide +kernel
theorem d_Model_thing_56 : decode b_Model_thing 56 = .ok (.iastore, 1) := by decide +kernel
theorem d_Model_thing_57 : decode b_Model_thing 57 = .ok (.aload_n 0, 1) := by decide +kernel
theorem d_Model_thing_58 : decode b_Model_thing 58 = .ok (.getfield 23, 3) := by decide +kernel
theorem d_Model_thing_61 : decode b_Model_thing 61 = .ok (.iload_n 1, 1) := by decide +kernel
theorem d_Model_thing_62 : decode b_Model_thing 62 = .ok (.iload_n 3, 1) := by decide +kernel
theorem d_Model_thing_63 : decode b_Model_thing 63 = .ok (.iastore, 1) := by decide +kernel
theorem d_Model_thing_64 : decode b_Model_thing 64 = .ok (.iconst 1, 1) := by decide +kernel
theorem d_Model_thing_65 : decode b_Model_thing 65 = .ok (.ireturn, 1) := by decide +kernel
theorem d_Model_forget_0 : decode b_Model_forget 0 = .ok (.aload_n 0, 1) := by decide +kernel
theorem d_Model_forget_1 : decode b_Model_forget 1 = .ok (.iconst 0, 1) := by decide +kernel
theorem d_Model_forget_2 : decode b_Model_forget 2 = .ok (.putfield 57, 3) := by decide +kernel
theorem d_Model_forget_5 : decode b_Model_forget 5 = .ok (.iload_n 1, 1) := by decide +kernel
theorem d_Model_forget_6 : decode b_Model_forget 6 = .ok (.invokestatic 60, 3) := by decide +kernel
theorem d_Model_forget_9 : decode b_Model_forget 9 = .ok (.ifCond .ne 5, 3) := by decide +kernel
theorem d_Model_forget_12 : decode b_Model_forget 12 = .ok (.iconst 0, 1) := by decide +kernel
theorem d_Model_forget_13 : decode b_Model_forget 13 = .ok (.ireturn, 1) := by decide +kernel
theorem d_Model_forget_14 : decode b_Model_forget 14 = .ok (.aload_n 0, 1) := by decide +kernel
theorem d_Model_forget_15 : decode b_Model_forget 15 = .ok (.getfield 20, 3) := by decide +kernel
theorem d_Model_forget_18 : decode b_Model_forget 18 = .ok (.iload_n 1, 1) := by decide +kernel
theorem d_Model_forget_19 : decode b_Model_forget 19 = .ok (.iconst (-1), 1) := by decide +kernel
theorem d_Model_forget_20 : decode b_Model_forget 20 = .ok (.iastore, 1) := by decide +kernel
theorem d_Model_forget_21 : decode b_Model_forget 21 = .ok (.aload_n 0, 1) := by decide +kernel
theorem d_Model_forget_22 : decode b_Model_forget 22 = .ok (.iload_n 1, 1) := by decide +kernel
theorem d_Model_forget_23 : decode b_Model_forget 23 = .ok (.invokevirtual 69, 3) := by decide +kernel
theorem d_Model_forget_26 : decode b_Model_forget 26 = .ok (.iconst 1, 1) := by decide +kernel
theorem d_Model_forget_27 : decode b_Model_forget 27 = .ok (.ireturn, 1) := by decide +kernel
theorem d_Model_heldOf_0 : decode b_Model_heldOf 0 = .ok (.iconst 0, 1) := by decide +kernel
theorem d_Model_heldOf_1 : decode b_Model_heldOf 1 = .ok (.istore_n 2, 1) := by decide +kernel
theorem d_Model_heldOf_2 : decode b_Model_heldOf 2 = .ok (.iconst 0, 1) := by decide +kernel
theorem d_Model_heldOf_3 : decode b_Model_heldOf 3 = .ok (.istore_n 3, 1) := by decide +kernel
theorem d_Model_heldOf_4 : decode b_Model_heldOf 4 = .ok (.iload_n 3, 1) := by decide +kernel
theorem d_Model_heldOf_5 : decode b_Model_heldOf 5 = .ok (.sipush 4096, 3) := by decide +kernel
theorem d_Model_heldOf_8 : decode b_Model_heldOf 8 = .ok (.if_icmp .ge 32, 3) := by decide +kernel
theorem d_Model_heldOf_11 : decode b_Model_heldOf 11 = .ok (.iload_n 2, 1) := by decide +kernel
theorem d_Model_heldOf_12 : decode b_Model_heldOf 12 = .ok (.aload_n 0, 1) := by decide +kernel
theorem d_Model_heldOf_13 : decode b_Model_heldOf 13 = .ok (.getfield 26, 3) := by decide +kernel
theorem d_Model_heldOf_16 : decode b_Model_heldOf 16 = .ok (.sipush 4096, 3) := by decide +kernel
theorem d_Model_heldOf_19 : decode b_Model_heldOf 19 = .ok (.iload_n 1, 1) := by decide +kernel
theorem d_Model_heldOf_20 : decode b_Model_heldOf 20 = .ok (.imul, 1) := by decide +kernel
theorem d_Model_heldOf_21 : decode b_Model_heldOf 21 = .ok (.iload_n 3, 1) := by decide +kernel
theorem d_Model_heldOf_22 : decode b_Model_heldOf 22 = .ok (.iadd, 1) := by decide +kernel
theorem d_Model_heldOf_23 : decode b_Model_heldOf 23 = .ok (.baload, 1) := by decide +kernel
theorem d_Model_heldOf_24 : decode b_Model_heldOf 24 = .ok (.ifCond .eq 7, 3) := by decide +kernel
theorem d_Model_heldOf_27 : decode b_Model_heldOf 27 = .ok (.iconst 1, 1) := by decide +kernel
theorem d_Model_heldOf_28 : decode b_Model_heldOf 28 = .ok (.goto 4, 3) := by decide +kernel
theorem d_Model_heldOf_31 : decode b_Model_heldOf 31 = .ok (.iconst 0, 1) := by decide +kernel
theorem d_Model_heldOf_32 : decode b_Model_heldOf 32 = .ok (.iadd, 1) := by decide +kernel
theorem d_Model_heldOf_33 : decode b_Model_heldOf 33 = .ok (.istore_n 2, 1) := by decide +kernel
theorem d_Model_heldOf_34 : decode b_Model_heldOf 34 = .ok (.iinc 3 1, 3) := by decide +kernel
theorem d_Model_heldOf_37 : decode b_Model_heldOf 37 = .ok (.goto (-33), 3) := by decide +kernel
theorem d_Model_heldOf_40 : decode b_Model_heldOf 40 = .ok (.iload_n 2, 1) := by decide +kernel
theorem d_Model_heldOf_41 : decode b_Model_heldOf 41 = .ok (.ireturn, 1) := by decide +kernel
theorem d_Model_use_0 : decode b_Model_use 0 = .ok (.aload_n 0, 1) := by decide +kernel
theorem d_Model_use_1 : decode b_Model_use 1 = .ok (.dup, 1) := by decide +kernel
theorem d_Model_use_2 : decode b_Model_use 2 = .ok (.getfield 73, 3) := by decide +kernel
theorem d_Model_use_5 : decode b_Model_use 5 = .ok (.iconst 1, 1) := by decide +kernel
theorem d_Model_use_6 : decode b_Model_use 6 = .ok (.iadd, 1) := by decide +kernel
theorem d_Model_use_7 : decode b_Model_use 7 = .ok (.putfield 73, 3) := by decide +kernel
theorem d_Model_use_10 : decode b_Model_use 10 = .ok (.aload_n 0, 1) := by decide +kernel
theorem d_Model_use_11 : decode b_Model_use 11 = .ok (.getfield 30, 3) := by decide +kernel
theorem d_Model_use_14 : decode b_Model_use 14 = .ok (.iload_n 1, 1) := by decide +kernel
theorem d_Model_use_15 : decode b_Model_use 15 = .ok (.aload_n 0, 1) := by decide +kernel
theorem d_Model_use_16 : decode b_Model_use 16 = .ok (.getfield 73, 3) := by decide +kernel
theorem d_Model_use_19 : decode b_Model_use 19 = .ok (.iastore, 1) := by decide +kernel
theorem d_Model_use_20 : decode b_Model_use 20 = .ok (.return_, 1) := by decide +kernel
theorem d_Model_clean_0 : decode b_Model_clean 0 = .ok (.iconst 0, 1) := by decide +kernel
theorem d_Model_clean_1 : decode b_Model_clean 1 = .ok (.istore_n 1, 1) := by decide +kernel
theorem d_Model_clean_2 : decode b_Model_clean 2 = .ok (.iconst 0, 1) := by decide +kernel
theorem d_Model_clean_3 : decode b_Model_clean 3 = .ok (.istore_n 2, 1) := by decide +kernel
theorem d_Model_clean_4 : decode b_Model_clean 4 = .ok (.iload_n 2, 1) := by decide +kernel
theorem d_Model_clean_5 : decode b_Model_clean 5 = .ok (.bipush 6, 2) := by decide +kernel
theorem d_Model_clean_7 : decode b_Model_clean 7 = .ok (.if_icmp .ge 17, 3) := by decide +kernel
theorem d_Model_clean_10 : decode b_Model_clean 10 = .ok (.iload_n 1, 1) := by decide +kernel
theorem d_Model_clean_11 : decode b_Model_clean 11 = .ok (.aload_n 0, 1) := by decide +kernel
theorem d_Model_clean_12 : decode b_Model_clean 12 = .ok (.iload_n 2, 1) := by decide +kernel
theorem d_Model_clean_13 : decode b_Model_clean 13 = .ok (.invokevirtual 76, 3) := by decide +kernel
theorem d_Model_clean_16 : decode b_Model_clean 16 = .ok (.iadd, 1) := by decide +kernel
theorem d_Model_clean_17 : decode b_Model_clean 17 = .ok (.istore_n 1, 1) := by decide +kernel
theorem d_Model_clean_18 : decode b_Model_clean 18 = .ok (.iinc 2 1, 3) := by decide +kernel
theorem d_Model_clean_21 : decode b_Model_clean 21 = .ok (.goto (-17), 3) := by decide +kernel
theorem d_Model_clean_24 : decode b_Model_clean 24 = .ok (.iload_n 1, 1) := by decide +kernel
theorem d_Model_clean_25 : decode b_Model_clean 25 = .ok (.aload_n 0, 1) := by decide +kernel
theorem d_Model_clean_26 : decode b_Model_clean 26 = .ok (.getfield 13, 3) := by decide +kernel
theorem d_Model_clean_29 : decode b_Model_clean 29 = .ok (.if_icmp .le 108, 3) := by decide +kernel
theorem d_Model_clean_32 : decode b_Model_clean 32 = .ok (.iconst (-1), 1) := by decide +kernel
theorem d_Model_clean_33 : decode b_Model_clean 33 = .ok (.istore_n 2, 1) := by decide +kernel
theorem d_Model_clean_34 : decode b_Model_clean 34 = .ok (.iconst 0, 1) := by decide +kernel
theorem d_Model_clean_35 : decode b_Model_clean 35 = .ok (.istore_n 3, 1) := by decide +kernel
theorem d_Model_clean_36 : decode b_Model_clean 36 = .ok (.iload_n 3, 1) := by decide +kernel
theorem d_Model_clean_37 : decode b_Model_clean 37 = .ok (.bipush 6, 2) := by decide +kernel
theorem d_Model_clean_39 : decode b_Model_clean 39 = .ok (.if_icmp .ge 39, 3) := by decide +kernel
theorem d_Model_clean_42 : decode b_Model_clean 42 = .ok (.aload_n 0, 1) := by decide +kernel
theorem d_Model_clean_43 : decode b_Model_clean 43 = .ok (.iload_n 3, 1) := by decide +kernel
theorem d_Model_clean_44 : decode b_Model_clean 44 = .ok (.invokevirtual 76, 3) := by decide +kernel
theorem d_Model_clean_47 : decode b_Model_clean 47 = .ok (.ifCond .le 25, 3) := by decide +kernel
theorem d_Model_clean_50 : decode b_Model_clean 50 = .ok (.iload_n 2, 1) := by decide +kernel
theorem d_Model_clean_51 : decode b_Model_clean 51 = .ok (.iconst (-1), 1) := by decide +kernel
theorem d_Model_clean_52 : decode b_Model_clean 52 = .ok (.if_icmp .eq 18, 3) := by decide +kernel
theorem d_Model_clean_55 : decode b_Model_clean 55 = .ok (.aload_n 0, 1) := by decide +kernel
theorem d_Model_clean_56 : decode b_Model_clean 56 = .ok (.getfield 30, 3) := by decide +kernel
theorem d_Model_clean_59 : decode b_Model_clean 59 = .ok (.iload_n 3, 1) := by decide +kernel
theorem d_Model_clean_60 : decode b_Model_clean 60 = .ok (.iaload, 1) := by decide +kernel
theorem d_Model_clean_61 : decode b_Model_clean 61 = .ok (.aload_n 0, 1) := by decide +kernel
theorem d_Model_clean_62 : decode b_Model_clean 62 = .ok (.getfield 30, 3) := by decide +kernel
theorem d_Model_clean_65 : decode b_Model_clean 65 = .ok (.iload_n 2, 1) := by decide +kernel
theorem d_Model_clean_66 : decode b_Model_clean 66 = .ok (.iaload, 1) := by decide +kernel
theorem d_Model_clean_67 : decode b_Model_clean 67 = .ok (.if_icmp .ge 5, 3) := by decide +kernel
theorem d_Model_clean_70 : decode b_Model_clean 70 = .ok (.iload_n 3, 1) := by decide +kernel
theorem d_Model_clean_71 : decode b_Model_clean 71 = .ok (.istore_n 2, 1) := by decide +kernel
theorem d_Model_clean_72 : decode b_Model_clean 72 = .ok (.iinc 3 1, 3) := by decide +kernel
theorem d_Model_clean_75 : decode b_Model_clean 75 = .ok (.goto (-39), 3) := by decide +kernel
theorem d_Model_clean_78 : decode b_Model_clean 78 = .ok (.sipush 4095, 3) := by decide +kernel
theorem d_Model_clean_81 : decode b_Model_clean 81 = .ok (.istore_n 3, 1) := by decide +kernel
theorem d_Model_clean_82 : decode b_Model_clean 82 = .ok (.iload_n 3, 1) := by decide +kernel
theorem d_Model_clean_83 : decode b_Model_clean 83 = .ok (.ifCond .lt 51, 3) := by decide +kernel
theorem d_Model_clean_86 : decode b_Model_clean 86 = .ok (.iload_n 1, 1) := by decide +kernel
theorem d_Model_clean_87 : decode b_Model_clean 87 = .ok (.aload_n 0, 1) := by decide +kernel
theorem d_Model_clean_88 : decode b_Model_clean 88 = .ok (.getfield 13, 3) := by decide +kernel
theorem d_Model_clean_91 : decode b_Model_clean 91 = .ok (.if_icmp .le 43, 3) := by decide +kernel
theorem d_Model_clean_94 : decode b_Model_clean 94 = .ok (.aload_n 0, 1) := by decide +kernel
theorem d_Model_clean_95 : decode b_Model_clean 95 = .ok (.getfield 26, 3) := by decide +kernel
theorem d_Model_clean_98 : decode b_Model_clean 98 = .ok (.sipush 4096, 3) := by decide +kernel
theorem d_Model_clean_101 : decode b_Model_clean 101 = .ok (.iload_n 2, 1) := by decide +kernel
theorem d_Model_clean_102 : decode b_Model_clean 102 = .ok (.imul, 1) := by decide +kernel
theorem d_Model_clean_103 : decode b_Model_clean 103 = .ok (.iload_n 3, 1) := by decide +kernel
theorem d_Model_clean_104 : decode b_Model_clean 104 = .ok (.iadd, 1) := by decide +kernel
theorem d_Model_clean_105 : decode b_Model_clean 105 = .ok (.baload, 1) := by decide +kernel
theorem d_Model_clean_106 : decode b_Model_clean 106 = .ok (.ifCond .ne 6, 3) := by decide +kernel
theorem d_Model_clean_109 : decode b_Model_clean 109 = .ok (.goto 19, 3) := by decide +kernel
theorem d_Model_clean_112 : decode b_Model_clean 112 = .ok (.aload_n 0, 1) := by decide +kernel
theorem d_Model_clean_113 : decode b_Model_clean 113 = .ok (.getfield 26, 3) := by decide +kernel
theorem d_Model_clean_116 : decode b_Model_clean 116 = .ok (.sipush 4096, 3) := by decide +kernel
theorem d_Model_clean_119 : decode b_Model_clean 119 = .ok (.iload_n 2, 1) := by decide +kernel
theorem d_Model_clean_120 : decode b_Model_clean 120 = .ok (.imul, 1) := by decide +kernel
theorem d_Model_clean_121 : decode b_Model_clean 121 = .ok (.iload_n 3, 1) := by decide +kernel
theorem d_Model_clean_122 : decode b_Model_clean 122 = .ok (.iadd, 1) := by decide +kernel
theorem d_Model_clean_123 : decode b_Model_clean 123 = .ok (.iconst 0, 1) := by decide +kernel
theorem d_Model_clean_124 : decode b_Model_clean 124 = .ok (.bastore, 1) := by decide +kernel
theorem d_Model_clean_125 : decode b_Model_clean 125 = .ok (.iinc 1 (-1), 3) := by decide +kernel
theorem d_Model_clean_128 : decode b_Model_clean 128 = .ok (.iinc 3 (-1), 3) := by decide +kernel
theorem d_Model_clean_131 : decode b_Model_clean 131 = .ok (.goto (-49), 3) := by decide +kernel
theorem d_Model_clean_134 : decode b_Model_clean 134 = .ok (.goto (-110), 3) := by decide +kernel
theorem d_Model_clean_137 : decode b_Model_clean 137 = .ok (.return_, 1) := by decide +kernel
theorem d_Model_got_0 : decode b_Model_got 0 = .ok (.aload_n 0, 1) := by decide +kernel
theorem d_Model_got_1 : decode b_Model_got 1 = .ok (.iconst 0, 1) := by decide +kernel
theorem d_Model_got_2 : decode b_Model_got 2 = .ok (.putfield 57, 3) := by decide +kernel
theorem d_Model_got_5 : decode b_Model_got 5 = .ok (.aload_n 0, 1) := by decide +kernel
theorem d_Model_got_6 : decode b_Model_got 6 = .ok (.iload_n 1, 1) := by decide +kernel
theorem d_Model_got_7 : decode b_Model_got 7 = .ok (.invokevirtual 80, 3) := by decide +kernel
theorem d_Model_got_10 : decode b_Model_got 10 = .ok (.ifCond .eq 33, 3) := by decide +kernel
theorem d_Model_got_13 : decode b_Model_got 13 = .ok (.aload_n 0, 1) := by decide +kernel
theorem d_Model_got_14 : decode b_Model_got 14 = .ok (.getfield 23, 3) := by decide +kernel
theorem d_Model_got_17 : decode b_Model_got 17 = .ok (.iload_n 1, 1) := by decide +kernel
theorem d_Model_got_18 : decode b_Model_got 18 = .ok (.iaload, 1) := by decide +kernel
theorem d_Model_got_19 : decode b_Model_got 19 = .ok (.iload 4, 2) := by decide +kernel
theorem d_Model_got_21 : decode b_Model_got 21 = .ok (.if_icmp .ne 22, 3) := by decide +kernel
theorem d_Model_got_24 : decode b_Model_got 24 = .ok (.iload_n 2, 1) := by decide +kernel
theorem d_Model_got_25 : decode b_Model_got 25 = .ok (.ifCond .lt 18, 3) := by decide +kernel
theorem d_Model_got_28 : decode b_Model_got 28 = .ok (.iload_n 2, 1) := by decide +kernel
theorem d_Model_got_29 : decode b_Model_got 29 = .ok (.iload_n 3, 1) := by decide +kernel
theorem d_Model_got_30 : decode b_Model_got 30 = .ok (.if_icmp .gt 13, 3) := by decide +kernel
theorem d_Model_got_33 : decode b_Model_got 33 = .ok (.iload_n 3, 1) := by decide +kernel
theorem d_Model_got_34 : decode b_Model_got 34 = .ok (.aload_n 0, 1) := by decide +kernel
theorem d_Model_got_35 : decode b_Model_got 35 = .ok (.getfield 20, 3) := by decide +kernel
theorem d_Model_got_38 : decode b_Model_got 38 = .ok (.iload_n 1, 1) := by decide +kernel
theorem d_Model_got_39 : decode b_Model_got 39 = .ok (.iaload, 1) := by decide +kernel
theorem d_Model_got_40 : decode b_Model_got 40 = .ok (.if_icmp .lt 5, 3) := by decide +kernel
theorem d_Model_got_43 : decode b_Model_got 43 = .ok (.iconst (-1), 1) := by decide +kernel
theorem d_Model_got_44 : decode b_Model_got 44 = .ok (.ireturn, 1) := by decide +kernel
theorem d_Model_got_45 : decode b_Model_got 45 = .ok (.iconst 0, 1) := by decide +kernel
theorem d_Model_got_46 : decode b_Model_got 46 = .ok (.istore 5, 2) := by decide +kernel
theorem d_Model_got_48 : decode b_Model_got 48 = .ok (.iload_n 2, 1) := by decide +kernel
theorem d_Model_got_49 : decode b_Model_got 49 = .ok (.istore 6, 2) := by decide +kernel
theorem d_Model_got_51 : decode b_Model_got 51 = .ok (.iload 6, 2) := by decide +kernel
theorem d_Model_got_53 : decode b_Model_got 53 = .ok (.iload_n 3, 1) := by decide +kernel
theorem d_Model_got_54 : decode b_Model_got 54 = .ok (.if_icmp .gt 49, 3) := by decide +kernel
theorem d_Model_got_57 : decode b_Model_got 57 = .ok (.iload 5, 2) := by decide +kernel
theorem d_Model_got_59 : decode b_Model_got 59 = .ok (.aload_n 0, 1) := by decide +kernel
theorem d_Model_got_60 : decode b_Model_got 60 = .ok (.getfield 26, 3) := by decide +kernel
theorem d_Model_got_63 : decode b_Model_got 63 = .ok (.sipush 4096, 3) := by decide +kernel
theorem d_Model_got_66 : decode b_Model_got 66 = .ok (.iload_n 1, 1) := by decide +kernel
theorem d_Model_got_67 : decode b_Model_got 67 = .ok (.imul, 1) := by decide +kernel
theorem d_Model_got_68 : decode b_Model_got 68 = .ok (.iload 6, 2) := by decide +kernel
theorem d_Model_got_70 : decode b_Model_got 70 = .ok (.iadd, 1) := by decide +kernel
theorem d_Model_got_71 : decode b_Model_got 71 = .ok (.baload, 1) := by decide +kernel
theorem d_Model_got_72 : decode b_Model_got 72 = .ok (.ifCond .eq 7, 3) := by decide +kernel
theorem d_Model_got_75 : decode b_Model_got 75 = .ok (.iconst 0, 1) := by decide +kernel
theorem d_Model_got_76 : decode b_Model_got 76 = .ok (.goto 4, 3) := by decide +kernel
theorem d_Model_got_79 : decode b_Model_got 79 = .ok (.iconst 1, 1) := by decide +kernel
theorem d_Model_got_80 : decode b_Model_got 80 = .ok (.iadd, 1) := by decide +kernel
theorem d_Model_got_81 : decode b_Model_got 81 = .ok (.istore 5, 2) := by decide +kernel
theorem d_Model_got_83 : decode b_Model_got 83 = .ok (.aload_n 0, 1) := by decide +kernel
theorem d_Model_got_84 : decode b_Model_got 84 = .ok (.getfield 26, 3) := by decide +kernel
theorem d_Model_got_87 : decode b_Model_got 87 = .ok (.sipush 4096, 3) := by decide +kernel
theorem d_Model_got_90 : decode b_Model_got 90 = .ok (.iload_n 1, 1) := by decide +kernel
theorem d_Model_got_91 : decode b_Model_got 91 = .ok (.imul, 1) := by decide +kernel
theorem d_Model_got_92 : decode b_Model_got 92 = .ok (.iload 6, 2) := by decide +kernel
theorem d_Model_got_94 : decode b_Model_got 94 = .ok (.iadd, 1) := by decide +kernel
theorem d_Model_got_95 : decode b_Model_got 95 = .ok (.iconst 1, 1) := by decide +kernel
theorem d_Model_got_96 : decode b_Model_got 96 = .ok (.bastore, 1) := by decide +kernel
theorem d_Model_got_97 : decode b_Model_got 97 = .ok (.iinc 6 1, 3) := by decide +kernel
theorem d_Model_got_100 : decode b_Model_got 100 = .ok (.goto (-49), 3) := by decide +kernel
theorem d_Model_got_103 : decode b_Model_got 103 = .ok (.aload_n 0, 1) := by decide +kernel
theorem d_Model_got_104 : decode b_Model_got 104 = .ok (.iload_n 1, 1) := by decide +kernel
theorem d_Model_got_105 : decode b_Model_got 105 = .ok (.invokevirtual 83, 3) := by decide +kernel
theorem d_Model_got_108 : decode b_Model_got 108 = .ok (.aload_n 0, 1) := by decide +kernel
theorem d_Model_got_109 : decode b_Model_got 109 = .ok (.invokevirtual 86, 3) := by decide +kernel
theorem d_Model_got_112 : decode b_Model_got 112 = .ok (.iload 5, 2) := by decide +kernel
theorem d_Model_got_114 : decode b_Model_got 114 = .ok (.ireturn, 1) := by decide +kernel
theorem d_Model_set_0 : decode b_Model_set 0 = .ok (.aload_n 0, 1) := by decide +kernel
theorem d_Model_set_1 : decode b_Model_set 1 = .ok (.iconst 0, 1) := by decide +kernel
theorem d_Model_set_2 : decode b_Model_set 2 = .ok (.putfield 57, 3) := by decide +kernel
theorem d_Model_set_5 : decode b_Model_set 5 = .ok (.iload_n 1, 1) := by decide +kernel
theorem d_Model_set_6 : decode b_Model_set 6 = .ok (.ifCond .lt 29, 3) := by decide +kernel
theorem d_Model_set_9 : decode b_Model_set 9 = .ok (.iload_n 1, 1) := by decide +kernel
theorem d_Model_set_10 : decode b_Model_set 10 = .ok (.iconst 1, 1) := by decide +kernel
theorem d_Model_set_11 : decode b_Model_set 11 = .ok (.if_icmp .gt 24, 3) := by decide +kernel
theorem d_Model_set_14 : decode b_Model_set 14 = .ok (.iload_n 2, 1) := by decide +kernel
theorem d_Model_set_15 : decode b_Model_set 15 = .ok (.ifCond .lt 20, 3) := by decide +kernel
theorem d_Model_set_18 : decode b_Model_set 18 = .ok (.iload_n 2, 1) := by decide +kernel
theorem d_Model_set_19 : decode b_Model_set 19 = .ok (.iload_n 1, 1) := by decide +kernel
theorem d_Model_set_20 : decode b_Model_set 20 = .ok (.ifCond .ne 9, 3) := by decide +kernel
theorem d_Model_set_23 : decode b_Model_set 23 = .ok (.sipush 20000, 3) := by decide +kernel
theorem d_Model_set_26 : decode b_Model_set 26 = .ok (.goto 6, 3) := by decide +kernel
theorem d_Model_set_29 : decode b_Model_set 29 = .ok (.sipush 1000, 3) := by decide +kernel
theorem d_Model_set_32 : decode b_Model_set 32 = .ok (.if_icmp .le 5, 3) := by decide +kernel
theorem d_Model_set_35 : decode b_Model_set 35 = .ok (.iconst 0, 1) := by decide +kernel
theorem d_Model_set_36 : decode b_Model_set 36 = .ok (.ireturn, 1) := by decide +kernel
theorem d_Model_set_37 : decode b_Model_set 37 = .ok (.iload_n 1, 1) := by decide +kernel
theorem d_Model_set_38 : decode b_Model_set 38 = .ok (.iconst 1, 1) := by decide +kernel
theorem d_Model_set_39 : decode b_Model_set 39 = .ok (.if_icmp .ne 10, 3) := by decide +kernel
theorem d_Model_set_42 : decode b_Model_set 42 = .ok (.aload_n 0, 1) := by decide +kernel
theorem d_Model_set_43 : decode b_Model_set 43 = .ok (.iload_n 2, 1) := by decide +kernel
theorem d_Model_set_44 : decode b_Model_set 44 = .ok (.putfield 17, 3) := by decide +kernel
theorem d_Model_set_47 : decode b_Model_set 47 = .ok (.iconst 1, 1) := by decide +kernel
theorem d_Model_set_48 : decode b_Model_set 48 = .ok (.ireturn, 1) := by decide +kernel
theorem d_Model_set_49 : decode b_Model_set 49 = .ok (.aload_n 0, 1) := by decide +kernel
theorem d_Model_set_50 : decode b_Model_set 50 = .ok (.iload_n 2, 1) := by decide +kernel
theorem d_Model_set_51 : decode b_Model_set 51 = .ok (.putfield 13, 3) := by decide +kernel
theorem d_Model_set_54 : decode b_Model_set 54 = .ok (.aload_n 0, 1) := by decide +kernel
theorem d_Model_set_55 : decode b_Model_set 55 = .ok (.invokevirtual 86, 3) := by decide +kernel
theorem d_Model_set_58 : decode b_Model_set 58 = .ok (.iconst 1, 1) := by decide +kernel
theorem d_Model_set_59 : decode b_Model_set 59 = .ok (.ireturn, 1) := by decide +kernel
theorem d_Model_see_0 : decode b_Model_see 0 = .ok (.iload_n 1, 1) := by decide +kernel
theorem d_Model_see_1 : decode b_Model_see 1 = .ok (.aload_n 0, 1) := by decide +kernel
theorem d_Model_see_2 : decode b_Model_see 2 = .ok (.getfield 64, 3) := by decide +kernel
theorem d_Model_see_5 : decode b_Model_see 5 = .ok (.if_icmp .ge 12, 3) := by decide +kernel
theorem d_Model_see_8 : decode b_Model_see 8 = .ok (.aload_n 0, 1) := by decide +kernel
theorem d_Model_see_9 : decode b_Model_see 9 = .ok (.getfield 7, 3) := by decide +kernel
theorem d_Model_see_12 : decode b_Model_see 12 = .ok (.iload_n 1, 1) := by decide +kernel
theorem d_Model_see_13 : decode b_Model_see 13 = .ok (.iaload, 1) := by decide +kernel
theorem d_Model_see_14 : decode b_Model_see 14 = .ok (.goto 4, 3) := by decide +kernel
theorem d_Model_see_17 : decode b_Model_see 17 = .ok (.iconst 0, 1) := by decide +kernel
theorem d_Model_see_18 : decode b_Model_see 18 = .ok (.ireturn, 1) := by decide +kernel
theorem d_Model_isDigit_0 : decode b_Model_isDigit 0 = .ok (.iload_n 0, 1) := by decide +kernel
theorem d_Model_isDigit_1 : decode b_Model_isDigit 1 = .ok (.bipush 48, 2) := by decide +kernel
theorem d_Model_isDigit_3 : decode b_Model_isDigit 3 = .ok (.if_icmp .lt 13, 3) := by decide +kernel
theorem d_Model_isDigit_6 : decode b_Model_isDigit 6 = .ok (.iload_n 0, 1) := by decide +kernel
theorem d_Model_isDigit_7 : decode b_Model_isDigit 7 = .ok (.bipush 57, 2) := by decide +kernel
theorem d_Model_isDigit_9 : decode b_Model_isDigit 9 = .ok (.if_icmp .gt 7, 3) := by decide +kernel
theorem d_Model_isDigit_12 : decode b_Model_isDigit 12 = .ok (.iconst 1, 1) := by decide +kernel
theorem d_Model_isDigit_13 : decode b_Model_isDigit 13 = .ok (.goto 4, 3) := by decide +kernel
theorem d_Model_isDigit_16 : decode b_Model_isDigit 16 = .ok (.iconst 0, 1) := by decide +kernel
theorem d_Model_isDigit_17 : decode b_Model_isDigit 17 = .ok (.ireturn, 1) := by decide +kernel
theorem d_Model_number_0 : decode b_Model_number 0 = .ok (.iconst 0, 1) := by decide +kernel
theorem d_Model_number_1 : decode b_Model_number 1 = .ok (.istore_n 1, 1) := by decide +kernel
theorem d_Model_number_2 : decode b_Model_number 2 = .ok (.iconst 0, 1) := by decide +kernel
theorem d_Model_number_3 : decode b_Model_number 3 = .ok (.istore_n 2, 1) := by decide +kernel
theorem d_Model_number_4 : decode b_Model_number 4 = .ok (.aload_n 0, 1) := by decide +kernel
theorem d_Model_number_5 : decode b_Model_number 5 = .ok (.aload_n 0, 1) := by decide +kernel
theorem d_Model_number_6 : decode b_Model_number 6 = .ok (.getfield 89, 3) := by decide +kernel
theorem d_Model_number_9 : decode b_Model_number 9 = .ok (.invokevirtual 92, 3) := by decide +kernel
theorem d_Model_number_12 : decode b_Model_number 12 = .ok (.invokestatic 95, 3) := by decide +kernel
theorem d_Model_number_15 : decode b_Model_number 15 = .ok (.ifCond .eq 41, 3) := by decide +kernel
theorem d_Model_number_18 : decode b_Model_number 18 = .ok (.iload_n 2, 1) := by decide +kernel
theorem d_Model_number_19 : decode b_Model_number 19 = .ok (.iconst 5, 1) := by decide +kernel
theorem d_Model_number_20 : decode b_Model_number 20 = .ok (.if_icmp .ge 20, 3) := by decide +kernel
theorem d_Model_number_23 : decode b_Model_number 23 = .ok (.bipush 10, 2) := by decide +kernel
theorem d_Model_number_25 : decode b_Model_number 25 = .ok (.iload_n 1, 1) := by decide +kernel
theorem d_Model_number_26 : decode b_Model_number 26 = .ok (.imul, 1) := by decide +kernel
theorem d_Model_number_27 : decode b_Model_number 27 = .ok (.aload_n 0, 1) := by decide +kernel
theorem d_Model_number_28 : decode b_Model_number 28 = .ok (.aload_n 0, 1) := by decide +kernel
theorem d_Model_number_29 : decode b_Model_number 29 = .ok (.getfield 89, 3) := by decide +kernel
theorem d_Model_number_32 : decode b_Model_number 32 = .ok (.invokevirtual 92, 3) := by decide +kernel
theorem d_Model_number_35 : decode b_Model_number 35 = .ok (.iadd, 1) := by decide +kernel
theorem d_Model_number_36 : decode b_Model_number 36 = .ok (.bipush 48, 2) := by decide +kernel
theorem d_Model_number_38 : decode b_Model_number 38 = .ok (.isub, 1) := by decide +kernel
theorem d_Model_number_39 : decode b_Model_number 39 = .ok (.istore_n 1, 1) := by decide +kernel
theorem d_Model_number_40 : decode b_Model_number 40 = .ok (.aload_n 0, 1) := by decide +kernel
theorem d_Model_number_41 : decode b_Model_number 41 = .ok (.dup, 1) := by decide +kernel
theorem d_Model_number_42 : decode b_Model_number 42 = .ok (.getfield 89, 3) := by decide +kernel
theorem d_Model_number_45 : decode b_Model_number 45 = .ok (.iconst 1, 1) := by decide +kernel
theorem d_Model_number_46 : decode b_Model_number 46 = .ok (.iadd, 1) := by decide +kernel
theorem d_Model_number_47 : decode b_Model_number 47 = .ok (.putfield 89, 3) := by decide +kernel
theorem d_Model_number_50 : decode b_Model_number 50 = .ok (.iinc 2 1, 3) := by decide +kernel
theorem d_Model_number_53 : decode b_Model_number 53 = .ok (.goto (-49), 3) := by decide +kernel
theorem d_Model_number_56 : decode b_Model_number 56 = .ok (.iload_n 2, 1) := by decide +kernel
theorem d_Model_number_57 : decode b_Model_number 57 = .ok (.ifCond .eq 8, 3) := by decide +kernel
theorem d_Model_number_60 : decode b_Model_number 60 = .ok (.iload_n 2, 1) := by decide +kernel
theorem d_Model_number_61 : decode b_Model_number 61 = .ok (.iconst 5, 1) := by decide +kernel
theorem d_Model_number_62 : decode b_Model_number 62 = .ok (.if_icmp .le 7, 3) := by decide +kernel
theorem d_Model_number_65 : decode b_Model_number 65 = .ok (.iconst (-1), 1) := by decide +kernel
theorem d_Model_number_66 : decode b_Model_number 66 = .ok (.goto 4, 3) := by decide +kernel
theorem d_Model_number_69 : decode b_Model_number 69 = .ok (.iload_n 1, 1) := by decide +kernel
theorem d_Model_number_70 : decode b_Model_number 70 = .ok (.ireturn, 1) := by decide +kernel
theorem d_Model_part_0 : decode b_Model_part 0 = .ok (.aload_n 0, 1) := by decide +kernel
theorem d_Model_part_1 : decode b_Model_part 1 = .ok (.getfield 98, 3) := by decide +kernel
theorem d_Model_part_4 : decode b_Model_part 4 = .ok (.bipush 6, 2) := by decide +kernel
theorem d_Model_part_6 : decode b_Model_part 6 = .ok (.if_icmp .ne 5, 3) := by decide +kernel
theorem d_Model_part_9 : decode b_Model_part 9 = .ok (.iconst 0, 1) := by decide +kernel
theorem d_Model_part_10 : decode b_Model_part 10 = .ok (.ireturn, 1) := by decide +kernel
theorem d_Model_part_11 : decode b_Model_part 11 = .ok (.iconst 0, 1) := by decide +kernel
theorem d_Model_part_12 : decode b_Model_part 12 = .ok (.istore_n 2, 1) := by decide +kernel
theorem d_Model_part_13 : decode b_Model_part 13 = .ok (.iload_n 1, 1) := by decide +kernel
theorem d_Model_part_14 : decode b_Model_part 14 = .ok (.iconst 1, 1) := by decide +kernel
theorem d_Model_part_15 : decode b_Model_part 15 = .ok (.isub, 1) := by decide +kernel
theorem d_Model_part_16 : decode b_Model_part 16 = .ok (.istore_n 3, 1) := by decide +kernel
theorem d_Model_part_17 : decode b_Model_part 17 = .ok (.aload_n 0, 1) := by decide +kernel
theorem d_Model_part_18 : decode b_Model_part 18 = .ok (.aload_n 0, 1) := by decide +kernel
theorem d_Model_part_19 : decode b_Model_part 19 = .ok (.getfield 89, 3) := by decide +kernel
theorem d_Model_part_22 : decode b_Model_part 22 = .ok (.invokevirtual 92, 3) := by decide +kernel
theorem d_Model_part_25 : decode b_Model_part 25 = .ok (.bipush 45, 2) := by decide +kernel
theorem d_Model_part_27 : decode b_Model_part 27 = .ok (.if_icmp .ne 45, 3) := by decide +kernel
theorem d_Model_part_30 : decode b_Model_part 30 = .ok (.aload_n 0, 1) := by decide +kernel
theorem d_Model_part_31 : decode b_Model_part 31 = .ok (.dup, 1) := by decide +kernel
theorem d_Model_part_32 : decode b_Model_part 32 = .ok (.getfield 89, 3) := by decide +kernel
theorem d_Model_part_35 : decode b_Model_part 35 = .ok (.iconst 1, 1) := by decide +kernel
theorem d_Model_part_36 : decode b_Model_part 36 = .ok (.iadd, 1) := by decide +kernel
theorem d_Model_part_37 : decode b_Model_part 37 = .ok (.putfield 89, 3) := by decide +kernel
theorem d_Model_part_40 : decode b_Model_part 40 = .ok (.aload_n 0, 1) := by decide +kernel
theorem d_Model_part_41 : decode b_Model_part 41 = .ok (.invokevirtual 101, 3) := by decide +kernel
theorem d_Model_part_44 : decode b_Model_part 44 = .ok (.istore 4, 2) := by decide +kernel
theorem d_Model_part_46 : decode b_Model_part 46 = .ok (.iload 4, 2) := by decide +kernel
theorem d_Model_part_48 : decode b_Model_part 48 = .ok (.iconst (-1), 1) := by decide +kernel
theorem d_Model_part_49 : decode b_Model_part 49 = .ok (.if_icmp .ne 5, 3) := by decide +kernel
theorem d_Model_part_52 : decode b_Model_part 52 = .ok (.iconst 0, 1) := by decide +kernel
theorem d_Model_part_53 : decode b_Model_part 53 = .ok (.ireturn, 1) := by decide +kernel
theorem d_Model_part_54 : decode b_Model_part 54 = .ok (.iload 4, 2) := by decide +kernel
theorem d_Model_part_56 : decode b_Model_part 56 = .ok (.iload_n 1, 1) := by decide +kernel
theorem d_Model_part_57 : decode b_Model_part 57 = .ok (.if_icmp .ge 10, 3) := by decide +kernel
theorem d_Model_part_60 : decode b_Model_part 60 = .ok (.iload_n 1, 1) := by decide +kernel
theorem d_Model_part_61 : decode b_Model_part 61 = .ok (.iload 4, 2) := by decide +kernel
theorem d_Model_part_63 : decode b_Model_part 63 = .ok (.isub, 1) := by decide +kernel
theorem d_Model_part_64 : decode b_Model_part 64 = .ok (.goto 4, 3) := by decide +kernel
theorem d_Model_part_67 : decode b_Model_part 67 = .ok (.iconst 0, 1) := by decide +kernel
theorem d_Model_part_68 : decode b_Model_part 68 = .ok (.istore_n 2, 1) := by decide +kernel
theorem d_Model_part_69 : decode b_Model_part 69 = .ok (.goto 85, 3) := by decide +kernel
theorem d_Model_part_72 : decode b_Model_part 72 = .ok (.aload_n 0, 1) := by decide +kernel
theorem d_Model_part_73 : decode b_Model_part 73 = .ok (.invokevirtual 101, 3) := by decide +kernel
theorem d_Model_part_76 : decode b_Model_part 76 = .ok (.istore_n 2, 1) := by decide +kernel
theorem d_Model_part_77 : decode b_Model_part 77 = .ok (.iload_n 2, 1) := by decide +kernel
theorem d_Model_part_78 : decode b_Model_part 78 = .ok (.iconst (-1), 1) := by decide +kernel
theorem d_Model_part_79 : decode b_Model_part 79 = .ok (.if_icmp .eq 16, 3) := by decide +kernel
theorem d_Model_part_82 : decode b_Model_part 82 = .ok (.aload_n 0, 1) := by decide +kernel
theorem d_Model_part_83 : decode b_Model_part 83 = .ok (.aload_n 0, 1) := by decide +kernel
theorem d_Model_part_84 : decode b_Model_part 84 = .ok (.getfield 89, 3) := by decide +kernel
theorem d_Model_part_87 : decode b_Model_part 87 = .ok (.invokevirtual 92, 3) := by decide +kernel
theorem d_Model_part_90 : decode b_Model_part 90 = .ok (.bipush 45, 2) := by decide +kernel
theorem d_Model_part_92 : decode b_Model_part 92 = .ok (.if_icmp .eq 5, 3) := by decide +kernel
theorem d_Model_part_95 : decode b_Model_part 95 = .ok (.iconst 0, 1) := by decide +kernel
theorem d_Model_part_96 : decode b_Model_part 96 = .ok (.ireturn, 1) := by decide +kernel
theorem d_Model_part_97 : decode b_Model_part 97 = .ok (.aload_n 0, 1) := by decide +kernel
theorem d_Model_part_98 : decode b_Model_part 98 = .ok (.dup, 1) := by decide +kernel
theorem d_Model_part_99 : decode b_Model_part 99 = .ok (.getfield 89, 3) := by decide +kernel
theorem d_Model_part_102 : decode b_Model_part 102 = .ok (.iconst 1, 1) := by decide +kernel
theorem d_Model_part_103 : decode b_Model_part 103 = .ok (.iadd, 1) := by decide +kernel
theorem d_Model_part_104 : decode b_Model_part 104 = .ok (.putfield 89, 3) := by decide +kernel
theorem d_Model_part_107 : decode b_Model_part 107 = .ok (.aload_n 0, 1) := by decide +kernel
theorem d_Model_part_108 : decode b_Model_part 108 = .ok (.aload_n 0, 1) := by decide +kernel
theorem d_Model_part_109 : decode b_Model_part 109 = .ok (.getfield 89, 3) := by decide +kernel
theorem d_Model_part_112 : decode b_Model_part 112 = .ok (.invokevirtual 92, 3) := by decide +kernel
theorem d_Model_part_115 : decode b_Model_part 115 = .ok (.invokestatic 95, 3) := by decide +kernel
theorem d_Model_part_118 : decode b_Model_part 118 = .ok (.ifCond .eq 36, 3) := by decide +kernel
theorem d_Model_part_121 : decode b_Model_part 121 = .ok (.aload_n 0, 1) := by decide +kernel
theorem d_Model_part_122 : decode b_Model_part 122 = .ok (.invokevirtual 101, 3) := by decide +kernel
theorem d_Model_part_125 : decode b_Model_part 125 = .ok (.istore 4, 2) := by decide +kernel
theorem d_Model_part_127 : decode b_Model_part 127 = .ok (.iload 4, 2) := by decide +kernel
theorem d_Model_part_129 : decode b_Model_part 129 = .ok (.iconst (-1), 1) := by decide +kernel
theorem d_Model_part_130 : decode b_Model_part 130 = .ok (.if_icmp .eq 9, 3) := by decide +kernel
theorem d_Model_part_133 : decode b_Model_part 133 = .ok (.iload 4, 2) := by decide +kernel
theorem d_Model_part_135 : decode b_Model_part 135 = .ok (.iload_n 2, 1) := by decide +kernel
theorem d_Model_part_136 : decode b_Model_part 136 = .ok (.if_icmp .ge 5, 3) := by decide +kernel
theorem d_Model_part_139 : decode b_Model_part 139 = .ok (.iconst 0, 1) := by decide +kernel
theorem d_Model_part_140 : decode b_Model_part 140 = .ok (.ireturn, 1) := by decide +kernel
theorem d_Model_part_141 : decode b_Model_part 141 = .ok (.iload 4, 2) := by decide +kernel
theorem d_Model_part_143 : decode b_Model_part 143 = .ok (.iload_n 3, 1) := by decide +kernel
theorem d_Model_part_144 : decode b_Model_part 144 = .ok (.if_icmp .ge 8, 3) := by decide +kernel
theorem d_Model_part_147 : decode b_Model_part 147 = .ok (.iload 4, 2) := by decide +kernel
theorem d_Model_part_149 : decode b_Model_part 149 = .ok (.goto 4, 3) := by decide +kernel
theorem d_Model_part_152 : decode b_Model_part 152 = .ok (.iload_n 3, 1) := by decide +kernel
theorem d_Model_part_153 : decode b_Model_part 153 = .ok (.istore_n 3, 1) := by decide +kernel
theorem d_Model_part_154 : decode b_Model_part 154 = .ok (.aload_n 0, 1) := by decide +kernel
theorem d_Model_part_155 : decode b_Model_part 155 = .ok (.getfield 33, 3) := by decide +kernel
theorem d_Model_part_158 : decode b_Model_part 158 = .ok (.aload_n 0, 1) := by decide +kernel
theorem d_Model_part_159 : decode b_Model_part 159 = .ok (.getfield 98, 3) := by decide +kernel
theorem d_Model_part_162 : decode b_Model_part 162 = .ok (.iload_n 2, 1) := by decide +kernel
theorem d_Model_part_163 : decode b_Model_part 163 = .ok (.iastore, 1) := by decide +kernel
theorem d_Model_part_164 : decode b_Model_part 164 = .ok (.aload_n 0, 1) := by decide +kernel
theorem d_Model_part_165 : decode b_Model_part 165 = .ok (.getfield 36, 3) := by decide +kernel
theorem d_Model_part_168 : decode b_Model_part 168 = .ok (.aload_n 0, 1) := by decide +kernel
theorem d_Model_part_169 : decode b_Model_part 169 = .ok (.getfield 98, 3) := by decide +kernel
theorem d_Model_part_172 : decode b_Model_part 172 = .ok (.iload_n 3, 1) := by decide +kernel
theorem d_Model_part_173 : decode b_Model_part 173 = .ok (.iastore, 1) := by decide +kernel
theorem d_Model_part_174 : decode b_Model_part 174 = .ok (.aload_n 0, 1) := by decide +kernel
theorem d_Model_part_175 : decode b_Model_part 175 = .ok (.dup, 1) := by decide +kernel
theorem d_Model_part_176 : decode b_Model_part 176 = .ok (.getfield 98, 3) := by decide +kernel
theorem d_Model_part_179 : decode b_Model_part 179 = .ok (.iconst 1, 1) := by decide +kernel
theorem d_Model_part_180 : decode b_Model_part 180 = .ok (.iadd, 1) := by decide +kernel
theorem d_Model_part_181 : decode b_Model_part 181 = .ok (.putfield 98, 3) := by decide +kernel
theorem d_Model_part_184 : decode b_Model_part 184 = .ok (.iconst 1, 1) := by decide +kernel
theorem d_Model_part_185 : decode b_Model_part 185 = .ok (.ireturn, 1) := by decide +kernel
theorem d_Model_prefix_0 : decode b_Model_prefix 0 = .ok (.iload_n 0, 1) := by decide +kernel
theorem d_Model_prefix_1 : decode b_Model_prefix 1 = .ok (.ifCond .ne 8, 3) := by decide +kernel
theorem d_Model_prefix_4 : decode b_Model_prefix 4 = .ok (.bipush 98, 2) := by decide +kernel
theorem d_Model_prefix_6 : decode b_Model_prefix 6 = .ok (.goto 45, 3) := by decide +kernel
theorem d_Model_prefix_9 : decode b_Model_prefix 9 = .ok (.iload_n 0, 1) := by decide +kernel
theorem d_Model_prefix_10 : decode b_Model_prefix 10 = .ok (.iconst 1, 1) := by decide +kernel
theorem d_Model_prefix_11 : decode b_Model_prefix 11 = .ok (.if_icmp .ne 8, 3) := by decide +kernel
theorem d_Model_prefix_14 : decode b_Model_prefix 14 = .ok (.bipush 121, 2) := by decide +kernel
theorem d_Model_prefix_16 : decode b_Model_prefix 16 = .ok (.goto 35, 3) := by decide +kernel
theorem d_Model_prefix_19 : decode b_Model_prefix 19 = .ok (.iload_n 0, 1) := by decide +kernel
theorem d_Model_prefix_20 : decode b_Model_prefix 20 = .ok (.iconst 2, 1) := by decide +kernel
theorem d_Model_prefix_21 : decode b_Model_prefix 21 = .ok (.if_icmp .ne 8, 3) := by decide +kernel
theorem d_Model_prefix_24 : decode b_Model_prefix 24 = .ok (.bipush 116, 2) := by decide +kernel
theorem d_Model_prefix_26 : decode b_Model_prefix 26 = .ok (.goto 25, 3) := by decide +kernel
theorem d_Model_prefix_29 : decode b_Model_prefix 29 = .ok (.iload_n 0, 1) := by decide +kernel
theorem d_Model_prefix_30 : decode b_Model_prefix 30 = .ok (.iconst 3, 1) := by decide +kernel
theorem d_Model_prefix_31 : decode b_Model_prefix 31 = .ok (.if_icmp .ne 8, 3) := by decide +kernel
theorem d_Model_prefix_34 : decode b_Model_prefix 34 = .ok (.bipush 101, 2) := by decide +kernel
theorem d_Model_prefix_36 : decode b_Model_prefix 36 = .ok (.goto 15, 3) := by decide +kernel
theorem d_Model_prefix_39 : decode b_Model_prefix 39 = .ok (.iload_n 0, 1) := by decide +kernel
theorem d_Model_prefix_40 : decode b_Model_prefix 40 = .ok (.iconst 4, 1) := by decide +kernel
theorem d_Model_prefix_41 : decode b_Model_prefix 41 = .ok (.if_icmp .ne 8, 3) := by decide +kernel
theorem d_Model_prefix_44 : decode b_Model_prefix 44 = .ok (.bipush 115, 2) := by decide +kernel
theorem d_Model_prefix_46 : decode b_Model_prefix 46 = .ok (.goto 5, 3) := by decide +kernel
theorem d_Model_prefix_49 : decode b_Model_prefix 49 = .ok (.bipush 61, 2) := by decide +kernel
theorem d_Model_prefix_51 : decode b_Model_prefix 51 = .ok (.ireturn, 1) := by decide +kernel
theorem d_Model_isText_0 : decode b_Model_isText 0 = .ok (.iconst 0, 1) := by decide +kernel
theorem d_Model_isText_1 : decode b_Model_isText 1 = .ok (.istore_n 2, 1) := by decide +kernel
theorem d_Model_isText_2 : decode b_Model_isText 2 = .ok (.iload_n 2, 1) := by decide +kernel
theorem d_Model_isText_3 : decode b_Model_isText 3 = .ok (.bipush 6, 2) := by decide +kernel
theorem d_Model_isText_5 : decode b_Model_isText 5 = .ok (.if_icmp .ge 23, 3) := by decide +kernel
theorem d_Model_isText_8 : decode b_Model_isText 8 = .ok (.aload_n 0, 1) := by decide +kernel
theorem d_Model_isText_9 : decode b_Model_isText 9 = .ok (.iload_n 2, 1) := by decide +kernel
theorem d_Model_isText_10 : decode b_Model_isText 10 = .ok (.invokevirtual 92, 3) := by decide +kernel
theorem d_Model_isText_13 : decode b_Model_isText 13 = .ok (.iload_n 2, 1) := by decide +kernel
theorem d_Model_isText_14 : decode b_Model_isText 14 = .ok (.invokestatic 105, 3) := by decide +kernel
theorem d_Model_isText_17 : decode b_Model_isText 17 = .ok (.if_icmp .eq 5, 3) := by decide +kernel
theorem d_Model_isText_20 : decode b_Model_isText 20 = .ok (.iconst 0, 1) := by decide +kernel
theorem d_Model_isText_21 : decode b_Model_isText 21 = .ok (.ireturn, 1) := by decide +kernel
theorem d_Model_isText_22 : decode b_Model_isText 22 = .ok (.iinc 2 1, 3) := by decide +kernel
theorem d_Model_isText_25 : decode b_Model_isText 25 = .ok (.goto (-23), 3) := by decide +kernel
theorem d_Model_isText_28 : decode b_Model_isText 28 = .ok (.aload_n 0, 1) := by decide +kernel
theorem d_Model_isText_29 : decode b_Model_isText 29 = .ok (.bipush 6, 2) := by decide +kernel
theorem d_Model_isText_31 : decode b_Model_isText 31 = .ok (.putfield 89, 3) := by decide +kernel
theorem d_Model_isText_34 : decode b_Model_isText 34 = .ok (.aload_n 0, 1) := by decide +kernel
theorem d_Model_isText_35 : decode b_Model_isText 35 = .ok (.iconst 0, 1) := by decide +kernel
theorem d_Model_isText_36 : decode b_Model_isText 36 = .ok (.putfield 98, 3) := by decide +kernel
theorem d_Model_isText_39 : decode b_Model_isText 39 = .ok (.aload_n 0, 1) := by decide +kernel
theorem d_Model_isText_40 : decode b_Model_isText 40 = .ok (.iload_n 1, 1) := by decide +kernel
theorem d_Model_isText_41 : decode b_Model_isText 41 = .ok (.invokevirtual 108, 3) := by decide +kernel
theorem d_Model_isText_44 : decode b_Model_isText 44 = .ok (.istore_n 2, 1) := by decide +kernel
theorem d_Model_isText_45 : decode b_Model_isText 45 = .ok (.iload_n 2, 1) := by decide +kernel
theorem d_Model_isText_46 : decode b_Model_isText 46 = .ok (.ifCond .eq 35, 3) := by decide +kernel
theorem d_Model_isText_49 : decode b_Model_isText 49 = .ok (.aload_n 0, 1) := by decide +kernel
theorem d_Model_isText_50 : decode b_Model_isText 50 = .ok (.aload_n 0, 1) := by decide +kernel
theorem d_Model_isText_51 : decode b_Model_isText 51 = .ok (.getfield 89, 3) := by decide +kernel
theorem d_Model_isText_54 : decode b_Model_isText 54 = .ok (.invokevirtual 92, 3) := by decide +kernel
theorem d_Model_isText_57 : decode b_Model_isText 57 = .ok (.bipush 44, 2) := by decide +kernel
theorem d_Model_isText_59 : decode b_Model_isText 59 = .ok (.if_icmp .ne 22, 3) := by decide +kernel
theorem d_Model_isText_62 : decode b_Model_isText 62 = .ok (.aload_n 0, 1) := by decide +kernel
theorem d_Model_isText_63 : decode b_Model_isText 63 = .ok (.dup, 1) := by decide +kernel
theorem d_Model_isText_64 : decode b_Model_isText 64 = .ok (.getfield 89, 3) := by decide +kernel
theorem d_Model_isText_67 : decode b_Model_isText 67 = .ok (.iconst 1, 1) := by decide +kernel
theorem d_Model_isText_68 : decode b_Model_isText 68 = .ok (.iadd, 1) := by decide +kernel
theorem d_Model_isText_69 : decode b_Model_isText 69 = .ok (.putfield 89, 3) := by decide +kernel
theorem d_Model_isText_72 : decode b_Model_isText 72 = .ok (.aload_n 0, 1) := by decide +kernel
theorem d_Model_isText_73 : decode b_Model_isText 73 = .ok (.iload_n 1, 1) := by decide +kernel
theorem d_Model_isText_74 : decode b_Model_isText 74 = .ok (.invokevirtual 108, 3) := by decide +kernel
theorem d_Model_isText_77 : decode b_Model_isText 77 = .ok (.istore_n 2, 1) := by decide +kernel
theorem d_Model_isText_78 : decode b_Model_isText 78 = .ok (.goto (-33), 3) := by decide +kernel
theorem d_Model_isText_81 : decode b_Model_isText 81 = .ok (.iload_n 2, 1) := by decide +kernel
theorem d_Model_isText_82 : decode b_Model_isText 82 = .ok (.ifCond .eq 18, 3) := by decide +kernel
theorem d_Model_isText_85 : decode b_Model_isText 85 = .ok (.aload_n 0, 1) := by decide +kernel
theorem d_Model_isText_86 : decode b_Model_isText 86 = .ok (.getfield 89, 3) := by decide +kernel
theorem d_Model_isText_89 : decode b_Model_isText 89 = .ok (.aload_n 0, 1) := by decide +kernel
theorem d_Model_isText_90 : decode b_Model_isText 90 = .ok (.getfield 64, 3) := by decide +kernel
theorem d_Model_isText_93 : decode b_Model_isText 93 = .ok (.if_icmp .ne 7, 3) := by decide +kernel
theorem d_Model_isText_96 : decode b_Model_isText 96 = .ok (.iconst 1, 1) := by decide +kernel
theorem d_Model_isText_97 : decode b_Model_isText 97 = .ok (.goto 4, 3) := by decide +kernel
theorem d_Model_isText_100 : decode b_Model_isText 100 = .ok (.iconst 0, 1) := by decide +kernel
theorem d_Model_isText_101 : decode b_Model_isText 101 = .ok (.ireturn, 1) := by decide +kernel
theorem d_Model_addRow_0 : decode b_Model_addRow 0 = .ok (.aload_n 0, 1) := by decide +kernel
theorem d_Model_addRow_1 : decode b_Model_addRow 1 = .ok (.getfield 42, 3) := by decide +kernel
theorem d_Model_addRow_4 : decode b_Model_addRow 4 = .ok (.aload_n 0, 1) := by decide +kernel
theorem d_Model_addRow_5 : decode b_Model_addRow 5 = .ok (.getfield 111, 3) := by decide +kernel
theorem d_Model_addRow_8 : decode b_Model_addRow 8 = .ok (.iload_n 1, 1) := by decide +kernel
theorem d_Model_addRow_9 : decode b_Model_addRow 9 = .ok (.iastore, 1) := by decide +kernel
theorem d_Model_addRow_10 : decode b_Model_addRow 10 = .ok (.aload_n 0, 1) := by decide +kernel
theorem d_Model_addRow_11 : decode b_Model_addRow 11 = .ok (.getfield 45, 3) := by decide +kernel
theorem d_Model_addRow_14 : decode b_Model_addRow 14 = .ok (.aload_n 0, 1) := by decide +kernel
theorem d_Model_addRow_15 : decode b_Model_addRow 15 = .ok (.getfield 111, 3) := by decide +kernel
theorem d_Model_addRow_18 : decode b_Model_addRow 18 = .ok (.iload_n 2, 1) := by decide +kernel
theorem d_Model_addRow_19 : decode b_Model_addRow 19 = .ok (.iastore, 1) := by decide +kernel
theorem d_Model_addRow_20 : decode b_Model_addRow 20 = .ok (.aload_n 0, 1) := by decide +kernel
theorem d_Model_addRow_21 : decode b_Model_addRow 21 = .ok (.dup, 1) := by decide +kernel
theorem d_Model_addRow_22 : decode b_Model_addRow 22 = .ok (.getfield 111, 3) := by decide +kernel
theorem d_Model_addRow_25 : decode b_Model_addRow 25 = .ok (.iconst 1, 1) := by decide +kernel
theorem d_Model_addRow_26 : decode b_Model_addRow 26 = .ok (.iadd, 1) := by decide +kernel
theorem d_Model_addRow_27 : decode b_Model_addRow 27 = .ok (.putfield 111, 3) := by decide +kernel
theorem d_Model_addRow_30 : decode b_Model_addRow 30 = .ok (.return_, 1) := by decide +kernel
theorem d_Model_unite_0 : decode b_Model_unite 0 = .ok (.iconst 0, 1) := by decide +kernel
theorem d_Model_unite_1 : decode b_Model_unite 1 = .ok (.istore_n 1, 1) := by decide +kernel
theorem d_Model_unite_2 : decode b_Model_unite 2 = .ok (.iload_n 1, 1) := by decide +kernel
theorem d_Model_unite_3 : decode b_Model_unite 3 = .ok (.sipush 4096, 3) := by decide +kernel
theorem d_Model_unite_6 : decode b_Model_unite 6 = .ok (.if_icmp .ge 16, 3) := by decide +kernel
theorem d_Model_unite_9 : decode b_Model_unite 9 = .ok (.aload_n 0, 1) := by decide +kernel
theorem d_Model_unite_10 : decode b_Model_unite 10 = .ok (.getfield 54, 3) := by decide +kernel
theorem d_Model_unite_13 : decode b_Model_unite 13 = .ok (.iload_n 1, 1) := by decide +kernel
theorem d_Model_unite_14 : decode b_Model_unite 14 = .ok (.iconst 0, 1) := by decide +kernel
theorem d_Model_unite_15 : decode b_Model_unite 15 = .ok (.bastore, 1) := by decide +kernel
theorem d_Model_unite_16 : decode b_Model_unite 16 = .ok (.iinc 1 1, 3) := by decide +kernel
theorem d_Model_unite_19 : decode b_Model_unite 19 = .ok (.goto (-17), 3) := by decide +kernel
theorem d_Model_unite_22 : decode b_Model_unite 22 = .ok (.iconst 0, 1) := by decide +kernel
theorem d_Model_unite_23 : decode b_Model_unite 23 = .ok (.istore_n 1, 1) := by decide +kernel
theorem d_Model_unite_24 : decode b_Model_unite 24 = .ok (.iload_n 1, 1) := by decide +kernel
theorem d_Model_unite_25 : decode b_Model_unite 25 = .ok (.aload_n 0, 1) := by decide +kernel
theorem d_Model_unite_26 : decode b_Model_unite 26 = .ok (.getfield 111, 3) := by decide +kernel
theorem d_Model_unite_29 : decode b_Model_unite 29 = .ok (.if_icmp .ge 39, 3) := by decide +kernel
theorem d_Model_unite_32 : decode b_Model_unite 32 = .ok (.aload_n 0, 1) := by decide +kernel
theorem d_Model_unite_33 : decode b_Model_unite 33 = .ok (.getfield 42, 3) := by decide +kernel
theorem d_Model_unite_36 : decode b_Model_unite 36 = .ok (.iload_n 1, 1) := by decide +kernel
theorem d_Model_unite_37 : decode b_Model_unite 37 = .ok (.iaload, 1) := by decide +kernel
theorem d_Model_unite_38 : decode b_Model_unite 38 = .ok (.istore_n 2, 1) := by decide +kernel
theorem d_Model_unite_39 : decode b_Model_unite 39 = .ok (.iload_n 2, 1) := by decide +kernel
theorem d_Model_unite_40 : decode b_Model_unite 40 = .ok (.aload_n 0, 1) := by decide +kernel
theorem d_Model_unite_41 : decode b_Model_unite 41 = .ok (.getfield 45, 3) := by decide +kernel
theorem d_Model_unite_44 : decode b_Model_unite 44 = .ok (.iload_n 1, 1) := by decide +kernel
theorem d_Model_unite_45 : decode b_Model_unite 45 = .ok (.iaload, 1) := by decide +kernel
theorem d_Model_unite_46 : decode b_Model_unite 46 = .ok (.if_icmp .gt 16, 3) := by decide +kernel
theorem d_Model_unite_49 : decode b_Model_unite 49 = .ok (.aload_n 0, 1) := by decide +kernel
theorem d_Model_unite_50 : decode b_Model_unite 50 = .ok (.getfield 54, 3) := by decide +kernel
theorem d_Model_unite_53 : decode b_Model_unite 53 = .ok (.iload_n 2, 1) := by decide +kernel
theorem d_Model_unite_54 : decode b_Model_unite 54 = .ok (.iconst 1, 1) := by decide +kernel
theorem d_Model_unite_55 : decode b_Model_unite 55 = .ok (.bastore, 1) := by decide +kernel
theorem d_Model_unite_56 : decode b_Model_unite 56 = .ok (.iinc 2 1, 3) := by decide +kernel
theorem d_Model_unite_59 : decode b_Model_unite 59 = .ok (.goto (-20), 3) := by decide +kernel
theorem d_Model_unite_62 : decode b_Model_unite 62 = .ok (.iinc 1 1, 3) := by decide +kernel
theorem d_Model_unite_65 : decode b_Model_unite 65 = .ok (.goto (-41), 3) := by decide +kernel
theorem d_Model_unite_68 : decode b_Model_unite 68 = .ok (.return_, 1) := by decide +kernel
theorem d_Model_isAsTold_0 : decode b_Model_isAsTold 0 = .ok (.aload_n 0, 1) := by decide +kernel
theorem d_Model_isAsTold_1 : decode b_Model_isAsTold 1 = .ok (.getfield 111, 3) := by decide +kernel
theorem d_Model_isAsTold_4 : decode b_Model_isAsTold 4 = .ok (.iconst 3, 1) := by decide +kernel
theorem d_Model_isAsTold_5 : decode b_Model_isAsTold 5 = .ok (.if_icmp .gt 7, 3) := by decide +kernel
theorem d_Model_isAsTold_8 : decode b_Model_isAsTold 8 = .ok (.iconst 1, 1) := by decide +kernel
theorem d_Model_isAsTold_9 : decode b_Model_isAsTold 9 = .ok (.goto 4, 3) := by decide +kernel
theorem d_Model_isAsTold_12 : decode b_Model_isAsTold 12 = .ok (.iconst 0, 1) := by decide +kernel
theorem d_Model_isAsTold_13 : decode b_Model_isAsTold 13 = .ok (.istore_n 1, 1) := by decide +kernel
theorem d_Model_isAsTold_14 : decode b_Model_isAsTold 14 = .ok (.iconst 0, 1) := by decide +kernel
theorem d_Model_isAsTold_15 : decode b_Model_isAsTold 15 = .ok (.istore_n 2, 1) := by decide +kernel
theorem d_Model_isAsTold_16 : decode b_Model_isAsTold 16 = .ok (.iload_n 2, 1) := by decide +kernel
theorem d_Model_isAsTold_17 : decode b_Model_isAsTold 17 = .ok (.aload_n 0, 1) := by decide +kernel
theorem d_Model_isAsTold_18 : decode b_Model_isAsTold 18 = .ok (.getfield 111, 3) := by decide +kernel
theorem d_Model_isAsTold_21 : decode b_Model_isAsTold 21 = .ok (.if_icmp .ge 62, 3) := by decide +kernel
theorem d_Model_isAsTold_24 : decode b_Model_isAsTold 24 = .ok (.iconst 0, 1) := by decide +kernel
theorem d_Model_isAsTold_25 : decode b_Model_isAsTold 25 = .ok (.istore_n 3, 1) := by decide +kernel
theorem d_Model_isAsTold_26 : decode b_Model_isAsTold 26 = .ok (.iload_n 3, 1) := by decide +kernel
theorem d_Model_isAsTold_27 : decode b_Model_isAsTold 27 = .ok (.iload_n 2, 1) := by decide +kernel
theorem d_Model_isAsTold_28 : decode b_Model_isAsTold 28 = .ok (.if_icmp .ge 49, 3) := by decide +kernel
theorem d_Model_isAsTold_31 : decode b_Model_isAsTold 31 = .ok (.iload_n 1, 1) := by decide +kernel
theorem d_Model_isAsTold_32 : decode b_Model_isAsTold 32 = .ok (.ifCond .eq 37, 3) := by decide +kernel
theorem d_Model_isAsTold_35 : decode b_Model_isAsTold 35 = .ok (.aload_n 0, 1) := by decide +kernel
theorem d_Model_isAsTold_36 : decode b_Model_isAsTold 36 = .ok (.getfield 42, 3) := by decide +kernel
theorem d_Model_isAsTold_39 : decode b_Model_isAsTold 39 = .ok (.iload_n 2, 1) := by decide +kernel
theorem d_Model_isAsTold_40 : decode b_Model_isAsTold 40 = .ok (.iaload, 1) := by decide +kernel
theorem d_Model_isAsTold_41 : decode b_Model_isAsTold 41 = .ok (.aload_n 0, 1) := by decide +kernel
theorem d_Model_isAsTold_42 : decode b_Model_isAsTold 42 = .ok (.getfield 45, 3) := by decide +kernel
theorem d_Model_isAsTold_45 : decode b_Model_isAsTold 45 = .ok (.iload_n 3, 1) := by decide +kernel
theorem d_Model_isAsTold_46 : decode b_Model_isAsTold 46 = .ok (.iaload, 1) := by decide +kernel
theorem d_Model_isAsTold_47 : decode b_Model_isAsTold 47 = .ok (.if_icmp .gt 18, 3) := by decide +kernel
theorem d_Model_isAsTold_50 : decode b_Model_isAsTold 50 = .ok (.aload_n 0, 1) := by decide +kernel
theorem d_Model_isAsTold_51 : decode b_Model_isAsTold 51 = .ok (.getfield 42, 3) := by decide +kernel
theorem d_Model_isAsTold_54 : decode b_Model_isAsTold 54 = .ok (.iload_n 3, 1) := by decide +kernel
theorem d_Model_isAsTold_55 : decode b_Model_isAsTold 55 = .ok (.iaload, 1) := by decide +kernel
theorem d_Model_isAsTold_56 : decode b_Model_isAsTold 56 = .ok (.aload_n 0, 1) := by decide +kernel
theorem d_Model_isAsTold_57 : decode b_Model_isAsTold 57 = .ok (.getfield 45, 3) := by decide +kernel
theorem d_Model_isAsTold_60 : decode b_Model_isAsTold 60 = .ok (.iload_n 2, 1) := by decide +kernel
theorem d_Model_isAsTold_61 : decode b_Model_isAsTold 61 = .ok (.iaload, 1) := by decide +kernel
theorem d_Model_isAsTold_62 : decode b_Model_isAsTold 62 = .ok (.if_icmp .le 7, 3) := by decide +kernel
theorem d_Model_isAsTold_65 : decode b_Model_isAsTold 65 = .ok (.iconst 1, 1) := by decide +kernel
theorem d_Model_isAsTold_66 : decode b_Model_isAsTold 66 = .ok (.goto 4, 3) := by decide +kernel
theorem d_Model_isAsTold_69 : decode b_Model_isAsTold 69 = .ok (.iconst 0, 1) := by decide +kernel
theorem d_Model_isAsTold_70 : decode b_Model_isAsTold 70 = .ok (.istore_n 1, 1) := by decide +kernel
theorem d_Model_isAsTold_71 : decode b_Model_isAsTold 71 = .ok (.iinc 3 1, 3) := by decide +kernel
theorem d_Model_isAsTold_74 : decode b_Model_isAsTold 74 = .ok (.goto (-48), 3) := by decide +kernel
theorem d_Model_isAsTold_77 : decode b_Model_isAsTold 77 = .ok (.iinc 2 1, 3) := by decide +kernel
theorem d_Model_isAsTold_80 : decode b_Model_isAsTold 80 = .ok (.goto (-64), 3) := by decide +kernel
theorem d_Model_isAsTold_83 : decode b_Model_isAsTold 83 = .ok (.iload_n 1, 1) := by decide +kernel
theorem d_Model_isAsTold_84 : decode b_Model_isAsTold 84 = .ok (.ireturn, 1) := by decide +kernel
theorem d_Model_spans_0 : decode b_Model_spans 0 = .ok (.aload_n 0, 1) := by decide +kernel
theorem d_Model_spans_1 : decode b_Model_spans 1 = .ok (.iconst 0, 1) := by decide +kernel
theorem d_Model_spans_2 : decode b_Model_spans 2 = .ok (.putfield 111, 3) := by decide +kernel
theorem d_Model_spans_5 : decode b_Model_spans 5 = .ok (.iconst 0, 1) := by decide +kernel
theorem d_Model_spans_6 : decode b_Model_spans 6 = .ok (.istore_n 1, 1) := by decide +kernel
theorem d_Model_spans_7 : decode b_Model_spans 7 = .ok (.iload_n 1, 1) := by decide +kernel
theorem d_Model_spans_8 : decode b_Model_spans 8 = .ok (.sipush 4096, 3) := by decide +kernel
theorem d_Model_spans_11 : decode b_Model_spans 11 = .ok (.if_icmp .ge 57, 3) := by decide +kernel
theorem d_Model_spans_14 : decode b_Model_spans 14 = .ok (.aload_n 0, 1) := by decide +kernel
theorem d_Model_spans_15 : decode b_Model_spans 15 = .ok (.getfield 54, 3) := by decide +kernel
theorem d_Model_spans_18 : decode b_Model_spans 18 = .ok (.iload_n 1, 1) := by decide +kernel
theorem d_Model_spans_19 : decode b_Model_spans 19 = .ok (.baload, 1) := by decide +kernel
theorem d_Model_spans_20 : decode b_Model_spans 20 = .ok (.ifCond .ne 6, 3) := by decide +kernel
theorem d_Model_spans_23 : decode b_Model_spans 23 = .ok (.goto 39, 3) := by decide +kernel
theorem d_Model_spans_26 : decode b_Model_spans 26 = .ok (.iload_n 1, 1) := by decide +kernel
theorem d_Model_spans_27 : decode b_Model_spans 27 = .ok (.ifCond .le 29, 3) := by decide +kernel
theorem d_Model_spans_30 : decode b_Model_spans 30 = .ok (.aload_n 0, 1) := by decide +kernel
theorem d_Model_spans_31 : decode b_Model_spans 31 = .ok (.getfield 54, 3) := by decide +kernel
theorem d_Model_spans_34 : decode b_Model_spans 34 = .ok (.iload_n 1, 1) := by decide +kernel
theorem d_Model_spans_35 : decode b_Model_spans 35 = .ok (.iconst 1, 1) := by decide +kernel
theorem d_Model_spans_36 : decode b_Model_spans 36 = .ok (.isub, 1) := by decide +kernel
theorem d_Model_spans_37 : decode b_Model_spans 37 = .ok (.baload, 1) := by decide +kernel
theorem d_Model_spans_38 : decode b_Model_spans 38 = .ok (.ifCond .eq 18, 3) := by decide +kernel
theorem d_Model_spans_41 : decode b_Model_spans 41 = .ok (.aload_n 0, 1) := by decide +kernel
theorem d_Model_spans_42 : decode b_Model_spans 42 = .ok (.getfield 45, 3) := by decide +kernel
theorem d_Model_spans_45 : decode b_Model_spans 45 = .ok (.aload_n 0, 1) := by decide +kernel
theorem d_Model_spans_46 : decode b_Model_spans 46 = .ok (.getfield 111, 3) := by decide +kernel
theorem d_Model_spans_49 : decode b_Model_spans 49 = .ok (.iconst 1, 1) := by decide +kernel
theorem d_Model_spans_50 : decode b_Model_spans 50 = .ok (.isub, 1) := by decide +kernel
theorem d_Model_spans_51 : decode b_Model_spans 51 = .ok (.iload_n 1, 1) := by decide +kernel
theorem d_Model_spans_52 : decode b_Model_spans 52 = .ok (.iastore, 1) := by decide +kernel
theorem d_Model_spans_53 : decode b_Model_spans 53 = .ok (.goto 9, 3) := by decide +kernel
theorem d_Model_spans_56 : decode b_Model_spans 56 = .ok (.aload_n 0, 1) := by decide +kernel
theorem d_Model_spans_57 : decode b_Model_spans 57 = .ok (.iload_n 1, 1) := by decide +kernel
theorem d_Model_spans_58 : decode b_Model_spans 58 = .ok (.iload_n 1, 1) := by decide +kernel
theorem d_Model_spans_59 : decode b_Model_spans 59 = .ok (.invokevirtual 114, 3) := by decide +kernel
theorem d_Model_spans_62 : decode b_Model_spans 62 = .ok (.iinc 1 1, 3) := by decide +kernel
theorem d_Model_spans_65 : decode b_Model_spans 65 = .ok (.goto (-58), 3) := by decide +kernel
theorem d_Model_spans_68 : decode b_Model_spans 68 = .ok (.return_, 1) := by decide +kernel
theorem d_Model_plan_0 : decode b_Model_plan 0 = .ok (.aload_n 0, 1) := by decide +kernel
theorem d_Model_plan_1 : decode b_Model_plan 1 = .ok (.iconst 0, 1) := by decide +kernel
theorem d_Model_plan_2 : decode b_Model_plan 2 = .ok (.putfield 118, 3) := by decide +kernel
theorem d_Model_plan_5 : decode b_Model_plan 5 = .ok (.aload_n 0, 1) := by decide +kernel
theorem d_Model_plan_6 : decode b_Model_plan 6 = .ok (.iconst 0, 1) := by decide +kernel
theorem d_Model_plan_7 : decode b_Model_plan 7 = .ok (.putfield 121, 3) := by decide +kernel
theorem d_Model_plan_10 : decode b_Model_plan 10 = .ok (.aload_n 0, 1) := by decide +kernel
theorem d_Model_plan_11 : decode b_Model_plan 11 = .ok (.iconst 0, 1) := by decide +kernel
theorem d_Model_plan_12 : decode b_Model_plan 12 = .ok (.putfield 124, 3) := by decide +kernel
theorem d_Model_plan_15 : decode b_Model_plan 15 = .ok (.aload_n 0, 1) := by decide +kernel
theorem d_Model_plan_16 : decode b_Model_plan 16 = .ok (.iconst 0, 1) := by decide +kernel
theorem d_Model_plan_17 : decode b_Model_plan 17 = .ok (.putfield 127, 3) := by decide +kernel
theorem d_Model_plan_20 : decode b_Model_plan 20 = .ok (.iconst 0, 1) := by decide +kernel
theorem d_Model_plan_21 : decode b_Model_plan 21 = .ok (.istore_n 2, 1) := by decide +kernel
theorem d_Model_plan_22 : decode b_Model_plan 22 = .ok (.iload_n 2, 1) := by decide +kernel
theorem d_Model_plan_23 : decode b_Model_plan 23 = .ok (.sipush 4096, 3) := by decide +kernel
theorem d_Model_plan_26 : decode b_Model_plan 26 = .ok (.if_icmp .ge 180, 3) := by decide +kernel
theorem d_Model_plan_29 : decode b_Model_plan 29 = .ok (.aload_n 0, 1) := by decide +kernel
theorem d_Model_plan_30 : decode b_Model_plan 30 = .ok (.getfield 54, 3) := by decide +kernel
theorem d_Model_plan_33 : decode b_Model_plan 33 = .ok (.iload_n 2, 1) := by decide +kernel
theorem d_Model_plan_34 : decode b_Model_plan 34 = .ok (.baload, 1) := by decide +kernel
theorem d_Model_plan_35 : decode b_Model_plan 35 = .ok (.ifCond .ne 6, 3) := by decide +kernel
theorem d_Model_plan_38 : decode b_Model_plan 38 = .ok (.goto 162, 3) := by decide +kernel
theorem d_Model_plan_41 : decode b_Model_plan 41 = .ok (.aload_n 0, 1) := by decide +kernel
theorem d_Model_plan_42 : decode b_Model_plan 42 = .ok (.dup, 1) := by decide +kernel
theorem d_Model_plan_43 : decode b_Model_plan 43 = .ok (.getfield 124, 3) := by decide +kernel
theorem d_Model_plan_46 : decode b_Model_plan 46 = .ok (.iconst 1, 1) := by decide +kernel
theorem d_Model_plan_47 : decode b_Model_plan 47 = .ok (.iadd, 1) := by decide +kernel
theorem d_Model_plan_48 : decode b_Model_plan 48 = .ok (.putfield 124, 3) := by decide +kernel
theorem d_Model_plan_51 : decode b_Model_plan 51 = .ok (.aload_n 0, 1) := by decide +kernel
theorem d_Model_plan_52 : decode b_Model_plan 52 = .ok (.getfield 26, 3) := by decide +kernel
theorem d_Model_plan_55 : decode b_Model_plan 55 = .ok (.sipush 4096, 3) := by decide +kernel
theorem d_Model_plan_58 : decode b_Model_plan 58 = .ok (.iload_n 1, 1) := by decide +kernel
theorem d_Model_plan_59 : decode b_Model_plan 59 = .ok (.imul, 1) := by decide +kernel
theorem d_Model_plan_60 : decode b_Model_plan 60 = .ok (.iload_n 2, 1) := by decide +kernel
theorem d_Model_plan_61 : decode b_Model_plan 61 = .ok (.iadd, 1) := by decide +kernel
theorem d_Model_plan_62 : decode b_Model_plan 62 = .ok (.baload, 1) := by decide +kernel
theorem d_Model_plan_63 : decode b_Model_plan 63 = .ok (.ifCond .eq 16, 3) := by decide +kernel
theorem d_Model_plan_66 : decode b_Model_plan 66 = .ok (.aload_n 0, 1) := by decide +kernel
theorem d_Model_plan_67 : decode b_Model_plan 67 = .ok (.dup, 1) := by decide +kernel
theorem d_Model_plan_68 : decode b_Model_plan 68 = .ok (.getfield 127, 3) := by decide +kernel
theorem d_Model_plan_71 : decode b_Model_plan 71 = .ok (.iconst 1, 1) := by decide +kernel
theorem d_Model_plan_72 : decode b_Model_plan 72 = .ok (.iadd, 1) := by decide +kernel
theorem d_Model_plan_73 : decode b_Model_plan 73 = .ok (.putfield 127, 3) := by decide +kernel
theorem d_Model_plan_76 : decode b_Model_plan 76 = .ok (.goto 124, 3) := by decide +kernel
theorem d_Model_plan_79 : decode b_Model_plan 79 = .ok (.aload_n 0, 1) := by decide +kernel
theorem d_Model_plan_80 : decode b_Model_plan 80 = .ok (.getfield 118, 3) := by decide +kernel
theorem d_Model_plan_83 : decode b_Model_plan 83 = .ok (.ifCond .le 29, 3) := by decide +kernel
theorem d_Model_plan_86 : decode b_Model_plan 86 = .ok (.iload_n 2, 1) := by decide +kernel
theorem d_Model_plan_87 : decode b_Model_plan 87 = .ok (.aload_n 0, 1) := by decide +kernel
theorem d_Model_plan_88 : decode b_Model_plan 88 = .ok (.getfield 51, 3) := by decide +kernel
theorem d_Model_plan_91 : decode b_Model_plan 91 = .ok (.aload_n 0, 1) := by decide +kernel
theorem d_Model_plan_92 : decode b_Model_plan 92 = .ok (.getfield 118, 3) := by decide +kernel
theorem d_Model_plan_95 : decode b_Model_plan 95 = .ok (.iconst 1, 1) := by decide +kernel
theorem d_Model_plan_96 : decode b_Model_plan 96 = .ok (.isub, 1) := by decide +kernel
theorem d_Model_plan_97 : decode b_Model_plan 97 = .ok (.iaload, 1) := by decide +kernel
theorem d_Model_plan_98 : decode b_Model_plan 98 = .ok (.isub, 1) := by decide +kernel
theorem d_Model_plan_99 : decode b_Model_plan 99 = .ok (.iconst 1, 1) := by decide +kernel
theorem d_Model_plan_100 : decode b_Model_plan 100 = .ok (.isub, 1) := by decide +kernel
theorem d_Model_plan_101 : decode b_Model_plan 101 = .ok (.aload_n 0, 1) := by decide +kernel
theorem d_Model_plan_102 : decode b_Model_plan 102 = .ok (.getfield 17, 3) := by decide +kernel
theorem d_Model_plan_105 : decode b_Model_plan 105 = .ok (.if_icmp .gt 7, 3) := by decide +kernel
theorem d_Model_plan_108 : decode b_Model_plan 108 = .ok (.iconst 1, 1) := by decide +kernel
theorem d_Model_plan_109 : decode b_Model_plan 109 = .ok (.goto 4, 3) := by decide +kernel
theorem d_Model_plan_112 : decode b_Model_plan 112 = .ok (.iconst 0, 1) := by decide +kernel
theorem d_Model_plan_113 : decode b_Model_plan 113 = .ok (.istore_n 3, 1) := by decide +kernel
theorem d_Model_plan_114 : decode b_Model_plan 114 = .ok (.iload_n 3, 1) := by decide +kernel
theorem d_Model_plan_115 : decode b_Model_plan 115 = .ok (.ifCond .ne 51, 3) := by decide +kernel
theorem d_Model_plan_118 : decode b_Model_plan 118 = .ok (.aload_n 0, 1) := by decide +kernel
theorem d_Model_plan_119 : decode b_Model_plan 119 = .ok (.getfield 48, 3) := by decide +kernel
theorem d_Model_plan_122 : decode b_Model_plan 122 = .ok (.aload_n 0, 1) := by decide +kernel
theorem d_Model_plan_123 : decode b_Model_plan 123 = .ok (.getfield 118, 3) := by decide +kernel
theorem d_Model_plan_126 : decode b_Model_plan 126 = .ok (.iload_n 2, 1) := by decide +kernel
theorem d_Model_plan_127 : decode b_Model_plan 127 = .ok (.iastore, 1) := by decide +kernel
theorem d_Model_plan_128 : decode b_Model_plan 128 = .ok (.aload_n 0, 1) := by decide +kernel
theorem d_Model_plan_129 : decode b_Model_plan 129 = .ok (.getfield 51, 3) := by decide +kernel
theorem d_Model_plan_132 : decode b_Model_plan 132 = .ok (.aload_n 0, 1) := by decide +kernel
theorem d_Model_plan_133 : decode b_Model_plan 133 = .ok (.getfield 118, 3) := by decide +kernel
theorem d_Model_plan_136 : decode b_Model_plan 136 = .ok (.iload_n 2, 1) := by decide +kernel
theorem d_Model_plan_137 : decode b_Model_plan 137 = .ok (.iastore, 1) := by decide +kernel
theorem d_Model_plan_138 : decode b_Model_plan 138 = .ok (.aload_n 0, 1) := by decide +kernel
theorem d_Model_plan_139 : decode b_Model_plan 139 = .ok (.dup, 1) := by decide +kernel
theorem d_Model_plan_140 : decode b_Model_plan 140 = .ok (.getfield 118, 3) := by decide +kernel
theorem d_Model_plan_143 : decode b_Model_plan 143 = .ok (.iconst 1, 1) := by decide +kernel
theorem d_Model_plan_144 : decode b_Model_plan 144 = .ok (.iadd, 1) := by decide +kernel
theorem d_Model_plan_145 : decode b_Model_plan 145 = .ok (.putfield 118, 3) := by decide +kernel
theorem d_Model_plan_148 : decode b_Model_plan 148 = .ok (.aload_n 0, 1) := by decide +kernel
theorem d_Model_plan_149 : decode b_Model_plan 149 = .ok (.dup, 1) := by decide +kernel
theorem d_Model_plan_150 : decode b_Model_plan 150 = .ok (.getfield 121, 3) := by decide +kernel
theorem d_Model_plan_153 : decode b_Model_plan 153 = .ok (.aload_n 0, 1) := by decide +kernel
theorem d_Model_plan_154 : decode b_Model_plan 154 = .ok (.getfield 17, 3) := by decide +kernel
theorem d_Model_plan_157 : decode b_Model_plan 157 = .ok (.iconst 1, 1) := by decide +kernel
theorem d_Model_plan_158 : decode b_Model_plan 158 = .ok (.iadd, 1) := by decide +kernel
theorem d_Model_plan_159 : decode b_Model_plan 159 = .ok (.iadd, 1) := by decide +kernel
theorem d_Model_plan_160 : decode b_Model_plan 160 = .ok (.putfield 121, 3) := by decide +kernel
theorem d_Model_plan_163 : decode b_Model_plan 163 = .ok (.goto 37, 3) := by decide +kernel
theorem d_Model_plan_166 : decode b_Model_plan 166 = .ok (.aload_n 0, 1) := by decide +kernel
theorem d_Model_plan_167 : decode b_Model_plan 167 = .ok (.dup, 1) := by decide +kernel
theorem d_Model_plan_168 : decode b_Model_plan 168 = .ok (.getfield 121, 3) := by decide +kernel
theorem d_Model_plan_171 : decode b_Model_plan 171 = .ok (.iload_n 2, 1) := by decide +kernel
theorem d_Model_plan_172 : decode b_Model_plan 172 = .ok (.aload_n 0, 1) := by decide +kernel
theorem d_Model_plan_173 : decode b_Model_plan 173 = .ok (.getfield 51, 3) := by decide +kernel
theorem d_Model_plan_176 : decode b_Model_plan 176 = .ok (.aload_n 0, 1) := by decide +kernel
theorem d_Model_plan_177 : decode b_Model_plan 177 = .ok (.getfield 118, 3) := by decide +kernel
theorem d_Model_plan_180 : decode b_Model_plan 180 = .ok (.iconst 1, 1) := by decide +kernel
theorem d_Model_plan_181 : decode b_Model_plan 181 = .ok (.isub, 1) := by decide +kernel
theorem d_Model_plan_182 : decode b_Model_plan 182 = .ok (.iaload, 1) := by decide +kernel
theorem d_Model_plan_183 : decode b_Model_plan 183 = .ok (.isub, 1) := by decide +kernel
theorem d_Model_plan_184 : decode b_Model_plan 184 = .ok (.iadd, 1) := by decide +kernel
theorem d_Model_plan_185 : decode b_Model_plan 185 = .ok (.putfield 121, 3) := by decide +kernel
theorem d_Model_plan_188 : decode b_Model_plan 188 = .ok (.aload_n 0, 1) := by decide +kernel
theorem d_Model_plan_189 : decode b_Model_plan 189 = .ok (.getfield 51, 3) := by decide +kernel
theorem d_Model_plan_192 : decode b_Model_plan 192 = .ok (.aload_n 0, 1) := by decide +kernel
theorem d_Model_plan_193 : decode b_Model_plan 193 = .ok (.getfield 118, 3) := by decide +kernel
theorem d_Model_plan_196 : decode b_Model_plan 196 = .ok (.iconst 1, 1) := by decide +kernel
theorem d_Model_plan_197 : decode b_Model_plan 197 = .ok (.isub, 1) := by decide +kernel
theorem d_Model_plan_198 : decode b_Model_plan 198 = .ok (.iload_n 2, 1) := by decide +kernel
theorem d_Model_plan_199 : decode b_Model_plan 199 = .ok (.iastore, 1) := by decide +kernel
theorem d_Model_plan_200 : decode b_Model_plan 200 = .ok (.iinc 2 1, 3) := by decide +kernel
theorem d_Model_plan_203 : decode b_Model_plan 203 = .ok (.goto (-181), 3) := by decide +kernel
theorem d_Model_plan_206 : decode b_Model_plan 206 = .ok (.return_, 1) := by decide +kernel
theorem d_Model_answer_0 : decode b_Model_answer 0 = .ok (.aload_n 0, 1) := by decide +kernel
theorem d_Model_answer_1 : decode b_Model_answer 1 = .ok (.iload_n 1, 1) := by decide +kernel
theorem d_Model_answer_2 : decode b_Model_answer 2 = .ok (.invokevirtual 80, 3) := by decide +kernel
theorem d_Model_answer_5 : decode b_Model_answer 5 = .ok (.ifCond .ne 14, 3) := by decide +kernel
theorem d_Model_answer_8 : decode b_Model_answer 8 = .ok (.aload_n 0, 1) := by decide +kernel
theorem d_Model_answer_9 : decode b_Model_answer 9 = .ok (.iconst 0, 1) := by decide +kernel
theorem d_Model_answer_10 : decode b_Model_answer 10 = .ok (.putfield 64, 3) := by decide +kernel
theorem d_Model_answer_13 : decode b_Model_answer 13 = .ok (.aload_n 0, 1) := by decide +kernel
theorem d_Model_answer_14 : decode b_Model_answer 14 = .ok (.iconst 1, 1) := by decide +kernel
theorem d_Model_answer_15 : decode b_Model_answer 15 = .ok (.invokevirtual 130, 3) := by decide +kernel
theorem d_Model_answer_18 : decode b_Model_answer 18 = .ok (.ireturn, 1) := by decide +kernel
theorem d_Model_answer_19 : decode b_Model_answer 19 = .ok (.aload_n 0, 1) := by decide +kernel
theorem d_Model_answer_20 : decode b_Model_answer 20 = .ok (.iconst 0, 1) := by decide +kernel
theorem d_Model_answer_21 : decode b_Model_answer 21 = .ok (.putfield 57, 3) := by decide +kernel
theorem d_Model_answer_24 : decode b_Model_answer 24 = .ok (.aload_n 0, 1) := by decide +kernel
theorem d_Model_answer_25 : decode b_Model_answer 25 = .ok (.getfield 20, 3) := by decide +kernel
theorem d_Model_answer_28 : decode b_Model_answer 28 = .ok (.iload_n 1, 1) := by decide +kernel
theorem d_Model_answer_29 : decode b_Model_answer 29 = .ok (.iaload, 1) := by decide +kernel
theorem d_Model_answer_30 : decode b_Model_answer 30 = .ok (.istore_n 2, 1) := by decide +kernel
theorem d_Model_answer_31 : decode b_Model_answer 31 = .ok (.aload_n 0, 1) := by decide +kernel
theorem d_Model_answer_32 : decode b_Model_answer 32 = .ok (.iload_n 2, 1) := by decide +kernel
theorem d_Model_answer_33 : decode b_Model_answer 33 = .ok (.invokevirtual 133, 3) := by decide +kernel
theorem d_Model_answer_36 : decode b_Model_answer 36 = .ok (.istore_n 3, 1) := by decide +kernel
theorem d_Model_answer_37 : decode b_Model_answer 37 = .ok (.aload_n 0, 1) := by decide +kernel
theorem d_Model_answer_38 : decode b_Model_answer 38 = .ok (.iconst 0, 1) := by decide +kernel
theorem d_Model_answer_39 : decode b_Model_answer 39 = .ok (.putfield 64, 3) := by decide +kernel
theorem d_Model_answer_42 : decode b_Model_answer 42 = .ok (.aload_n 0, 1) := by decide +kernel
theorem d_Model_answer_43 : decode b_Model_answer 43 = .ok (.iconst 0, 1) := by decide +kernel
theorem d_Model_answer_44 : decode b_Model_answer 44 = .ok (.putfield 111, 3) := by decide +kernel
theorem d_Model_answer_47 : decode b_Model_answer 47 = .ok (.aload_n 0, 1) := by decide +kernel
theorem d_Model_answer_48 : decode b_Model_answer 48 = .ok (.iload_n 1, 1) := by decide +kernel
theorem d_Model_answer_49 : decode b_Model_answer 49 = .ok (.putfield 136, 3) := by decide +kernel
theorem d_Model_answer_52 : decode b_Model_answer 52 = .ok (.iload_n 3, 1) := by decide +kernel
theorem d_Model_answer_53 : decode b_Model_answer 53 = .ok (.ifCond .ne 23, 3) := by decide +kernel
theorem d_Model_answer_56 : decode b_Model_answer 56 = .ok (.aload_n 0, 1) := by decide +kernel
theorem d_Model_answer_57 : decode b_Model_answer 57 = .ok (.iconst 0, 1) := by decide +kernel
theorem d_Model_answer_58 : decode b_Model_answer 58 = .ok (.putfield 39, 3) := by decide +kernel
theorem d_Model_answer_61 : decode b_Model_answer 61 = .ok (.iload_n 2, 1) := by decide +kernel
theorem d_Model_answer_62 : decode b_Model_answer 62 = .ok (.ifCond .le 83, 3) := by decide +kernel
theorem d_Model_answer_65 : decode b_Model_answer 65 = .ok (.aload_n 0, 1) := by decide +kernel
theorem d_Model_answer_66 : decode b_Model_answer 66 = .ok (.iconst 0, 1) := by decide +kernel
theorem d_Model_answer_67 : decode b_Model_answer 67 = .ok (.iload_n 2, 1) := by decide +kernel
theorem d_Model_answer_68 : decode b_Model_answer 68 = .ok (.iconst 1, 1) := by decide +kernel
theorem d_Model_answer_69 : decode b_Model_answer 69 = .ok (.isub, 1) := by decide +kernel
theorem d_Model_answer_70 : decode b_Model_answer 70 = .ok (.invokevirtual 114, 3) := by decide +kernel
theorem d_Model_answer_73 : decode b_Model_answer 73 = .ok (.goto 72, 3) := by decide +kernel
theorem d_Model_answer_76 : decode b_Model_answer 76 = .ok (.iconst 0, 1) := by decide +kernel
theorem d_Model_answer_77 : decode b_Model_answer 77 = .ok (.istore 4, 2) := by decide +kernel
theorem d_Model_answer_79 : decode b_Model_answer 79 = .ok (.iload 4, 2) := by decide +kernel
theorem d_Model_answer_81 : decode b_Model_answer 81 = .ok (.aload_n 0, 1) := by decide +kernel
theorem d_Model_answer_82 : decode b_Model_answer 82 = .ok (.getfield 98, 3) := by decide +kernel
theorem d_Model_answer_85 : decode b_Model_answer 85 = .ok (.if_icmp .ge 44, 3) := by decide +kernel
theorem d_Model_answer_88 : decode b_Model_answer 88 = .ok (.aload_n 0, 1) := by decide +kernel
theorem d_Model_answer_89 : decode b_Model_answer 89 = .ok (.getfield 33, 3) := by decide +kernel
theorem d_Model_answer_92 : decode b_Model_answer 92 = .ok (.iload 4, 2) := by decide +kernel
theorem d_Model_answer_94 : decode b_Model_answer 94 = .ok (.iaload, 1) := by decide +kernel
theorem d_Model_answer_95 : decode b_Model_answer 95 = .ok (.aload_n 0, 1) := by decide +kernel
theorem d_Model_answer_96 : decode b_Model_answer 96 = .ok (.getfield 36, 3) := by decide +kernel
theorem d_Model_answer_99 : decode b_Model_answer 99 = .ok (.iload 4, 2) := by decide +kernel
theorem d_Model_answer_101 : decode b_Model_answer 101 = .ok (.iaload, 1) := by decide +kernel
theorem d_Model_answer_102 : decode b_Model_answer 102 = .ok (.if_icmp .gt 21, 3) := by decide +kernel
theorem d_Model_answer_105 : decode b_Model_answer 105 = .ok (.aload_n 0, 1) := by decide +kernel
theorem d_Model_answer_106 : decode b_Model_answer 106 = .ok (.aload_n 0, 1) := by decide +kernel
theorem d_Model_answer_107 : decode b_Model_answer 107 = .ok (.getfield 33, 3) := by decide +kernel
theorem d_Model_answer_110 : decode b_Model_answer 110 = .ok (.iload 4, 2) := by decide +kernel
theorem d_Model_answer_112 : decode b_Model_answer 112 = .ok (.iaload, 1) := by decide +kernel
theorem d_Model_answer_113 : decode b_Model_answer 113 = .ok (.aload_n 0, 1) := by decide +kernel
theorem d_Model_answer_114 : decode b_Model_answer 114 = .ok (.getfield 36, 3) := by decide +kernel
theorem d_Model_answer_117 : decode b_Model_answer 117 = .ok (.iload 4, 2) := by decide +kernel
theorem d_Model_answer_119 : decode b_Model_answer 119 = .ok (.iaload, 1) := by decide +kernel
theorem d_Model_answer_120 : decode b_Model_answer 120 = .ok (.invokevirtual 114, 3) := by decide +kernel
theorem d_Model_answer_123 : decode b_Model_answer 123 = .ok (.iinc 4 1, 3) := by decide +kernel
theorem d_Model_answer_126 : decode b_Model_answer 126 = .ok (.goto (-47), 3) := by decide +kernel
theorem d_Model_answer_129 : decode b_Model_answer 129 = .ok (.aload_n 0, 1) := by decide +kernel
theorem d_Model_answer_130 : decode b_Model_answer 130 = .ok (.aload_n 0, 1) := by decide +kernel
theorem d_Model_answer_131 : decode b_Model_answer 131 = .ok (.getfield 111, 3) := by decide +kernel
theorem d_Model_answer_134 : decode b_Model_answer 134 = .ok (.ifCond .ne 7, 3) := by decide +kernel
theorem d_Model_answer_137 : decode b_Model_answer 137 = .ok (.iconst 2, 1) := by decide +kernel
theorem d_Model_answer_138 : decode b_Model_answer 138 = .ok (.goto 4, 3) := by decide +kernel
theorem d_Model_answer_141 : decode b_Model_answer 141 = .ok (.iconst 1, 1) := by decide +kernel
theorem d_Model_answer_142 : decode b_Model_answer 142 = .ok (.putfield 39, 3) := by decide +kernel
theorem d_Model_answer_145 : decode b_Model_answer 145 = .ok (.aload_n 0, 1) := by decide +kernel
theorem d_Model_answer_146 : decode b_Model_answer 146 = .ok (.invokevirtual 139, 3) := by decide +kernel
theorem d_Model_answer_149 : decode b_Model_answer 149 = .ok (.aload_n 0, 1) := by decide +kernel
theorem d_Model_answer_150 : decode b_Model_answer 150 = .ok (.getfield 39, 3) := by decide +kernel
theorem d_Model_answer_153 : decode b_Model_answer 153 = .ok (.iconst 1, 1) := by decide +kernel
theorem d_Model_answer_154 : decode b_Model_answer 154 = .ok (.if_icmp .ne 14, 3) := by decide +kernel
theorem d_Model_answer_157 : decode b_Model_answer 157 = .ok (.aload_n 0, 1) := by decide +kernel
theorem d_Model_answer_158 : decode b_Model_answer 158 = .ok (.invokevirtual 142, 3) := by decide +kernel
theorem d_Model_answer_161 : decode b_Model_answer 161 = .ok (.ifCond .ne 7, 3) := by decide +kernel
theorem d_Model_answer_164 : decode b_Model_answer 164 = .ok (.aload_n 0, 1) := by decide +kernel
theorem d_Model_answer_165 : decode b_Model_answer 165 = .ok (.invokevirtual 146, 3) := by decide +kernel
theorem d_Model_answer_168 : decode b_Model_answer 168 = .ok (.aload_n 0, 1) := by decide +kernel
theorem d_Model_answer_169 : decode b_Model_answer 169 = .ok (.iload_n 1, 1) := by decide +kernel
theorem d_Model_answer_170 : decode b_Model_answer 170 = .ok (.invokevirtual 149, 3) := by decide +kernel
theorem d_Model_answer_173 : decode b_Model_answer 173 = .ok (.aload_n 0, 1) := by decide +kernel
theorem d_Model_answer_174 : decode b_Model_answer 174 = .ok (.getfield 39, 3) := by decide +kernel
theorem d_Model_answer_177 : decode b_Model_answer 177 = .ok (.iconst 2, 1) := by decide +kernel
theorem d_Model_answer_178 : decode b_Model_answer 178 = .ok (.if_icmp .eq 8, 3) := by decide +kernel
theorem d_Model_answer_181 : decode b_Model_answer 181 = .ok (.aload_n 0, 1) := by decide +kernel
theorem d_Model_answer_182 : decode b_Model_answer 182 = .ok (.iload_n 1, 1) := by decide +kernel
theorem d_Model_answer_183 : decode b_Model_answer 183 = .ok (.invokevirtual 83, 3) := by decide +kernel
theorem d_Model_answer_186 : decode b_Model_answer 186 = .ok (.aload_n 0, 1) := by decide +kernel
theorem d_Model_answer_187 : decode b_Model_answer 187 = .ok (.getfield 39, 3) := by decide +kernel
theorem d_Model_answer_190 : decode b_Model_answer 190 = .ok (.ireturn, 1) := by decide +kernel
theorem d_Model_told_0 : decode b_Model_told 0 = .ok (.aload_n 0, 1) := by decide +kernel
theorem d_Model_told_1 : decode b_Model_told 1 = .ok (.iconst 0, 1) := by decide +kernel
theorem d_Model_told_2 : decode b_Model_told 2 = .ok (.putfield 57, 3) := by decide +kernel
theorem d_Model_told_5 : decode b_Model_told 5 = .ok (.aload_n 0, 1) := by decide +kernel
theorem d_Model_told_6 : decode b_Model_told 6 = .ok (.getfield 39, 3) := by decide +kernel
theorem d_Model_told_9 : decode b_Model_told 9 = .ok (.iconst (-1), 1) := by decide +kernel
theorem d_Model_told_10 : decode b_Model_told 10 = .ok (.if_icmp .ne 5, 3) := by decide +kernel
theorem d_Model_told_13 : decode b_Model_told 13 = .ok (.iconst (-1), 1) := by decide +kernel
theorem d_Model_told_14 : decode b_Model_told 14 = .ok (.ireturn, 1) := by decide +kernel
theorem d_Model_told_15 : decode b_Model_told 15 = .ok (.iload_n 1, 1) := by decide +kernel
theorem d_Model_told_16 : decode b_Model_told 16 = .ok (.tableswitch 70 0 5 #[40, 45, 50, 55, 60, 65], 40) := by decide +kernel
theorem d_Model_told_56 : decode b_Model_told 56 = .ok (.aload_n 0, 1) := by decide +kernel
theorem d_Model_told_57 : decode b_Model_told 57 = .ok (.getfield 111, 3) := by decide +kernel
theorem d_Model_told_60 : decode b_Model_told 60 = .ok (.ireturn, 1) := by decide +kernel
theorem d_Model_told_61 : decode b_Model_told 61 = .ok (.aload_n 0, 1) := by decide +kernel
theorem d_Model_told_62 : decode b_Model_told 62 = .ok (.getfield 124, 3) := by decide +kernel
theorem d_Model_told_65 : decode b_Model_told 65 = .ok (.ireturn, 1) := by decide +kernel
theorem d_Model_told_66 : decode b_Model_told 66 = .ok (.aload_n 0, 1) := by decide +kernel
theorem d_Model_told_67 : decode b_Model_told 67 = .ok (.getfield 127, 3) := by decide +kernel
theorem d_Model_told_70 : decode b_Model_told 70 = .ok (.ireturn, 1) := by decide +kernel
theorem d_Model_told_71 : decode b_Model_told 71 = .ok (.aload_n 0, 1) := by decide +kernel
theorem d_Model_told_72 : decode b_Model_told 72 = .ok (.getfield 118, 3) := by decide +kernel
theorem d_Model_told_75 : decode b_Model_told 75 = .ok (.ireturn, 1) := by decide +kernel
theorem d_Model_told_76 : decode b_Model_told 76 = .ok (.aload_n 0, 1) := by decide +kernel
theorem d_Model_told_77 : decode b_Model_told 77 = .ok (.getfield 121, 3) := by decide +kernel
theorem d_Model_told_80 : decode b_Model_told 80 = .ok (.ireturn, 1) := by decide +kernel
theorem d_Model_told_81 : decode b_Model_told 81 = .ok (.aload_n 0, 1) := by decide +kernel
theorem d_Model_told_82 : decode b_Model_told 82 = .ok (.getfield 136, 3) := by decide +kernel
theorem d_Model_told_85 : decode b_Model_told 85 = .ok (.ireturn, 1) := by decide +kernel
theorem d_Model_told_86 : decode b_Model_told 86 = .ok (.iconst (-1), 1) := by decide +kernel
theorem d_Model_told_87 : decode b_Model_told 87 = .ok (.ireturn, 1) := by decide +kernel
theorem d_Model_row_0 : decode b_Model_row 0 = .ok (.aload_n 0, 1) := by decide +kernel
theorem d_Model_row_1 : decode b_Model_row 1 = .ok (.aload_n 0, 1) := by decide +kernel
theorem d_Model_row_2 : decode b_Model_row 2 = .ok (.getfield 39, 3) := by decide +kernel
theorem d_Model_row_5 : decode b_Model_row 5 = .ok (.iconst (-1), 1) := by decide +kernel
theorem d_Model_row_6 : decode b_Model_row 6 = .ok (.if_icmp .eq 19, 3) := by decide +kernel
theorem d_Model_row_9 : decode b_Model_row 9 = .ok (.iload_n 1, 1) := by decide +kernel
theorem d_Model_row_10 : decode b_Model_row 10 = .ok (.ifCond .lt 15, 3) := by decide +kernel
theorem d_Model_row_13 : decode b_Model_row 13 = .ok (.iload_n 1, 1) := by decide +kernel
theorem d_Model_row_14 : decode b_Model_row 14 = .ok (.aload_n 0, 1) := by decide +kernel
theorem d_Model_row_15 : decode b_Model_row 15 = .ok (.getfield 111, 3) := by decide +kernel
theorem d_Model_row_18 : decode b_Model_row 18 = .ok (.if_icmp .ge 7, 3) := by decide +kernel
theorem d_Model_row_21 : decode b_Model_row 21 = .ok (.iconst 0, 1) := by decide +kernel
theorem d_Model_row_22 : decode b_Model_row 22 = .ok (.goto 4, 3) := by decide +kernel
theorem d_Model_row_25 : decode b_Model_row 25 = .ok (.iconst 1, 1) := by decide +kernel
theorem d_Model_row_26 : decode b_Model_row 26 = .ok (.putfield 57, 3) := by decide +kernel
theorem d_Model_row_29 : decode b_Model_row 29 = .ok (.aload_n 0, 1) := by decide +kernel
theorem d_Model_row_30 : decode b_Model_row 30 = .ok (.getfield 57, 3) := by decide +kernel
theorem d_Model_row_33 : decode b_Model_row 33 = .ok (.ifCond .le 7, 3) := by decide +kernel
theorem d_Model_row_36 : decode b_Model_row 36 = .ok (.iconst 0, 1) := by decide +kernel
theorem d_Model_row_37 : decode b_Model_row 37 = .ok (.goto 22, 3) := by decide +kernel
theorem d_Model_row_40 : decode b_Model_row 40 = .ok (.iload_n 2, 1) := by decide +kernel
theorem d_Model_row_41 : decode b_Model_row 41 = .ok (.ifCond .eq 12, 3) := by decide +kernel
theorem d_Model_row_44 : decode b_Model_row 44 = .ok (.aload_n 0, 1) := by decide +kernel
theorem d_Model_row_45 : decode b_Model_row 45 = .ok (.getfield 45, 3) := by decide +kernel
theorem d_Model_row_48 : decode b_Model_row 48 = .ok (.iload_n 1, 1) := by decide +kernel
theorem d_Model_row_49 : decode b_Model_row 49 = .ok (.iaload, 1) := by decide +kernel
theorem d_Model_row_50 : decode b_Model_row 50 = .ok (.goto 9, 3) := by decide +kernel
theorem d_Model_row_53 : decode b_Model_row 53 = .ok (.aload_n 0, 1) := by decide +kernel
theorem d_Model_row_54 : decode b_Model_row 54 = .ok (.getfield 42, 3) := by decide +kernel
theorem d_Model_row_57 : decode b_Model_row 57 = .ok (.iload_n 1, 1) := by decide +kernel
theorem d_Model_row_58 : decode b_Model_row 58 = .ok (.iaload, 1) := by decide +kernel
theorem d_Model_row_59 : decode b_Model_row 59 = .ok (.ireturn, 1) := by decide +kernel
theorem d_Model_fetch_0 : decode b_Model_fetch 0 = .ok (.aload_n 0, 1) := by decide +kernel
theorem d_Model_fetch_1 : decode b_Model_fetch 1 = .ok (.aload_n 0, 1) := by decide +kernel
theorem d_Model_fetch_2 : decode b_Model_fetch 2 = .ok (.getfield 39, 3) := by decide +kernel
theorem d_Model_fetch_5 : decode b_Model_fetch 5 = .ok (.iconst (-1), 1) := by decide +kernel
theorem d_Model_fetch_6 : decode b_Model_fetch 6 = .ok (.if_icmp .eq 19, 3) := by decide +kernel
theorem d_Model_fetch_9 : decode b_Model_fetch 9 = .ok (.iload_n 1, 1) := by decide +kernel
theorem d_Model_fetch_10 : decode b_Model_fetch 10 = .ok (.ifCond .lt 15, 3) := by decide +kernel
theorem d_Model_fetch_13 : decode b_Model_fetch 13 = .ok (.iload_n 1, 1) := by decide +kernel
theorem d_Model_fetch_14 : decode b_Model_fetch 14 = .ok (.aload_n 0, 1) := by decide +kernel
theorem d_Model_fetch_15 : decode b_Model_fetch 15 = .ok (.getfield 118, 3) := by decide +kernel
theorem d_Model_fetch_18 : decode b_Model_fetch 18 = .ok (.if_icmp .ge 7, 3) := by decide +kernel
theorem d_Model_fetch_21 : decode b_Model_fetch 21 = .ok (.iconst 0, 1) := by decide +kernel
theorem d_Model_fetch_22 : decode b_Model_fetch 22 = .ok (.goto 4, 3) := by decide +kernel
theorem d_Model_fetch_25 : decode b_Model_fetch 25 = .ok (.iconst 1, 1) := by decide +kernel
theorem d_Model_fetch_26 : decode b_Model_fetch 26 = .ok (.putfield 57, 3) := by decide +kernel
theorem d_Model_fetch_29 : decode b_Model_fetch 29 = .ok (.aload_n 0, 1) := by decide +kernel
theorem d_Model_fetch_30 : decode b_Model_fetch 30 = .ok (.getfield 57, 3) := by decide +kernel
theorem d_Model_fetch_33 : decode b_Model_fetch 33 = .ok (.ifCond .le 7, 3) := by decide +kernel
theorem d_Model_fetch_36 : decode b_Model_fetch 36 = .ok (.iconst 0, 1) := by decide +kernel
theorem d_Model_fetch_37 : decode b_Model_fetch 37 = .ok (.goto 22, 3) := by decide +kernel
theorem d_Model_fetch_40 : decode b_Model_fetch 40 = .ok (.iload_n 2, 1) := by decide +kernel
theorem d_Model_fetch_41 : decode b_Model_fetch 41 = .ok (.ifCond .eq 12, 3) := by decide +kernel
theorem d_Model_fetch_44 : decode b_Model_fetch 44 = .ok (.aload_n 0, 1) := by decide +kernel
theorem d_Model_fetch_45 : decode b_Model_fetch 45 = .ok (.getfield 51, 3) := by decide +kernel
theorem d_Model_fetch_48 : decode b_Model_fetch 48 = .ok (.iload_n 1, 1) := by decide +kernel
theorem d_Model_fetch_49 : decode b_Model_fetch 49 = .ok (.iaload, 1) := by decide +kernel
theorem d_Model_fetch_50 : decode b_Model_fetch 50 = .ok (.goto 9, 3) := by decide +kernel
theorem d_Model_fetch_53 : decode b_Model_fetch 53 = .ok (.aload_n 0, 1) := by decide +kernel
theorem d_Model_fetch_54 : decode b_Model_fetch 54 = .ok (.getfield 48, 3) := by decide +kernel
theorem d_Model_fetch_57 : decode b_Model_fetch 57 = .ok (.iload_n 1, 1) := by decide +kernel
theorem d_Model_fetch_58 : decode b_Model_fetch 58 = .ok (.iaload, 1) := by decide +kernel
theorem d_Model_fetch_59 : decode b_Model_fetch 59 = .ok (.ireturn, 1) := by decide +kernel
theorem d_Model_spansOf_0 : decode b_Model_spansOf 0 = .ok (.iconst 0, 1) := by decide +kernel
theorem d_Model_spansOf_1 : decode b_Model_spansOf 1 = .ok (.istore_n 2, 1) := by decide +kernel
theorem d_Model_spansOf_2 : decode b_Model_spansOf 2 = .ok (.iconst 0, 1) := by decide +kernel
theorem d_Model_spansOf_3 : decode b_Model_spansOf 3 = .ok (.istore_n 3, 1) := by decide +kernel
theorem d_Model_spansOf_4 : decode b_Model_spansOf 4 = .ok (.iload_n 3, 1) := by decide +kernel
theorem d_Model_spansOf_5 : decode b_Model_spansOf 5 = .ok (.sipush 4096, 3) := by decide +kernel
theorem d_Model_spansOf_8 : decode b_Model_spansOf 8 = .ok (.if_icmp .ge 53, 3) := by decide +kernel
theorem d_Model_spansOf_11 : decode b_Model_spansOf 11 = .ok (.iload_n 2, 1) := by decide +kernel
theorem d_Model_spansOf_12 : decode b_Model_spansOf 12 = .ok (.aload_n 0, 1) := by decide +kernel
theorem d_Model_spansOf_13 : decode b_Model_spansOf 13 = .ok (.getfield 26, 3) := by decide +kernel
theorem d_Model_spansOf_16 : decode b_Model_spansOf 16 = .ok (.sipush 4096, 3) := by decide +kernel
theorem d_Model_spansOf_19 : decode b_Model_spansOf 19 = .ok (.iload_n 1, 1) := by decide +kernel
theorem d_Model_spansOf_20 : decode b_Model_spansOf 20 = .ok (.imul, 1) := by decide +kernel
theorem d_Model_spansOf_21 : decode b_Model_spansOf 21 = .ok (.iload_n 3, 1) := by decide +kernel
theorem d_Model_spansOf_22 : decode b_Model_spansOf 22 = .ok (.iadd, 1) := by decide +kernel
theorem d_Model_spansOf_23 : decode b_Model_spansOf 23 = .ok (.baload, 1) := by decide +kernel
theorem d_Model_spansOf_24 : decode b_Model_spansOf 24 = .ok (.ifCond .eq 28, 3) := by decide +kernel
theorem d_Model_spansOf_27 : decode b_Model_spansOf 27 = .ok (.iload_n 3, 1) := by decide +kernel
theorem d_Model_spansOf_28 : decode b_Model_spansOf 28 = .ok (.ifCond .eq 20, 3) := by decide +kernel
theorem d_Model_spansOf_31 : decode b_Model_spansOf 31 = .ok (.aload_n 0, 1) := by decide +kernel
theorem d_Model_spansOf_32 : decode b_Model_spansOf 32 = .ok (.getfield 26, 3) := by decide +kernel
theorem d_Model_spansOf_35 : decode b_Model_spansOf 35 = .ok (.sipush 4096, 3) := by decide +kernel
theorem d_Model_spansOf_38 : decode b_Model_spansOf 38 = .ok (.iload_n 1, 1) := by decide +kernel
theorem d_Model_spansOf_39 : decode b_Model_spansOf 39 = .ok (.imul, 1) := by decide +kernel
theorem d_Model_spansOf_40 : decode b_Model_spansOf 40 = .ok (.iload_n 3, 1) := by decide +kernel
theorem d_Model_spansOf_41 : decode b_Model_spansOf 41 = .ok (.iadd, 1) := by decide +kernel
theorem d_Model_spansOf_42 : decode b_Model_spansOf 42 = .ok (.iconst 1, 1) := by decide +kernel
theorem d_Model_spansOf_43 : decode b_Model_spansOf 43 = .ok (.isub, 1) := by decide +kernel
theorem d_Model_spansOf_44 : decode b_Model_spansOf 44 = .ok (.baload, 1) := by decide +kernel
theorem d_Model_spansOf_45 : decode b_Model_spansOf 45 = .ok (.ifCond .ne 7, 3) := by decide +kernel
theorem d_Model_spansOf_48 : decode b_Model_spansOf 48 = .ok (.iconst 1, 1) := by decide +kernel
theorem d_Model_spansOf_49 : decode b_Model_spansOf 49 = .ok (.goto 4, 3) := by decide +kernel
theorem d_Model_spansOf_52 : decode b_Model_spansOf 52 = .ok (.iconst 0, 1) := by decide +kernel
theorem d_Model_spansOf_53 : decode b_Model_spansOf 53 = .ok (.iadd, 1) := by decide +kernel
theorem d_Model_spansOf_54 : decode b_Model_spansOf 54 = .ok (.istore_n 2, 1) := by decide +kernel
theorem d_Model_spansOf_55 : decode b_Model_spansOf 55 = .ok (.iinc 3 1, 3) := by decide +kernel
theorem d_Model_spansOf_58 : decode b_Model_spansOf 58 = .ok (.goto (-54), 3) := by decide +kernel
theorem d_Model_spansOf_61 : decode b_Model_spansOf 61 = .ok (.iload_n 2, 1) := by decide +kernel
theorem d_Model_spansOf_62 : decode b_Model_spansOf 62 = .ok (.ireturn, 1) := by decide +kernel
theorem d_Model_firstGap_0 : decode b_Model_firstGap 0 = .ok (.iconst 0, 1) := by decide +kernel
theorem d_Model_firstGap_1 : decode b_Model_firstGap 1 = .ok (.istore_n 2, 1) := by decide +kernel
theorem d_Model_firstGap_2 : decode b_Model_firstGap 2 = .ok (.iload_n 2, 1) := by decide +kernel
theorem d_Model_firstGap_3 : decode b_Model_firstGap 3 = .ok (.aload_n 0, 1) := by decide +kernel
theorem d_Model_firstGap_4 : decode b_Model_firstGap 4 = .ok (.getfield 20, 3) := by decide +kernel
theorem d_Model_firstGap_7 : decode b_Model_firstGap 7 = .ok (.iload_n 1, 1) := by decide +kernel
theorem d_Model_firstGap_8 : decode b_Model_firstGap 8 = .ok (.iaload, 1) := by decide +kernel
theorem d_Model_firstGap_9 : decode b_Model_firstGap 9 = .ok (.if_icmp .ge 26, 3) := by decide +kernel
theorem d_Model_firstGap_12 : decode b_Model_firstGap 12 = .ok (.aload_n 0, 1) := by decide +kernel
theorem d_Model_firstGap_13 : decode b_Model_firstGap 13 = .ok (.getfield 26, 3) := by decide +kernel
theorem d_Model_firstGap_16 : decode b_Model_firstGap 16 = .ok (.sipush 4096, 3) := by decide +kernel
theorem d_Model_firstGap_19 : decode b_Model_firstGap 19 = .ok (.iload_n 1, 1) := by decide +kernel
theorem d_Model_firstGap_20 : decode b_Model_firstGap 20 = .ok (.imul, 1) := by decide +kernel
theorem d_Model_firstGap_21 : decode b_Model_firstGap 21 = .ok (.iload_n 2, 1) := by decide +kernel
theorem d_Model_firstGap_22 : decode b_Model_firstGap 22 = .ok (.iadd, 1) := by decide +kernel
theorem d_Model_firstGap_23 : decode b_Model_firstGap 23 = .ok (.baload, 1) := by decide +kernel
theorem d_Model_firstGap_24 : decode b_Model_firstGap 24 = .ok (.ifCond .ne 5, 3) := by decide +kernel
theorem d_Model_firstGap_27 : decode b_Model_firstGap 27 = .ok (.iload_n 2, 1) := by decide +kernel
theorem d_Model_firstGap_28 : decode b_Model_firstGap 28 = .ok (.ireturn, 1) := by decide +kernel
theorem d_Model_firstGap_29 : decode b_Model_firstGap 29 = .ok (.iinc 2 1, 3) := by decide +kernel
theorem d_Model_firstGap_32 : decode b_Model_firstGap 32 = .ok (.goto (-30), 3) := by decide +kernel
theorem d_Model_firstGap_35 : decode b_Model_firstGap 35 = .ok (.iconst (-1), 1) := by decide +kernel
theorem d_Model_firstGap_36 : decode b_Model_firstGap 36 = .ok (.ireturn, 1) := by decide +kernel
theorem d_Model_about_0 : decode b_Model_about 0 = .ok (.aload_n 0, 1) := by decide +kernel
theorem d_Model_about_1 : decode b_Model_about 1 = .ok (.iconst 0, 1) := by decide +kernel
theorem d_Model_about_2 : decode b_Model_about 2 = .ok (.putfield 57, 3) := by decide +kernel
theorem d_Model_about_5 : decode b_Model_about 5 = .ok (.iload_n 1, 1) := by decide +kernel
theorem d_Model_about_6 : decode b_Model_about 6 = .ok (.invokestatic 60, 3) := by decide +kernel
theorem d_Model_about_9 : decode b_Model_about 9 = .ok (.ifCond .ne 5, 3) := by decide +kernel
theorem d_Model_about_12 : decode b_Model_about 12 = .ok (.iconst (-1), 1) := by decide +kernel
theorem d_Model_about_13 : decode b_Model_about 13 = .ok (.ireturn, 1) := by decide +kernel
theorem d_Model_about_14 : decode b_Model_about 14 = .ok (.iload_n 2, 1) := by decide +kernel
theorem d_Model_about_15 : decode b_Model_about 15 = .ok (.tableswitch 54 0 3 #[29, 36, 42, 48], 29) := by decide +kernel
theorem d_Model_about_44 : decode b_Model_about 44 = .ok (.aload_n 0, 1) := by decide +kernel
theorem d_Model_about_45 : decode b_Model_about 45 = .ok (.getfield 20, 3) := by decide +kernel
theorem d_Model_about_48 : decode b_Model_about 48 = .ok (.iload_n 1, 1) := by decide +kernel
theorem d_Model_about_49 : decode b_Model_about 49 = .ok (.iaload, 1) := by decide +kernel
theorem d_Model_about_50 : decode b_Model_about 50 = .ok (.ireturn, 1) := by decide +kernel
theorem d_Model_about_51 : decode b_Model_about 51 = .ok (.aload_n 0, 1) := by decide +kernel
theorem d_Model_about_52 : decode b_Model_about 52 = .ok (.iload_n 1, 1) := by decide +kernel
theorem d_Model_about_53 : decode b_Model_about 53 = .ok (.invokevirtual 76, 3) := by decide +kernel
theorem d_Model_about_56 : decode b_Model_about 56 = .ok (.ireturn, 1) := by decide +kernel
theorem d_Model_about_57 : decode b_Model_about 57 = .ok (.aload_n 0, 1) := by decide +kernel
theorem d_Model_about_58 : decode b_Model_about 58 = .ok (.iload_n 1, 1) := by decide +kernel
theorem d_Model_about_59 : decode b_Model_about 59 = .ok (.invokevirtual 152, 3) := by decide +kernel
theorem d_Model_about_62 : decode b_Model_about 62 = .ok (.ireturn, 1) := by decide +kernel
theorem d_Model_about_63 : decode b_Model_about 63 = .ok (.aload_n 0, 1) := by decide +kernel
theorem d_Model_about_64 : decode b_Model_about 64 = .ok (.iload_n 1, 1) := by decide +kernel
theorem d_Model_about_65 : decode b_Model_about 65 = .ok (.invokevirtual 155, 3) := by decide +kernel
theorem d_Model_about_68 : decode b_Model_about 68 = .ok (.ireturn, 1) := by decide +kernel
theorem d_Model_about_69 : decode b_Model_about 69 = .ok (.iconst (-1), 1) := by decide +kernel
theorem d_Model_about_70 : decode b_Model_about 70 = .ok (.ireturn, 1) := by decide +kernel
theorem d_Model_held_0 : decode b_Model_held 0 = .ok (.aload_n 0, 1) := by decide +kernel
theorem d_Model_held_1 : decode b_Model_held 1 = .ok (.iconst 0, 1) := by decide +kernel
theorem d_Model_held_2 : decode b_Model_held 2 = .ok (.putfield 57, 3) := by decide +kernel
theorem d_Model_held_5 : decode b_Model_held 5 = .ok (.iload_n 1, 1) := by decide +kernel
theorem d_Model_held_6 : decode b_Model_held 6 = .ok (.invokestatic 60, 3) := by decide +kernel
theorem d_Model_held_9 : decode b_Model_held 9 = .ok (.ifCond .eq 33, 3) := by decide +kernel
theorem d_Model_held_12 : decode b_Model_held 12 = .ok (.iload_n 2, 1) := by decide +kernel
theorem d_Model_held_13 : decode b_Model_held 13 = .ok (.ifCond .lt 29, 3) := by decide +kernel
theorem d_Model_held_16 : decode b_Model_held 16 = .ok (.iload_n 2, 1) := by decide +kernel
theorem d_Model_held_17 : decode b_Model_held 17 = .ok (.sipush 4096, 3) := by decide +kernel
theorem d_Model_held_20 : decode b_Model_held 20 = .ok (.if_icmp .ge 22, 3) := by decide +kernel
theorem d_Model_held_23 : decode b_Model_held 23 = .ok (.aload_n 0, 1) := by decide +kernel
theorem d_Model_held_24 : decode b_Model_held 24 = .ok (.getfield 26, 3) := by decide +kernel
theorem d_Model_held_27 : decode b_Model_held 27 = .ok (.sipush 4096, 3) := by decide +kernel
theorem d_Model_held_30 : decode b_Model_held 30 = .ok (.iload_n 1, 1) := by decide +kernel
theorem d_Model_held_31 : decode b_Model_held 31 = .ok (.imul, 1) := by decide +kernel
theorem d_Model_held_32 : decode b_Model_held 32 = .ok (.iload_n 2, 1) := by decide +kernel
theorem d_Model_held_33 : decode b_Model_held 33 = .ok (.iadd, 1) := by decide +kernel
theorem d_Model_held_34 : decode b_Model_held 34 = .ok (.baload, 1) := by decide +kernel
theorem d_Model_held_35 : decode b_Model_held 35 = .ok (.ifCond .eq 7, 3) := by decide +kernel
theorem d_Model_held_38 : decode b_Model_held 38 = .ok (.iconst 1, 1) := by decide +kernel
theorem d_Model_held_39 : decode b_Model_held 39 = .ok (.goto 4, 3) := by decide +kernel
theorem d_Model_held_42 : decode b_Model_held 42 = .ok (.iconst 0, 1) := by decide +kernel
theorem d_Model_held_43 : decode b_Model_held 43 = .ok (.ireturn, 1) := by decide +kernel
