theorem d_Shelf_init_0 : decode b_Shelf_init 0 = .ok (.aload_n 0, 1) := by decide +kernel
theorem d_Shelf_init_1 : decode b_Shelf_init 1 = .ok (.invokespecial 1, 3) := by decide +kernel
theorem d_Shelf_init_4 : decode b_Shelf_init 4 = .ok (.aload_n 0, 1) := by decide +kernel
theorem d_Shelf_init_5 : decode b_Shelf_init 5 = .ok (.new 7, 3) := by decide +kernel
theorem d_Shelf_init_8 : decode b_Shelf_init 8 = .ok (.dup, 1) := by decide +kernel
theorem d_Shelf_init_9 : decode b_Shelf_init 9 = .ok (.invokespecial 9, 3) := by decide +kernel
theorem d_Shelf_init_12 : decode b_Shelf_init 12 = .ok (.putfield 10, 3) := by decide +kernel
theorem d_Shelf_init_15 : decode b_Shelf_init 15 = .ok (.aload_n 0, 1) := by decide +kernel
theorem d_Shelf_init_16 : decode b_Shelf_init 16 = .ok (.bipush 6, 2) := by decide +kernel
theorem d_Shelf_init_18 : decode b_Shelf_init 18 = .ok (.anewarray 16, 3) := by decide +kernel
theorem d_Shelf_init_21 : decode b_Shelf_init 21 = .ok (.putfield 18, 3) := by decide +kernel
theorem d_Shelf_init_24 : decode b_Shelf_init 24 = .ok (.iconst 0, 1) := by decide +kernel
theorem d_Shelf_init_25 : decode b_Shelf_init 25 = .ok (.istore_n 1, 1) := by decide +kernel
theorem d_Shelf_init_26 : decode b_Shelf_init 26 = .ok (.iload_n 1, 1) := by decide +kernel
theorem d_Shelf_init_27 : decode b_Shelf_init 27 = .ok (.bipush 6, 2) := by decide +kernel
theorem d_Shelf_init_29 : decode b_Shelf_init 29 = .ok (.if_icmp .ge 22, 3) := by decide +kernel
theorem d_Shelf_init_32 : decode b_Shelf_init 32 = .ok (.aload_n 0, 1) := by decide +kernel
theorem d_Shelf_init_33 : decode b_Shelf_init 33 = .ok (.getfield 18, 3) := by decide +kernel
theorem d_Shelf_init_36 : decode b_Shelf_init 36 = .ok (.iload_n 1, 1) := by decide +kernel
theorem d_Shelf_init_37 : decode b_Shelf_init 37 = .ok (.new 16, 3) := by decide +kernel
theorem d_Shelf_init_40 : decode b_Shelf_init 40 = .ok (.dup, 1) := by decide +kernel
theorem d_Shelf_init_41 : decode b_Shelf_init 41 = .ok (.invokespecial 22, 3) := by decide +kernel
theorem d_Shelf_init_44 : decode b_Shelf_init 44 = .ok (.aastore, 1) := by decide +kernel
theorem d_Shelf_init_45 : decode b_Shelf_init 45 = .ok (.iinc 1 1, 3) := by decide +kernel
theorem d_Shelf_init_48 : decode b_Shelf_init 48 = .ok (.goto (-22), 3) := by decide +kernel
theorem d_Shelf_init_51 : decode b_Shelf_init 51 = .ok (.aload_n 0, 1) := by decide +kernel
theorem d_Shelf_init_52 : decode b_Shelf_init 52 = .ok (.new 23, 3) := by decide +kernel
theorem d_Shelf_init_55 : decode b_Shelf_init 55 = .ok (.dup, 1) := by decide +kernel
theorem d_Shelf_init_56 : decode b_Shelf_init 56 = .ok (.invokespecial 25, 3) := by decide +kernel
theorem d_Shelf_init_59 : decode b_Shelf_init 59 = .ok (.putfield 26, 3) := by decide +kernel
theorem d_Shelf_init_62 : decode b_Shelf_init 62 = .ok (.aload_n 0, 1) := by decide +kernel
theorem d_Shelf_init_63 : decode b_Shelf_init 63 = .ok (.sipush 8000, 3) := by decide +kernel
theorem d_Shelf_init_66 : decode b_Shelf_init 66 = .ok (.putfield 30, 3) := by decide +kernel
theorem d_Shelf_init_69 : decode b_Shelf_init 69 = .ok (.aload_n 0, 1) := by decide +kernel
theorem d_Shelf_init_70 : decode b_Shelf_init 70 = .ok (.bipush 100, 2) := by decide +kernel
theorem d_Shelf_init_72 : decode b_Shelf_init 72 = .ok (.putfield 34, 3) := by decide +kernel
theorem d_Shelf_init_75 : decode b_Shelf_init 75 = .ok (.aload_n 0, 1) := by decide +kernel
theorem d_Shelf_init_76 : decode b_Shelf_init 76 = .ok (.lconst 0, 1) := by decide +kernel
theorem d_Shelf_init_77 : decode b_Shelf_init 77 = .ok (.putfield 37, 3) := by decide +kernel
theorem d_Shelf_init_80 : decode b_Shelf_init 80 = .ok (.return_, 1) := by decide +kernel
theorem d_Shelf_type_0 : decode b_Shelf_type 0 = .ok (.aload_n 0, 1) := by decide +kernel
theorem d_Shelf_type_1 : decode b_Shelf_type 1 = .ok (.getfield 10, 3) := by decide +kernel
theorem d_Shelf_type_4 : decode b_Shelf_type 4 = .ok (.lload_n 1, 1) := by decide +kernel
theorem d_Shelf_type_5 : decode b_Shelf_type 5 = .ok (.iload_n 3, 1) := by decide +kernel
theorem d_Shelf_type_6 : decode b_Shelf_type 6 = .ok (.invokevirtual 41, 3) := by decide +kernel
theorem d_Shelf_type_9 : decode b_Shelf_type 9 = .ok (.ireturn, 1) := by decide +kernel
theorem d_Shelf_thing_0 : decode b_Shelf_thing 0 = .ok (.aload_n 0, 1) := by decide +kernel
theorem d_Shelf_thing_1 : decode b_Shelf_thing 1 = .ok (.iload_n 1, 1) := by decide +kernel
theorem d_Shelf_thing_2 : decode b_Shelf_thing 2 = .ok (.invokevirtual 45, 3) := by decide +kernel
theorem d_Shelf_thing_5 : decode b_Shelf_thing 5 = .ok (.astore 4, 2) := by decide +kernel
theorem d_Shelf_thing_7 : decode b_Shelf_thing 7 = .ok (.aload 4, 2) := by decide +kernel
theorem d_Shelf_thing_9 : decode b_Shelf_thing 9 = .ok (.ifnull 14, 3) := by decide +kernel
theorem d_Shelf_thing_12 : decode b_Shelf_thing 12 = .ok (.iload_n 2, 1) := by decide +kernel
theorem d_Shelf_thing_13 : decode b_Shelf_thing 13 = .ok (.ifCond .lt 10, 3) := by decide +kernel
theorem d_Shelf_thing_16 : decode b_Shelf_thing 16 = .ok (.iload_n 2, 1) := by decide +kernel
theorem d_Shelf_thing_17 : decode b_Shelf_thing 17 = .ok (.sipush 4095, 3) := by decide +kernel
theorem d_Shelf_thing_20 : decode b_Shelf_thing 20 = .ok (.if_icmp .le 5, 3) := by decide +kernel
theorem d_Shelf_thing_23 : decode b_Shelf_thing 23 = .ok (.iconst 0, 1) := by decide +kernel
theorem d_Shelf_thing_24 : decode b_Shelf_thing 24 = .ok (.ireturn, 1) := by decide +kernel
theorem d_Shelf_thing_25 : decode b_Shelf_thing 25 = .ok (.aload 4, 2) := by decide +kernel
theorem d_Shelf_thing_27 : decode b_Shelf_thing 27 = .ok (.iload_n 2, 1) := by decide +kernel
theorem d_Shelf_thing_28 : decode b_Shelf_thing 28 = .ok (.iload_n 3, 1) := by decide +kernel
theorem d_Shelf_thing_29 : decode b_Shelf_thing 29 = .ok (.invokevirtual 49, 3) := by decide +kernel
theorem d_Shelf_thing_32 : decode b_Shelf_thing 32 = .ok (.iconst 1, 1) := by decide +kernel
theorem d_Shelf_thing_33 : decode b_Shelf_thing 33 = .ok (.ireturn, 1) := by decide +kernel
theorem d_Shelf_forget_0 : decode b_Shelf_forget 0 = .ok (.aload_n 0, 1) := by decide +kernel
theorem d_Shelf_forget_1 : decode b_Shelf_forget 1 = .ok (.iload_n 1, 1) := by decide +kernel
theorem d_Shelf_forget_2 : decode b_Shelf_forget 2 = .ok (.invokevirtual 45, 3) := by decide +kernel
theorem d_Shelf_forget_5 : decode b_Shelf_forget 5 = .ok (.astore_n 2, 1) := by decide +kernel
theorem d_Shelf_forget_6 : decode b_Shelf_forget 6 = .ok (.aload_n 2, 1) := by decide +kernel
theorem d_Shelf_forget_7 : decode b_Shelf_forget 7 = .ok (.ifnonnull 5, 3) := by decide +kernel
theorem d_Shelf_forget_10 : decode b_Shelf_forget 10 = .ok (.iconst 0, 1) := by decide +kernel
theorem d_Shelf_forget_11 : decode b_Shelf_forget 11 = .ok (.ireturn, 1) := by decide +kernel
theorem d_Shelf_forget_12 : decode b_Shelf_forget 12 = .ok (.aload_n 2, 1) := by decide +kernel
theorem d_Shelf_forget_13 : decode b_Shelf_forget 13 = .ok (.invokevirtual 53, 3) := by decide +kernel
theorem d_Shelf_forget_16 : decode b_Shelf_forget 16 = .ok (.iconst 1, 1) := by decide +kernel
theorem d_Shelf_forget_17 : decode b_Shelf_forget 17 = .ok (.ireturn, 1) := by decide +kernel
theorem d_Shelf_got_0 : decode b_Shelf_got 0 = .ok (.aload_n 0, 1) := by decide +kernel
theorem d_Shelf_got_1 : decode b_Shelf_got 1 = .ok (.iload_n 1, 1) := by decide +kernel
theorem d_Shelf_got_2 : decode b_Shelf_got 2 = .ok (.invokevirtual 45, 3) := by decide +kernel
theorem d_Shelf_got_5 : decode b_Shelf_got 5 = .ok (.astore 5, 2) := by decide +kernel
theorem d_Shelf_got_7 : decode b_Shelf_got 7 = .ok (.aload 5, 2) := by decide +kernel
theorem d_Shelf_got_9 : decode b_Shelf_got 9 = .ok (.ifnull 15, 3) := by decide +kernel
theorem d_Shelf_got_12 : decode b_Shelf_got 12 = .ok (.aload 5, 2) := by decide +kernel
theorem d_Shelf_got_14 : decode b_Shelf_got 14 = .ok (.iload_n 2, 1) := by decide +kernel
theorem d_Shelf_got_15 : decode b_Shelf_got 15 = .ok (.iload_n 3, 1) := by decide +kernel
theorem d_Shelf_got_16 : decode b_Shelf_got 16 = .ok (.iload 4, 2) := by decide +kernel
theorem d_Shelf_got_18 : decode b_Shelf_got 18 = .ok (.invokevirtual 56, 3) := by decide +kernel
theorem d_Shelf_got_21 : decode b_Shelf_got 21 = .ok (.ifCond .ne 5, 3) := by decide +kernel
theorem d_Shelf_got_24 : decode b_Shelf_got 24 = .ok (.iconst (-1), 1) := by decide +kernel
theorem d_Shelf_got_25 : decode b_Shelf_got 25 = .ok (.ireturn, 1) := by decide +kernel
theorem d_Shelf_got_26 : decode b_Shelf_got 26 = .ok (.aload 5, 2) := by decide +kernel
theorem d_Shelf_got_28 : decode b_Shelf_got 28 = .ok (.getfield 60, 3) := by decide +kernel
theorem d_Shelf_got_31 : decode b_Shelf_got 31 = .ok (.iload_n 2, 1) := by decide +kernel
theorem d_Shelf_got_32 : decode b_Shelf_got 32 = .ok (.iload_n 3, 1) := by decide +kernel
theorem d_Shelf_got_33 : decode b_Shelf_got 33 = .ok (.invokevirtual 64, 3) := by decide +kernel
theorem d_Shelf_got_36 : decode b_Shelf_got 36 = .ok (.istore 6, 2) := by decide +kernel
theorem d_Shelf_got_38 : decode b_Shelf_got 38 = .ok (.aload_n 0, 1) := by decide +kernel
theorem d_Shelf_got_39 : decode b_Shelf_got 39 = .ok (.aload 5, 2) := by decide +kernel
theorem d_Shelf_got_41 : decode b_Shelf_got 41 = .ok (.invokevirtual 70, 3) := by decide +kernel
theorem d_Shelf_got_44 : decode b_Shelf_got 44 = .ok (.aload_n 0, 1) := by decide +kernel
theorem d_Shelf_got_45 : decode b_Shelf_got 45 = .ok (.invokevirtual 74, 3) := by decide +kernel
theorem d_Shelf_got_48 : decode b_Shelf_got 48 = .ok (.iload 6, 2) := by decide +kernel
theorem d_Shelf_got_50 : decode b_Shelf_got 50 = .ok (.ireturn, 1) := by decide +kernel
theorem d_Shelf_answer_0 : decode b_Shelf_answer 0 = .ok (.aload_n 0, 1) := by decide +kernel
theorem d_Shelf_answer_1 : decode b_Shelf_answer 1 = .ok (.getfield 10, 3) := by decide +kernel
theorem d_Shelf_answer_4 : decode b_Shelf_answer 4 = .ok (.invokevirtual 77, 3) := by decide +kernel
theorem d_Shelf_answer_7 : decode b_Shelf_answer 7 = .ok (.istore_n 2, 1) := by decide +kernel
theorem d_Shelf_answer_8 : decode b_Shelf_answer 8 = .ok (.aload_n 0, 1) := by decide +kernel
theorem d_Shelf_answer_9 : decode b_Shelf_answer 9 = .ok (.getfield 10, 3) := by decide +kernel
theorem d_Shelf_answer_12 : decode b_Shelf_answer 12 = .ok (.invokevirtual 81, 3) := by decide +kernel
theorem d_Shelf_answer_15 : decode b_Shelf_answer 15 = .ok (.aload_n 0, 1) := by decide +kernel
theorem d_Shelf_answer_16 : decode b_Shelf_answer 16 = .ok (.iload_n 1, 1) := by decide +kernel
theorem d_Shelf_answer_17 : decode b_Shelf_answer 17 = .ok (.invokevirtual 45, 3) := by decide +kernel
theorem d_Shelf_answer_20 : decode b_Shelf_answer 20 = .ok (.astore_n 3, 1) := by decide +kernel
theorem d_Shelf_answer_21 : decode b_Shelf_answer 21 = .ok (.aload_n 3, 1) := by decide +kernel
theorem d_Shelf_answer_22 : decode b_Shelf_answer 22 = .ok (.ifnull 11, 3) := by decide +kernel
theorem d_Shelf_answer_25 : decode b_Shelf_answer 25 = .ok (.aload_n 3, 1) := by decide +kernel
theorem d_Shelf_answer_26 : decode b_Shelf_answer 26 = .ok (.getfield 84, 3) := by decide +kernel
theorem d_Shelf_answer_29 : decode b_Shelf_answer 29 = .ok (.iconst (-1), 1) := by decide +kernel
theorem d_Shelf_answer_30 : decode b_Shelf_answer 30 = .ok (.if_icmp .ne 13, 3) := by decide +kernel
theorem d_Shelf_answer_33 : decode b_Shelf_answer 33 = .ok (.new 87, 3) := by decide +kernel
theorem d_Shelf_answer_36 : decode b_Shelf_answer 36 = .ok (.dup, 1) := by decide +kernel
theorem d_Shelf_answer_37 : decode b_Shelf_answer 37 = .ok (.ldc 89, 2) := by decide +kernel
theorem d_Shelf_answer_39 : decode b_Shelf_answer 39 = .ok (.invokespecial 91, 3) := by decide +kernel
theorem d_Shelf_answer_42 : decode b_Shelf_answer 42 = .ok (.athrow, 1) := by decide +kernel
theorem d_Shelf_answer_43 : decode b_Shelf_answer 43 = .ok (.aload_n 0, 1) := by decide +kernel
theorem d_Shelf_answer_44 : decode b_Shelf_answer 44 = .ok (.getfield 26, 3) := by decide +kernel
theorem d_Shelf_answer_47 : decode b_Shelf_answer 47 = .ok (.iload_n 1, 1) := by decide +kernel
theorem d_Shelf_answer_48 : decode b_Shelf_answer 48 = .ok (.invokevirtual 94, 3) := by decide +kernel
theorem d_Shelf_answer_51 : decode b_Shelf_answer 51 = .ok (.aload_n 0, 1) := by decide +kernel
theorem d_Shelf_answer_52 : decode b_Shelf_answer 52 = .ok (.aload_n 3, 1) := by decide +kernel
theorem d_Shelf_answer_53 : decode b_Shelf_answer 53 = .ok (.iload_n 2, 1) := by decide +kernel
theorem d_Shelf_answer_54 : decode b_Shelf_answer 54 = .ok (.invokevirtual 98, 3) := by decide +kernel
theorem d_Shelf_answer_57 : decode b_Shelf_answer 57 = .ok (.istore 4, 2) := by decide +kernel
theorem d_Shelf_answer_59 : decode b_Shelf_answer 59 = .ok (.iload 4, 2) := by decide +kernel
theorem d_Shelf_answer_61 : decode b_Shelf_answer 61 = .ok (.iconst 2, 1) := by decide +kernel
theorem d_Shelf_answer_62 : decode b_Shelf_answer 62 = .ok (.if_icmp .eq 8, 3) := by decide +kernel
theorem d_Shelf_answer_65 : decode b_Shelf_answer 65 = .ok (.aload_n 0, 1) := by decide +kernel
theorem d_Shelf_answer_66 : decode b_Shelf_answer 66 = .ok (.aload_n 3, 1) := by decide +kernel
theorem d_Shelf_answer_67 : decode b_Shelf_answer 67 = .ok (.invokevirtual 70, 3) := by decide +kernel
theorem d_Shelf_answer_70 : decode b_Shelf_answer 70 = .ok (.aload_n 0, 1) := by decide +kernel
theorem d_Shelf_answer_71 : decode b_Shelf_answer 71 = .ok (.getfield 26, 3) := by decide +kernel
theorem d_Shelf_answer_74 : decode b_Shelf_answer 74 = .ok (.aload_n 3, 1) := by decide +kernel
theorem d_Shelf_answer_75 : decode b_Shelf_answer 75 = .ok (.getfield 60, 3) := by decide +kernel
theorem d_Shelf_answer_78 : decode b_Shelf_answer 78 = .ok (.aload_n 0, 1) := by decide +kernel
theorem d_Shelf_answer_79 : decode b_Shelf_answer 79 = .ok (.getfield 34, 3) := by decide +kernel
theorem d_Shelf_answer_82 : decode b_Shelf_answer 82 = .ok (.invokevirtual 102, 3) := by decide +kernel
theorem d_Shelf_answer_85 : decode b_Shelf_answer 85 = .ok (.iload 4, 2) := by decide +kernel
theorem d_Shelf_answer_87 : decode b_Shelf_answer 87 = .ok (.ireturn, 1) := by decide +kernel
theorem d_Shelf_told_0 : decode b_Shelf_told 0 = .ok (.aload_n 0, 1) := by decide +kernel
theorem d_Shelf_told_1 : decode b_Shelf_told 1 = .ok (.getfield 26, 3) := by decide +kernel
theorem d_Shelf_told_4 : decode b_Shelf_told 4 = .ok (.iload_n 1, 1) := by decide +kernel
theorem d_Shelf_told_5 : decode b_Shelf_told 5 = .ok (.invokevirtual 106, 3) := by decide +kernel
theorem d_Shelf_told_8 : decode b_Shelf_told 8 = .ok (.ireturn, 1) := by decide +kernel
theorem d_Shelf_row_0 : decode b_Shelf_row 0 = .ok (.iload_n 1, 1) := by decide +kernel
theorem d_Shelf_row_1 : decode b_Shelf_row 1 = .ok (.ifCond .lt 14, 3) := by decide +kernel
theorem d_Shelf_row_4 : decode b_Shelf_row 4 = .ok (.iload_n 1, 1) := by decide +kernel
theorem d_Shelf_row_5 : decode b_Shelf_row 5 = .ok (.aload_n 0, 1) := by decide +kernel
theorem d_Shelf_row_6 : decode b_Shelf_row 6 = .ok (.getfield 26, 3) := by decide +kernel
theorem d_Shelf_row_9 : decode b_Shelf_row 9 = .ok (.getfield 110, 3) := by decide +kernel
theorem d_Shelf_row_12 : decode b_Shelf_row 12 = .ok (.if_icmp .lt 13, 3) := by decide +kernel
theorem d_Shelf_row_15 : decode b_Shelf_row 15 = .ok (.new 113, 3) := by decide +kernel
theorem d_Shelf_row_18 : decode b_Shelf_row 18 = .ok (.dup, 1) := by decide +kernel
theorem d_Shelf_row_19 : decode b_Shelf_row 19 = .ok (.ldc 115, 2) := by decide +kernel
theorem d_Shelf_row_21 : decode b_Shelf_row 21 = .ok (.invokespecial 117, 3) := by decide +kernel
theorem d_Shelf_row_24 : decode b_Shelf_row 24 = .ok (.athrow, 1) := by decide +kernel
theorem d_Shelf_row_25 : decode b_Shelf_row 25 = .ok (.iload_n 2, 1) := by decide +kernel
theorem d_Shelf_row_26 : decode b_Shelf_row 26 = .ok (.ifCond .eq 15, 3) := by decide +kernel
theorem d_Shelf_row_29 : decode b_Shelf_row 29 = .ok (.aload_n 0, 1) := by decide +kernel
theorem d_Shelf_row_30 : decode b_Shelf_row 30 = .ok (.getfield 26, 3) := by decide +kernel
theorem d_Shelf_row_33 : decode b_Shelf_row 33 = .ok (.getfield 118, 3) := by decide +kernel
theorem d_Shelf_row_36 : decode b_Shelf_row 36 = .ok (.iload_n 1, 1) := by decide +kernel
theorem d_Shelf_row_37 : decode b_Shelf_row 37 = .ok (.iaload, 1) := by decide +kernel
theorem d_Shelf_row_38 : decode b_Shelf_row 38 = .ok (.goto 12, 3) := by decide +kernel
theorem d_Shelf_row_41 : decode b_Shelf_row 41 = .ok (.aload_n 0, 1) := by decide +kernel
theorem d_Shelf_row_42 : decode b_Shelf_row 42 = .ok (.getfield 26, 3) := by decide +kernel
theorem d_Shelf_row_45 : decode b_Shelf_row 45 = .ok (.getfield 122, 3) := by decide +kernel
theorem d_Shelf_row_48 : decode b_Shelf_row 48 = .ok (.iload_n 1, 1) := by decide +kernel
theorem d_Shelf_row_49 : decode b_Shelf_row 49 = .ok (.iaload, 1) := by decide +kernel
theorem d_Shelf_row_50 : decode b_Shelf_row 50 = .ok (.ireturn, 1) := by decide +kernel
theorem d_Shelf_fetch_0 : decode b_Shelf_fetch 0 = .ok (.iload_n 1, 1) := by decide +kernel
theorem d_Shelf_fetch_1 : decode b_Shelf_fetch 1 = .ok (.ifCond .lt 14, 3) := by decide +kernel
theorem d_Shelf_fetch_4 : decode b_Shelf_fetch 4 = .ok (.iload_n 1, 1) := by decide +kernel
theorem d_Shelf_fetch_5 : decode b_Shelf_fetch 5 = .ok (.aload_n 0, 1) := by decide +kernel
theorem d_Shelf_fetch_6 : decode b_Shelf_fetch 6 = .ok (.getfield 26, 3) := by decide +kernel
theorem d_Shelf_fetch_9 : decode b_Shelf_fetch 9 = .ok (.getfield 125, 3) := by decide +kernel
theorem d_Shelf_fetch_12 : decode b_Shelf_fetch 12 = .ok (.if_icmp .lt 13, 3) := by decide +kernel
theorem d_Shelf_fetch_15 : decode b_Shelf_fetch 15 = .ok (.new 113, 3) := by decide +kernel
theorem d_Shelf_fetch_18 : decode b_Shelf_fetch 18 = .ok (.dup, 1) := by decide +kernel
theorem d_Shelf_fetch_19 : decode b_Shelf_fetch 19 = .ok (.ldc 128, 2) := by decide +kernel
theorem d_Shelf_fetch_21 : decode b_Shelf_fetch 21 = .ok (.invokespecial 117, 3) := by decide +kernel
theorem d_Shelf_fetch_24 : decode b_Shelf_fetch 24 = .ok (.athrow, 1) := by decide +kernel
theorem d_Shelf_fetch_25 : decode b_Shelf_fetch 25 = .ok (.iload_n 2, 1) := by decide +kernel
theorem d_Shelf_fetch_26 : decode b_Shelf_fetch 26 = .ok (.ifCond .eq 17, 3) := by decide +kernel
theorem d_Shelf_fetch_29 : decode b_Shelf_fetch 29 = .ok (.aload_n 0, 1) := by decide +kernel
theorem d_Shelf_fetch_30 : decode b_Shelf_fetch 30 = .ok (.getfield 26, 3) := by decide +kernel
theorem d_Shelf_fetch_33 : decode b_Shelf_fetch 33 = .ok (.getfield 130, 3) := by decide +kernel
theorem d_Shelf_fetch_36 : decode b_Shelf_fetch 36 = .ok (.iload_n 1, 1) := by decide +kernel
theorem d_Shelf_fetch_37 : decode b_Shelf_fetch 37 = .ok (.invokevirtual 133, 3) := by decide +kernel
theorem d_Shelf_fetch_40 : decode b_Shelf_fetch 40 = .ok (.goto 14, 3) := by decide +kernel
theorem d_Shelf_fetch_43 : decode b_Shelf_fetch 43 = .ok (.aload_n 0, 1) := by decide +kernel
theorem d_Shelf_fetch_44 : decode b_Shelf_fetch 44 = .ok (.getfield 26, 3) := by decide +kernel
theorem d_Shelf_fetch_47 : decode b_Shelf_fetch 47 = .ok (.getfield 136, 3) := by decide +kernel
theorem d_Shelf_fetch_50 : decode b_Shelf_fetch 50 = .ok (.iload_n 1, 1) := by decide +kernel
theorem d_Shelf_fetch_51 : decode b_Shelf_fetch 51 = .ok (.invokevirtual 133, 3) := by decide +kernel
theorem d_Shelf_fetch_54 : decode b_Shelf_fetch 54 = .ok (.ireturn, 1) := by decide +kernel
theorem d_Shelf_set_0 : decode b_Shelf_set 0 = .ok (.iload_n 1, 1) := by decide +kernel
theorem d_Shelf_set_1 : decode b_Shelf_set 1 = .ok (.ifCond .ne 25, 3) := by decide +kernel
theorem d_Shelf_set_4 : decode b_Shelf_set 4 = .ok (.iload_n 2, 1) := by decide +kernel
theorem d_Shelf_set_5 : decode b_Shelf_set 5 = .ok (.ifCond .lt 21, 3) := by decide +kernel
theorem d_Shelf_set_8 : decode b_Shelf_set 8 = .ok (.iload_n 2, 1) := by decide +kernel
theorem d_Shelf_set_9 : decode b_Shelf_set 9 = .ok (.sipush 20000, 3) := by decide +kernel
theorem d_Shelf_set_12 : decode b_Shelf_set 12 = .ok (.if_icmp .gt 14, 3) := by decide +kernel
theorem d_Shelf_set_15 : decode b_Shelf_set 15 = .ok (.aload_n 0, 1) := by decide +kernel
theorem d_Shelf_set_16 : decode b_Shelf_set 16 = .ok (.iload_n 2, 1) := by decide +kernel
theorem d_Shelf_set_17 : decode b_Shelf_set 17 = .ok (.putfield 30, 3) := by decide +kernel
theorem d_Shelf_set_20 : decode b_Shelf_set 20 = .ok (.aload_n 0, 1) := by decide +kernel
theorem d_Shelf_set_21 : decode b_Shelf_set 21 = .ok (.invokevirtual 74, 3) := by decide +kernel
theorem d_Shelf_set_24 : decode b_Shelf_set 24 = .ok (.iconst 1, 1) := by decide +kernel
theorem d_Shelf_set_25 : decode b_Shelf_set 25 = .ok (.ireturn, 1) := by decide +kernel
theorem d_Shelf_set_26 : decode b_Shelf_set 26 = .ok (.iload_n 1, 1) := by decide +kernel
theorem d_Shelf_set_27 : decode b_Shelf_set 27 = .ok (.iconst 1, 1) := by decide +kernel
theorem d_Shelf_set_28 : decode b_Shelf_set 28 = .ok (.if_icmp .ne 21, 3) := by decide +kernel
theorem d_Shelf_set_31 : decode b_Shelf_set 31 = .ok (.iload_n 2, 1) := by decide +kernel
theorem d_Shelf_set_32 : decode b_Shelf_set 32 = .ok (.ifCond .lt 17, 3) := by decide +kernel
theorem d_Shelf_set_35 : decode b_Shelf_set 35 = .ok (.iload_n 2, 1) := by decide +kernel
theorem d_Shelf_set_36 : decode b_Shelf_set 36 = .ok (.sipush 1000, 3) := by decide +kernel
theorem d_Shelf_set_39 : decode b_Shelf_set 39 = .ok (.if_icmp .gt 10, 3) := by decide +kernel
theorem d_Shelf_set_42 : decode b_Shelf_set 42 = .ok (.aload_n 0, 1) := by decide +kernel
theorem d_Shelf_set_43 : decode b_Shelf_set 43 = .ok (.iload_n 2, 1) := by decide +kernel
theorem d_Shelf_set_44 : decode b_Shelf_set 44 = .ok (.putfield 34, 3) := by decide +kernel
theorem d_Shelf_set_47 : decode b_Shelf_set 47 = .ok (.iconst 1, 1) := by decide +kernel
theorem d_Shelf_set_48 : decode b_Shelf_set 48 = .ok (.ireturn, 1) := by decide +kernel
theorem d_Shelf_set_49 : decode b_Shelf_set 49 = .ok (.iconst 0, 1) := by decide +kernel
theorem d_Shelf_set_50 : decode b_Shelf_set 50 = .ok (.ireturn, 1) := by decide +kernel
theorem d_Shelf_about_0 : decode b_Shelf_about 0 = .ok (.aload_n 0, 1) := by decide +kernel
theorem d_Shelf_about_1 : decode b_Shelf_about 1 = .ok (.iload_n 1, 1) := by decide +kernel
theorem d_Shelf_about_2 : decode b_Shelf_about 2 = .ok (.invokevirtual 45, 3) := by decide +kernel
theorem d_Shelf_about_5 : decode b_Shelf_about 5 = .ok (.astore_n 3, 1) := by decide +kernel
theorem d_Shelf_about_6 : decode b_Shelf_about 6 = .ok (.aload_n 3, 1) := by decide +kernel
theorem d_Shelf_about_7 : decode b_Shelf_about 7 = .ok (.ifnonnull 5, 3) := by decide +kernel
theorem d_Shelf_about_10 : decode b_Shelf_about 10 = .ok (.iconst (-1), 1) := by decide +kernel
theorem d_Shelf_about_11 : decode b_Shelf_about 11 = .ok (.ireturn, 1) := by decide +kernel
theorem d_Shelf_about_12 : decode b_Shelf_about 12 = .ok (.iload_n 2, 1) := by decide +kernel
theorem d_Shelf_about_13 : decode b_Shelf_about 13 = .ok (.tableswitch 57 0 3 #[31, 36, 44, 52], 31) := by decide +kernel
theorem d_Shelf_about_44 : decode b_Shelf_about 44 = .ok (.aload_n 3, 1) := by decide +kernel
theorem d_Shelf_about_45 : decode b_Shelf_about 45 = .ok (.getfield 84, 3) := by decide +kernel
theorem d_Shelf_about_48 : decode b_Shelf_about 48 = .ok (.ireturn, 1) := by decide +kernel
theorem d_Shelf_about_49 : decode b_Shelf_about 49 = .ok (.aload_n 3, 1) := by decide +kernel
theorem d_Shelf_about_50 : decode b_Shelf_about 50 = .ok (.getfield 60, 3) := by decide +kernel
theorem d_Shelf_about_53 : decode b_Shelf_about 53 = .ok (.invokevirtual 139, 3) := by decide +kernel
theorem d_Shelf_about_56 : decode b_Shelf_about 56 = .ok (.ireturn, 1) := by decide +kernel
theorem d_Shelf_about_57 : decode b_Shelf_about 57 = .ok (.aload_n 3, 1) := by decide +kernel
theorem d_Shelf_about_58 : decode b_Shelf_about 58 = .ok (.getfield 60, 3) := by decide +kernel
theorem d_Shelf_about_61 : decode b_Shelf_about 61 = .ok (.invokevirtual 142, 3) := by decide +kernel
theorem d_Shelf_about_64 : decode b_Shelf_about 64 = .ok (.ireturn, 1) := by decide +kernel
theorem d_Shelf_about_65 : decode b_Shelf_about 65 = .ok (.aload_n 3, 1) := by decide +kernel
theorem d_Shelf_about_66 : decode b_Shelf_about 66 = .ok (.invokevirtual 145, 3) := by decide +kernel
theorem d_Shelf_about_69 : decode b_Shelf_about 69 = .ok (.ireturn, 1) := by decide +kernel
theorem d_Shelf_about_70 : decode b_Shelf_about 70 = .ok (.iconst (-1), 1) := by decide +kernel
theorem d_Shelf_about_71 : decode b_Shelf_about 71 = .ok (.ireturn, 1) := by decide +kernel
theorem d_Shelf_held_0 : decode b_Shelf_held 0 = .ok (.aload_n 0, 1) := by decide +kernel
theorem d_Shelf_held_1 : decode b_Shelf_held 1 = .ok (.iload_n 1, 1) := by decide +kernel
theorem d_Shelf_held_2 : decode b_Shelf_held 2 = .ok (.invokevirtual 45, 3) := by decide +kernel
theorem d_Shelf_held_5 : decode b_Shelf_held 5 = .ok (.astore_n 3, 1) := by decide +kernel
theorem d_Shelf_held_6 : decode b_Shelf_held 6 = .ok (.aload_n 3, 1) := by decide +kernel
theorem d_Shelf_held_7 : decode b_Shelf_held 7 = .ok (.ifnull 18, 3) := by decide +kernel
theorem d_Shelf_held_10 : decode b_Shelf_held 10 = .ok (.aload_n 3, 1) := by decide +kernel
theorem d_Shelf_held_11 : decode b_Shelf_held 11 = .ok (.getfield 60, 3) := by decide +kernel
theorem d_Shelf_held_14 : decode b_Shelf_held 14 = .ok (.iload_n 2, 1) := by decide +kernel
theorem d_Shelf_held_15 : decode b_Shelf_held 15 = .ok (.invokevirtual 148, 3) := by decide +kernel
theorem d_Shelf_held_18 : decode b_Shelf_held 18 = .ok (.ifCond .eq 7, 3) := by decide +kernel
theorem d_Shelf_held_21 : decode b_Shelf_held 21 = .ok (.iconst 1, 1) := by decide +kernel
theorem d_Shelf_held_22 : decode b_Shelf_held 22 = .ok (.goto 4, 3) := by decide +kernel
theorem d_Shelf_held_25 : decode b_Shelf_held 25 = .ok (.iconst 0, 1) := by decide +kernel
theorem d_Shelf_held_26 : decode b_Shelf_held 26 = .ok (.ireturn, 1) := by decide +kernel
theorem d_Shelf_find_0 : decode b_Shelf_find 0 = .ok (.iload_n 1, 1) := by decide +kernel
theorem d_Shelf_find_1 : decode b_Shelf_find 1 = .ok (.ifCond .lt 9, 3) := by decide +kernel
theorem d_Shelf_find_4 : decode b_Shelf_find 4 = .ok (.iload_n 1, 1) := by decide +kernel
theorem d_Shelf_find_5 : decode b_Shelf_find 5 = .ok (.bipush 6, 2) := by decide +kernel
theorem d_Shelf_find_7 : decode b_Shelf_find 7 = .ok (.if_icmp .lt 7, 3) := by decide +kernel
theorem d_Shelf_find_10 : decode b_Shelf_find 10 = .ok (.aconst_null, 1) := by decide +kernel
theorem d_Shelf_find_11 : decode b_Shelf_find 11 = .ok (.goto 9, 3) := by decide +kernel
theorem d_Shelf_find_14 : decode b_Shelf_find 14 = .ok (.aload_n 0, 1) := by decide +kernel
theorem d_Shelf_find_15 : decode b_Shelf_find 15 = .ok (.getfield 18, 3) := by decide +kernel
theorem d_Shelf_find_18 : decode b_Shelf_find 18 = .ok (.iload_n 1, 1) := by decide +kernel
theorem d_Shelf_find_19 : decode b_Shelf_find 19 = .ok (.aaload, 1) := by decide +kernel
theorem d_Shelf_find_20 : decode b_Shelf_find 20 = .ok (.areturn, 1) := by decide +kernel
theorem d_Shelf_fill_0 : decode b_Shelf_fill 0 = .ok (.iload_n 2, 1) := by decide +kernel
theorem d_Shelf_fill_1 : decode b_Shelf_fill 1 = .ok (.ifCond .ne 19, 3) := by decide +kernel
theorem d_Shelf_fill_4 : decode b_Shelf_fill 4 = .ok (.aload_n 0, 1) := by decide +kernel
theorem d_Shelf_fill_5 : decode b_Shelf_fill 5 = .ok (.getfield 26, 3) := by decide +kernel
theorem d_Shelf_fill_8 : decode b_Shelf_fill 8 = .ok (.iconst 0, 1) := by decide +kernel
theorem d_Shelf_fill_9 : decode b_Shelf_fill 9 = .ok (.aload_n 1, 1) := by decide +kernel
theorem d_Shelf_fill_10 : decode b_Shelf_fill 10 = .ok (.getfield 84, 3) := by decide +kernel
theorem d_Shelf_fill_13 : decode b_Shelf_fill 13 = .ok (.iconst 1, 1) := by decide +kernel
theorem d_Shelf_fill_14 : decode b_Shelf_fill 14 = .ok (.isub, 1) := by decide +kernel
theorem d_Shelf_fill_15 : decode b_Shelf_fill 15 = .ok (.invokevirtual 152, 3) := by decide +kernel
theorem d_Shelf_fill_18 : decode b_Shelf_fill 18 = .ok (.iconst 0, 1) := by decide +kernel
theorem d_Shelf_fill_19 : decode b_Shelf_fill 19 = .ok (.ireturn, 1) := by decide +kernel
theorem d_Shelf_fill_20 : decode b_Shelf_fill 20 = .ok (.iconst 0, 1) := by decide +kernel
theorem d_Shelf_fill_21 : decode b_Shelf_fill 21 = .ok (.istore_n 3, 1) := by decide +kernel
theorem d_Shelf_fill_22 : decode b_Shelf_fill 22 = .ok (.iload_n 3, 1) := by decide +kernel
theorem d_Shelf_fill_23 : decode b_Shelf_fill 23 = .ok (.iload_n 2, 1) := by decide +kernel
theorem d_Shelf_fill_24 : decode b_Shelf_fill 24 = .ok (.if_icmp .ge 40, 3) := by decide +kernel
theorem d_Shelf_fill_27 : decode b_Shelf_fill 27 = .ok (.aload_n 0, 1) := by decide +kernel
theorem d_Shelf_fill_28 : decode b_Shelf_fill 28 = .ok (.getfield 26, 3) := by decide +kernel
theorem d_Shelf_fill_31 : decode b_Shelf_fill 31 = .ok (.aload_n 0, 1) := by decide +kernel
theorem d_Shelf_fill_32 : decode b_Shelf_fill 32 = .ok (.getfield 10, 3) := by decide +kernel
theorem d_Shelf_fill_35 : decode b_Shelf_fill 35 = .ok (.iload_n 3, 1) := by decide +kernel
theorem d_Shelf_fill_36 : decode b_Shelf_fill 36 = .ok (.aload_n 1, 1) := by decide +kernel
theorem d_Shelf_fill_37 : decode b_Shelf_fill 37 = .ok (.getfield 84, 3) := by decide +kernel
theorem d_Shelf_fill_40 : decode b_Shelf_fill 40 = .ok (.invokevirtual 155, 3) := by decide +kernel
theorem d_Shelf_fill_43 : decode b_Shelf_fill 43 = .ok (.aload_n 0, 1) := by decide +kernel
theorem d_Shelf_fill_44 : decode b_Shelf_fill 44 = .ok (.getfield 10, 3) := by decide +kernel
theorem d_Shelf_fill_47 : decode b_Shelf_fill 47 = .ok (.iload_n 3, 1) := by decide +kernel
theorem d_Shelf_fill_48 : decode b_Shelf_fill 48 = .ok (.aload_n 1, 1) := by decide +kernel
theorem d_Shelf_fill_49 : decode b_Shelf_fill 49 = .ok (.getfield 84, 3) := by decide +kernel
theorem d_Shelf_fill_52 : decode b_Shelf_fill 52 = .ok (.invokevirtual 158, 3) := by decide +kernel
theorem d_Shelf_fill_55 : decode b_Shelf_fill 55 = .ok (.invokevirtual 152, 3) := by decide +kernel
theorem d_Shelf_fill_58 : decode b_Shelf_fill 58 = .ok (.iinc 3 1, 3) := by decide +kernel
theorem d_Shelf_fill_61 : decode b_Shelf_fill 61 = .ok (.goto (-39), 3) := by decide +kernel
theorem d_Shelf_fill_64 : decode b_Shelf_fill 64 = .ok (.aload_n 0, 1) := by decide +kernel
theorem d_Shelf_fill_65 : decode b_Shelf_fill 65 = .ok (.getfield 26, 3) := by decide +kernel
theorem d_Shelf_fill_68 : decode b_Shelf_fill 68 = .ok (.getfield 110, 3) := by decide +kernel
theorem d_Shelf_fill_71 : decode b_Shelf_fill 71 = .ok (.ifCond .ne 7, 3) := by decide +kernel
theorem d_Shelf_fill_74 : decode b_Shelf_fill 74 = .ok (.iconst 2, 1) := by decide +kernel
theorem d_Shelf_fill_75 : decode b_Shelf_fill 75 = .ok (.goto 4, 3) := by decide +kernel
theorem d_Shelf_fill_78 : decode b_Shelf_fill 78 = .ok (.iconst 1, 1) := by decide +kernel
theorem d_Shelf_fill_79 : decode b_Shelf_fill 79 = .ok (.ireturn, 1) := by decide +kernel
theorem d_Shelf_noteUse_0 : decode b_Shelf_noteUse 0 = .ok (.aload_n 0, 1) := by decide +kernel
theorem d_Shelf_noteUse_1 : decode b_Shelf_noteUse 1 = .ok (.dup, 1) := by decide +kernel
theorem d_Shelf_noteUse_2 : decode b_Shelf_noteUse 2 = .ok (.getfield 37, 3) := by decide +kernel
theorem d_Shelf_noteUse_5 : decode b_Shelf_noteUse 5 = .ok (.lconst 1, 1) := by decide +kernel
theorem d_Shelf_noteUse_6 : decode b_Shelf_noteUse 6 = .ok (.ladd, 1) := by decide +kernel
theorem d_Shelf_noteUse_7 : decode b_Shelf_noteUse 7 = .ok (.putfield 37, 3) := by decide +kernel
theorem d_Shelf_noteUse_10 : decode b_Shelf_noteUse 10 = .ok (.aload_n 1, 1) := by decide +kernel
theorem d_Shelf_noteUse_11 : decode b_Shelf_noteUse 11 = .ok (.aload_n 0, 1) := by decide +kernel
theorem d_Shelf_noteUse_12 : decode b_Shelf_noteUse 12 = .ok (.getfield 37, 3) := by decide +kernel
theorem d_Shelf_noteUse_15 : decode b_Shelf_noteUse 15 = .ok (.putfield 161, 3) := by decide +kernel
theorem d_Shelf_noteUse_18 : decode b_Shelf_noteUse 18 = .ok (.return_, 1) := by decide +kernel
theorem d_Shelf_makeRoom_0 : decode b_Shelf_makeRoom 0 = .ok (.aload_n 0, 1) := by decide +kernel
theorem d_Shelf_makeRoom_1 : decode b_Shelf_makeRoom 1 = .ok (.invokevirtual 164, 3) := by decide +kernel
theorem d_Shelf_makeRoom_4 : decode b_Shelf_makeRoom 4 = .ok (.aload_n 0, 1) := by decide +kernel
theorem d_Shelf_makeRoom_5 : decode b_Shelf_makeRoom 5 = .ok (.getfield 30, 3) := by decide +kernel
theorem d_Shelf_makeRoom_8 : decode b_Shelf_makeRoom 8 = .ok (.isub, 1) := by decide +kernel
theorem d_Shelf_makeRoom_9 : decode b_Shelf_makeRoom 9 = .ok (.istore_n 1, 1) := by decide +kernel
theorem d_Shelf_makeRoom_10 : decode b_Shelf_makeRoom 10 = .ok (.iconst 0, 1) := by decide +kernel
theorem d_Shelf_makeRoom_11 : decode b_Shelf_makeRoom 11 = .ok (.istore_n 2, 1) := by decide +kernel
theorem d_Shelf_makeRoom_12 : decode b_Shelf_makeRoom 12 = .ok (.iload_n 2, 1) := by decide +kernel
theorem d_Shelf_makeRoom_13 : decode b_Shelf_makeRoom 13 = .ok (.bipush 6, 2) := by decide +kernel
theorem d_Shelf_makeRoom_15 : decode b_Shelf_makeRoom 15 = .ok (.if_icmp .ge 33, 3) := by decide +kernel
theorem d_Shelf_makeRoom_18 : decode b_Shelf_makeRoom 18 = .ok (.iload_n 1, 1) := by decide +kernel
theorem d_Shelf_makeRoom_19 : decode b_Shelf_makeRoom 19 = .ok (.ifCond .le 29, 3) := by decide +kernel
theorem d_Shelf_makeRoom_22 : decode b_Shelf_makeRoom 22 = .ok (.aload_n 0, 1) := by decide +kernel
theorem d_Shelf_makeRoom_23 : decode b_Shelf_makeRoom 23 = .ok (.invokevirtual 167, 3) := by decide +kernel
theorem d_Shelf_makeRoom_26 : decode b_Shelf_makeRoom 26 = .ok (.astore_n 3, 1) := by decide +kernel
theorem d_Shelf_makeRoom_27 : decode b_Shelf_makeRoom 27 = .ok (.aload_n 3, 1) := by decide +kernel
theorem d_Shelf_makeRoom_28 : decode b_Shelf_makeRoom 28 = .ok (.ifnull 14, 3) := by decide +kernel
theorem d_Shelf_makeRoom_31 : decode b_Shelf_makeRoom 31 = .ok (.iload_n 1, 1) := by decide +kernel
theorem d_Shelf_makeRoom_32 : decode b_Shelf_makeRoom 32 = .ok (.aload_n 3, 1) := by decide +kernel
theorem d_Shelf_makeRoom_33 : decode b_Shelf_makeRoom 33 = .ok (.getfield 60, 3) := by decide +kernel
theorem d_Shelf_makeRoom_36 : decode b_Shelf_makeRoom 36 = .ok (.iload_n 1, 1) := by decide +kernel
theorem d_Shelf_makeRoom_37 : decode b_Shelf_makeRoom 37 = .ok (.invokevirtual 171, 3) := by decide +kernel
theorem d_Shelf_makeRoom_40 : decode b_Shelf_makeRoom 40 = .ok (.isub, 1) := by decide +kernel
theorem d_Shelf_makeRoom_41 : decode b_Shelf_makeRoom 41 = .ok (.istore_n 1, 1) := by decide +kernel
theorem d_Shelf_makeRoom_42 : decode b_Shelf_makeRoom 42 = .ok (.iinc 2 1, 3) := by decide +kernel
theorem d_Shelf_makeRoom_45 : decode b_Shelf_makeRoom 45 = .ok (.goto (-33), 3) := by decide +kernel
theorem d_Shelf_makeRoom_48 : decode b_Shelf_makeRoom 48 = .ok (.return_, 1) := by decide +kernel
theorem d_Shelf_keptInAll_0 : decode b_Shelf_keptInAll 0 = .ok (.iconst 0, 1) := by decide +kernel
theorem d_Shelf_keptInAll_1 : decode b_Shelf_keptInAll 1 = .ok (.istore_n 1, 1) := by decide +kernel
theorem d_Shelf_keptInAll_2 : decode b_Shelf_keptInAll 2 = .ok (.iconst 0, 1) := by decide +kernel
theorem d_Shelf_keptInAll_3 : decode b_Shelf_keptInAll 3 = .ok (.istore_n 2, 1) := by decide +kernel
theorem d_Shelf_keptInAll_4 : decode b_Shelf_keptInAll 4 = .ok (.iload_n 2, 1) := by decide +kernel
theorem d_Shelf_keptInAll_5 : decode b_Shelf_keptInAll 5 = .ok (.bipush 6, 2) := by decide +kernel
theorem d_Shelf_keptInAll_7 : decode b_Shelf_keptInAll 7 = .ok (.if_icmp .ge 24, 3) := by decide +kernel
theorem d_Shelf_keptInAll_10 : decode b_Shelf_keptInAll 10 = .ok (.iload_n 1, 1) := by decide +kernel
theorem d_Shelf_keptInAll_11 : decode b_Shelf_keptInAll 11 = .ok (.aload_n 0, 1) := by decide +kernel
theorem d_Shelf_keptInAll_12 : decode b_Shelf_keptInAll 12 = .ok (.getfield 18, 3) := by decide +kernel
theorem d_Shelf_keptInAll_15 : decode b_Shelf_keptInAll 15 = .ok (.iload_n 2, 1) := by decide +kernel
theorem d_Shelf_keptInAll_16 : decode b_Shelf_keptInAll 16 = .ok (.aaload, 1) := by decide +kernel
theorem d_Shelf_keptInAll_17 : decode b_Shelf_keptInAll 17 = .ok (.getfield 60, 3) := by decide +kernel
theorem d_Shelf_keptInAll_20 : decode b_Shelf_keptInAll 20 = .ok (.invokevirtual 139, 3) := by decide +kernel
theorem d_Shelf_keptInAll_23 : decode b_Shelf_keptInAll 23 = .ok (.iadd, 1) := by decide +kernel
theorem d_Shelf_keptInAll_24 : decode b_Shelf_keptInAll 24 = .ok (.istore_n 1, 1) := by decide +kernel
theorem d_Shelf_keptInAll_25 : decode b_Shelf_keptInAll 25 = .ok (.iinc 2 1, 3) := by decide +kernel
theorem d_Shelf_keptInAll_28 : decode b_Shelf_keptInAll 28 = .ok (.goto (-24), 3) := by decide +kernel
theorem d_Shelf_keptInAll_31 : decode b_Shelf_keptInAll 31 = .ok (.iload_n 1, 1) := by decide +kernel
theorem d_Shelf_keptInAll_32 : decode b_Shelf_keptInAll 32 = .ok (.ireturn, 1) := by decide +kernel
theorem d_Shelf_longestUnused_0 : decode b_Shelf_longestUnused 0 = .ok (.aconst_null, 1) := by decide +kernel
theorem d_Shelf_longestUnused_1 : decode b_Shelf_longestUnused 1 = .ok (.astore_n 1, 1) := by decide +kernel
theorem d_Shelf_longestUnused_2 : decode b_Shelf_longestUnused 2 = .ok (.iconst 0, 1) := by decide +kernel
theorem d_Shelf_longestUnused_3 : decode b_Shelf_longestUnused 3 = .ok (.istore_n 2, 1) := by decide +kernel
theorem d_Shelf_longestUnused_4 : decode b_Shelf_longestUnused 4 = .ok (.iload_n 2, 1) := by decide +kernel
theorem d_Shelf_longestUnused_5 : decode b_Shelf_longestUnused 5 = .ok (.bipush 6, 2) := by decide +kernel
theorem d_Shelf_longestUnused_7 : decode b_Shelf_longestUnused 7 = .ok (.if_icmp .ge 44, 3) := by decide +kernel
theorem d_Shelf_longestUnused_10 : decode b_Shelf_longestUnused 10 = .ok (.aload_n 0, 1) := by decide +kernel
theorem d_Shelf_longestUnused_11 : decode b_Shelf_longestUnused 11 = .ok (.getfield 18, 3) := by decide +kernel
theorem d_Shelf_longestUnused_14 : decode b_Shelf_longestUnused 14 = .ok (.iload_n 2, 1) := by decide +kernel
theorem d_Shelf_longestUnused_15 : decode b_Shelf_longestUnused 15 = .ok (.aaload, 1) := by decide +kernel
theorem d_Shelf_longestUnused_16 : decode b_Shelf_longestUnused 16 = .ok (.astore_n 3, 1) := by decide +kernel
theorem d_Shelf_longestUnused_17 : decode b_Shelf_longestUnused 17 = .ok (.aload_n 3, 1) := by decide +kernel
theorem d_Shelf_longestUnused_18 : decode b_Shelf_longestUnused 18 = .ok (.getfield 60, 3) := by decide +kernel
theorem d_Shelf_longestUnused_21 : decode b_Shelf_longestUnused 21 = .ok (.invokevirtual 174, 3) := by decide +kernel
theorem d_Shelf_longestUnused_24 : decode b_Shelf_longestUnused 24 = .ok (.ifCond .ne 21, 3) := by decide +kernel
theorem d_Shelf_longestUnused_27 : decode b_Shelf_longestUnused 27 = .ok (.aload_n 1, 1) := by decide +kernel
theorem d_Shelf_longestUnused_28 : decode b_Shelf_longestUnused 28 = .ok (.ifnull 15, 3) := by decide +kernel
theorem d_Shelf_longestUnused_31 : decode b_Shelf_longestUnused 31 = .ok (.aload_n 3, 1) := by decide +kernel
theorem d_Shelf_longestUnused_32 : decode b_Shelf_longestUnused 32 = .ok (.getfield 161, 3) := by decide +kernel
theorem d_Shelf_longestUnused_35 : decode b_Shelf_longestUnused 35 = .ok (.aload_n 1, 1) := by decide +kernel
theorem d_Shelf_longestUnused_36 : decode b_Shelf_longestUnused 36 = .ok (.getfield 161, 3) := by decide +kernel
theorem d_Shelf_longestUnused_39 : decode b_Shelf_longestUnused 39 = .ok (.lcmp, 1) := by decide +kernel
theorem d_Shelf_longestUnused_40 : decode b_Shelf_longestUnused 40 = .ok (.ifCond .ge 5, 3) := by decide +kernel
theorem d_Shelf_longestUnused_43 : decode b_Shelf_longestUnused 43 = .ok (.aload_n 3, 1) := by decide +kernel
theorem d_Shelf_longestUnused_44 : decode b_Shelf_longestUnused 44 = .ok (.astore_n 1, 1) := by decide +kernel
theorem d_Shelf_longestUnused_45 : decode b_Shelf_longestUnused 45 = .ok (.iinc 2 1, 3) := by decide +kernel
theorem d_Shelf_longestUnused_48 : decode b_Shelf_longestUnused 48 = .ok (.goto (-44), 3) := by decide +kernel
theorem d_Shelf_longestUnused_51 : decode b_Shelf_longestUnused 51 = .ok (.aload_n 1, 1) := by decide +kernel
theorem d_Shelf_longestUnused_52 : decode b_Shelf_longestUnused 52 = .ok (.areturn, 1) := by decide +kernel
