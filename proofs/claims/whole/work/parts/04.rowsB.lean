theorem dX7_init_0 : decode cX7_init 0 = .ok (.aload_n 0, 1) := by decide +kernel
theorem dX7_init_1 : decode cX7_init 1 = .ok (.invokespecial 1, 3) := by decide +kernel
theorem dX7_init_4 : decode cX7_init 4 = .ok (.aload_n 0, 1) := by decide +kernel
theorem dX7_init_5 : decode cX7_init 5 = .ok (.bipush 8, 2) := by decide +kernel
theorem dX7_init_7 : decode cX7_init 7 = .ok (.anewarray 9, 3) := by decide +kernel
theorem dX7_init_10 : decode cX7_init 10 = .ok (.putfield 11, 3) := by decide +kernel
theorem dX7_init_13 : decode cX7_init 13 = .ok (.aload_n 0, 1) := by decide +kernel
theorem dX7_init_14 : decode cX7_init 14 = .ok (.new 15, 3) := by decide +kernel
theorem dX7_init_17 : decode cX7_init 17 = .ok (.dup, 1) := by decide +kernel
theorem dX7_init_18 : decode cX7_init 18 = .ok (.invokespecial 17, 3) := by decide +kernel
theorem dX7_init_21 : decode cX7_init 21 = .ok (.putfield 18, 3) := by decide +kernel
theorem dX7_init_24 : decode cX7_init 24 = .ok (.aload_n 0, 1) := by decide +kernel
theorem dX7_init_25 : decode cX7_init 25 = .ok (.new 15, 3) := by decide +kernel
theorem dX7_init_28 : decode cX7_init 28 = .ok (.dup, 1) := by decide +kernel
theorem dX7_init_29 : decode cX7_init 29 = .ok (.invokespecial 17, 3) := by decide +kernel
theorem dX7_init_32 : decode cX7_init 32 = .ok (.putfield 22, 3) := by decide +kernel
theorem dX7_init_35 : decode cX7_init 35 = .ok (.aload_n 0, 1) := by decide +kernel
theorem dX7_init_36 : decode cX7_init 36 = .ok (.new 25, 3) := by decide +kernel
theorem dX7_init_39 : decode cX7_init 39 = .ok (.dup, 1) := by decide +kernel
theorem dX7_init_40 : decode cX7_init 40 = .ok (.invokespecial 27, 3) := by decide +kernel
theorem dX7_init_43 : decode cX7_init 43 = .ok (.putfield 28, 3) := by decide +kernel
theorem dX7_init_46 : decode cX7_init 46 = .ok (.aload_n 0, 1) := by decide +kernel
theorem dX7_init_47 : decode cX7_init 47 = .ok (.new 32, 3) := by decide +kernel
theorem dX7_init_50 : decode cX7_init 50 = .ok (.dup, 1) := by decide +kernel
theorem dX7_init_51 : decode cX7_init 51 = .ok (.invokespecial 34, 3) := by decide +kernel
theorem dX7_init_54 : decode cX7_init 54 = .ok (.putfield 35, 3) := by decide +kernel
theorem dX7_init_57 : decode cX7_init 57 = .ok (.aload_n 0, 1) := by decide +kernel
theorem dX7_init_58 : decode cX7_init 58 = .ok (.new 39, 3) := by decide +kernel
theorem dX7_init_61 : decode cX7_init 61 = .ok (.dup, 1) := by decide +kernel
theorem dX7_init_62 : decode cX7_init 62 = .ok (.invokespecial 41, 3) := by decide +kernel
theorem dX7_init_65 : decode cX7_init 65 = .ok (.putfield 42, 3) := by decide +kernel
theorem dX7_init_68 : decode cX7_init 68 = .ok (.aload_n 0, 1) := by decide +kernel
theorem dX7_init_69 : decode cX7_init 69 = .ok (.bipush 8, 2) := by decide +kernel
theorem dX7_init_71 : decode cX7_init 71 = .ok (.newarray .int, 2) := by decide +kernel
theorem dX7_init_73 : decode cX7_init 73 = .ok (.putfield 46, 3) := by decide +kernel
theorem dX7_init_76 : decode cX7_init 76 = .ok (.aload_n 0, 1) := by decide +kernel
theorem dX7_init_77 : decode cX7_init 77 = .ok (.iconst 0, 1) := by decide +kernel
theorem dX7_init_78 : decode cX7_init 78 = .ok (.putfield 50, 3) := by decide +kernel
theorem dX7_init_81 : decode cX7_init 81 = .ok (.aload_n 0, 1) := by decide +kernel
theorem dX7_init_82 : decode cX7_init 82 = .ok (.iconst (-1), 1) := by decide +kernel
theorem dX7_init_83 : decode cX7_init 83 = .ok (.putfield 54, 3) := by decide +kernel
theorem dX7_init_86 : decode cX7_init 86 = .ok (.iconst 0, 1) := by decide +kernel
theorem dX7_init_87 : decode cX7_init 87 = .ok (.istore_n 1, 1) := by decide +kernel
theorem dX7_init_88 : decode cX7_init 88 = .ok (.iload_n 1, 1) := by decide +kernel
theorem dX7_init_89 : decode cX7_init 89 = .ok (.bipush 8, 2) := by decide +kernel
theorem dX7_init_91 : decode cX7_init 91 = .ok (.if_icmp .ge 22, 3) := by decide +kernel
theorem dX7_init_94 : decode cX7_init 94 = .ok (.aload_n 0, 1) := by decide +kernel
theorem dX7_init_95 : decode cX7_init 95 = .ok (.getfield 11, 3) := by decide +kernel
theorem dX7_init_98 : decode cX7_init 98 = .ok (.iload_n 1, 1) := by decide +kernel
theorem dX7_init_99 : decode cX7_init 99 = .ok (.new 9, 3) := by decide +kernel
theorem dX7_init_102 : decode cX7_init 102 = .ok (.dup, 1) := by decide +kernel
theorem dX7_init_103 : decode cX7_init 103 = .ok (.invokespecial 58, 3) := by decide +kernel
theorem dX7_init_106 : decode cX7_init 106 = .ok (.aastore, 1) := by decide +kernel
theorem dX7_init_107 : decode cX7_init 107 = .ok (.iinc 1 1, 3) := by decide +kernel
theorem dX7_init_110 : decode cX7_init 110 = .ok (.goto (-22), 3) := by decide +kernel
theorem dX7_init_113 : decode cX7_init 113 = .ok (.return_, 1) := by decide +kernel
theorem dX7_row_0 : decode cX7_row 0 = .ok (.iload_n 1, 1) := by decide +kernel
theorem dX7_row_1 : decode cX7_row 1 = .ok (.invokestatic 59, 3) := by decide +kernel
theorem dX7_row_4 : decode cX7_row 4 = .ok (.ifCond .ne 9, 3) := by decide +kernel
theorem dX7_row_7 : decode cX7_row 7 = .ok (.aload_n 0, 1) := by decide +kernel
theorem dX7_row_8 : decode cX7_row 8 = .ok (.iconst (-1), 1) := by decide +kernel
theorem dX7_row_9 : decode cX7_row 9 = .ok (.invokevirtual 63, 3) := by decide +kernel
theorem dX7_row_12 : decode cX7_row 12 = .ok (.ireturn, 1) := by decide +kernel
theorem dX7_row_13 : decode cX7_row 13 = .ok (.iload_n 3, 1) := by decide +kernel
theorem dX7_row_14 : decode cX7_row 14 = .ok (.ifCond .ge 10, 3) := by decide +kernel
theorem dX7_row_17 : decode cX7_row 17 = .ok (.aload_n 0, 1) := by decide +kernel
theorem dX7_row_18 : decode cX7_row 18 = .ok (.bipush (-4), 2) := by decide +kernel
theorem dX7_row_20 : decode cX7_row 20 = .ok (.invokevirtual 63, 3) := by decide +kernel
theorem dX7_row_23 : decode cX7_row 23 = .ok (.ireturn, 1) := by decide +kernel
theorem dX7_row_24 : decode cX7_row 24 = .ok (.iload_n 2, 1) := by decide +kernel
theorem dX7_row_25 : decode cX7_row 25 = .ok (.iconst 0, 1) := by decide +kernel
theorem dX7_row_26 : decode cX7_row 26 = .ok (.iconst 3, 1) := by decide +kernel
theorem dX7_row_27 : decode cX7_row 27 = .ok (.invokestatic 67, 3) := by decide +kernel
theorem dX7_row_30 : decode cX7_row 30 = .ok (.ifCond .ne 10, 3) := by decide +kernel
theorem dX7_row_33 : decode cX7_row 33 = .ok (.aload_n 0, 1) := by decide +kernel
theorem dX7_row_34 : decode cX7_row 34 = .ok (.bipush (-6), 2) := by decide +kernel
theorem dX7_row_36 : decode cX7_row 36 = .ok (.invokevirtual 63, 3) := by decide +kernel
theorem dX7_row_39 : decode cX7_row 39 = .ok (.ireturn, 1) := by decide +kernel
theorem dX7_row_40 : decode cX7_row 40 = .ok (.iload_n 3, 1) := by decide +kernel
theorem dX7_row_41 : decode cX7_row 41 = .ok (.sipush 160, 3) := by decide +kernel
theorem dX7_row_44 : decode cX7_row 44 = .ok (.if_icmp .le 10, 3) := by decide +kernel
theorem dX7_row_47 : decode cX7_row 47 = .ok (.aload_n 0, 1) := by decide +kernel
theorem dX7_row_48 : decode cX7_row 48 = .ok (.bipush (-7), 2) := by decide +kernel
theorem dX7_row_50 : decode cX7_row 50 = .ok (.invokevirtual 63, 3) := by decide +kernel
theorem dX7_row_53 : decode cX7_row 53 = .ok (.ireturn, 1) := by decide +kernel
theorem dX7_row_54 : decode cX7_row 54 = .ok (.aload_n 0, 1) := by decide +kernel
theorem dX7_row_55 : decode cX7_row 55 = .ok (.getfield 11, 3) := by decide +kernel
theorem dX7_row_58 : decode cX7_row 58 = .ok (.iload_n 1, 1) := by decide +kernel
theorem dX7_row_59 : decode cX7_row 59 = .ok (.aaload, 1) := by decide +kernel
theorem dX7_row_60 : decode cX7_row 60 = .ok (.iload_n 2, 1) := by decide +kernel
theorem dX7_row_61 : decode cX7_row 61 = .ok (.iload_n 3, 1) := by decide +kernel
theorem dX7_row_62 : decode cX7_row 62 = .ok (.invokevirtual 71, 3) := by decide +kernel
theorem dX7_row_65 : decode cX7_row 65 = .ok (.iconst 1, 1) := by decide +kernel
theorem dX7_row_66 : decode cX7_row 66 = .ok (.ireturn, 1) := by decide +kernel
theorem dX7_set_0 : decode cX7_set 0 = .ok (.aload_n 0, 1) := by decide +kernel
theorem dX7_set_1 : decode cX7_set 1 = .ok (.iload_n 1, 1) := by decide +kernel
theorem dX7_set_2 : decode cX7_set 2 = .ok (.invokevirtual 75, 3) := by decide +kernel
theorem dX7_set_5 : decode cX7_set 5 = .ok (.istore 5, 2) := by decide +kernel
theorem dX7_set_7 : decode cX7_set 7 = .ok (.iload 5, 2) := by decide +kernel
theorem dX7_set_9 : decode cX7_set 9 = .ok (.ifCond .eq 10, 3) := by decide +kernel
theorem dX7_set_12 : decode cX7_set 12 = .ok (.aload_n 0, 1) := by decide +kernel
theorem dX7_set_13 : decode cX7_set 13 = .ok (.iload 5, 2) := by decide +kernel
theorem dX7_set_15 : decode cX7_set 15 = .ok (.invokevirtual 63, 3) := by decide +kernel
theorem dX7_set_18 : decode cX7_set 18 = .ok (.ireturn, 1) := by decide +kernel
theorem dX7_set_19 : decode cX7_set 19 = .ok (.aload_n 0, 1) := by decide +kernel
theorem dX7_set_20 : decode cX7_set 20 = .ok (.getfield 11, 3) := by decide +kernel
theorem dX7_set_23 : decode cX7_set 23 = .ok (.iload_n 1, 1) := by decide +kernel
theorem dX7_set_24 : decode cX7_set 24 = .ok (.aaload, 1) := by decide +kernel
theorem dX7_set_25 : decode cX7_set 25 = .ok (.iload_n 2, 1) := by decide +kernel
theorem dX7_set_26 : decode cX7_set 26 = .ok (.invokevirtual 78, 3) := by decide +kernel
theorem dX7_set_29 : decode cX7_set 29 = .ok (.ifCond .ne 10, 3) := by decide +kernel
theorem dX7_set_32 : decode cX7_set 32 = .ok (.aload_n 0, 1) := by decide +kernel
theorem dX7_set_33 : decode cX7_set 33 = .ok (.bipush (-5), 2) := by decide +kernel
theorem dX7_set_35 : decode cX7_set 35 = .ok (.invokevirtual 63, 3) := by decide +kernel
theorem dX7_set_38 : decode cX7_set 38 = .ok (.ireturn, 1) := by decide +kernel
theorem dX7_set_39 : decode cX7_set 39 = .ok (.aload_n 0, 1) := by decide +kernel
theorem dX7_set_40 : decode cX7_set 40 = .ok (.getfield 11, 3) := by decide +kernel
theorem dX7_set_43 : decode cX7_set 43 = .ok (.iload_n 1, 1) := by decide +kernel
theorem dX7_set_44 : decode cX7_set 44 = .ok (.aaload, 1) := by decide +kernel
theorem dX7_set_45 : decode cX7_set 45 = .ok (.iload_n 2, 1) := by decide +kernel
theorem dX7_set_46 : decode cX7_set 46 = .ok (.lload_n 3, 1) := by decide +kernel
theorem dX7_set_47 : decode cX7_set 47 = .ok (.invokevirtual 81, 3) := by decide +kernel
theorem dX7_set_50 : decode cX7_set 50 = .ok (.iconst 1, 1) := by decide +kernel
theorem dX7_set_51 : decode cX7_set 51 = .ok (.ireturn, 1) := by decide +kernel
theorem dX7_copy_0 : decode cX7_copy 0 = .ok (.aload_n 0, 1) := by decide +kernel
theorem dX7_copy_1 : decode cX7_copy 1 = .ok (.iload_n 1, 1) := by decide +kernel
theorem dX7_copy_2 : decode cX7_copy 2 = .ok (.iload_n 2, 1) := by decide +kernel
theorem dX7_copy_3 : decode cX7_copy 3 = .ok (.invokevirtual 85, 3) := by decide +kernel
theorem dX7_copy_6 : decode cX7_copy 6 = .ok (.istore 6, 2) := by decide +kernel
theorem dX7_copy_8 : decode cX7_copy 8 = .ok (.iload 6, 2) := by decide +kernel
theorem dX7_copy_10 : decode cX7_copy 10 = .ok (.ifCond .eq 10, 3) := by decide +kernel
theorem dX7_copy_13 : decode cX7_copy 13 = .ok (.aload_n 0, 1) := by decide +kernel
theorem dX7_copy_14 : decode cX7_copy 14 = .ok (.iload 6, 2) := by decide +kernel
theorem dX7_copy_16 : decode cX7_copy 16 = .ok (.invokevirtual 63, 3) := by decide +kernel
theorem dX7_copy_19 : decode cX7_copy 19 = .ok (.ireturn, 1) := by decide +kernel
theorem dX7_copy_20 : decode cX7_copy 20 = .ok (.iload 5, 2) := by decide +kernel
theorem dX7_copy_22 : decode cX7_copy 22 = .ok (.ifCond .ge 10, 3) := by decide +kernel
theorem dX7_copy_25 : decode cX7_copy 25 = .ok (.aload_n 0, 1) := by decide +kernel
theorem dX7_copy_26 : decode cX7_copy 26 = .ok (.bipush (-4), 2) := by decide +kernel
theorem dX7_copy_28 : decode cX7_copy 28 = .ok (.invokevirtual 63, 3) := by decide +kernel
theorem dX7_copy_31 : decode cX7_copy 31 = .ok (.ireturn, 1) := by decide +kernel
theorem dX7_copy_32 : decode cX7_copy 32 = .ok (.aload_n 0, 1) := by decide +kernel
theorem dX7_copy_33 : decode cX7_copy 33 = .ok (.getfield 11, 3) := by decide +kernel
theorem dX7_copy_36 : decode cX7_copy 36 = .ok (.iload_n 1, 1) := by decide +kernel
theorem dX7_copy_37 : decode cX7_copy 37 = .ok (.aaload, 1) := by decide +kernel
theorem dX7_copy_38 : decode cX7_copy 38 = .ok (.iload_n 3, 1) := by decide +kernel
theorem dX7_copy_39 : decode cX7_copy 39 = .ok (.iload 5, 2) := by decide +kernel
theorem dX7_copy_41 : decode cX7_copy 41 = .ok (.invokevirtual 89, 3) := by decide +kernel
theorem dX7_copy_44 : decode cX7_copy 44 = .ok (.ifCond .eq 19, 3) := by decide +kernel
theorem dX7_copy_47 : decode cX7_copy 47 = .ok (.aload_n 0, 1) := by decide +kernel
theorem dX7_copy_48 : decode cX7_copy 48 = .ok (.getfield 11, 3) := by decide +kernel
theorem dX7_copy_51 : decode cX7_copy 51 = .ok (.iload_n 2, 1) := by decide +kernel
theorem dX7_copy_52 : decode cX7_copy 52 = .ok (.aaload, 1) := by decide +kernel
theorem dX7_copy_53 : decode cX7_copy 53 = .ok (.iload 4, 2) := by decide +kernel
theorem dX7_copy_55 : decode cX7_copy 55 = .ok (.iload 5, 2) := by decide +kernel
theorem dX7_copy_57 : decode cX7_copy 57 = .ok (.invokevirtual 89, 3) := by decide +kernel
theorem dX7_copy_60 : decode cX7_copy 60 = .ok (.ifCond .ne 10, 3) := by decide +kernel
theorem dX7_copy_63 : decode cX7_copy 63 = .ok (.aload_n 0, 1) := by decide +kernel
theorem dX7_copy_64 : decode cX7_copy 64 = .ok (.bipush (-5), 2) := by decide +kernel
theorem dX7_copy_66 : decode cX7_copy 66 = .ok (.invokevirtual 63, 3) := by decide +kernel
theorem dX7_copy_69 : decode cX7_copy 69 = .ok (.ireturn, 1) := by decide +kernel
theorem dX7_copy_70 : decode cX7_copy 70 = .ok (.aload_n 0, 1) := by decide +kernel
theorem dX7_copy_71 : decode cX7_copy 71 = .ok (.getfield 11, 3) := by decide +kernel
theorem dX7_copy_74 : decode cX7_copy 74 = .ok (.iload_n 1, 1) := by decide +kernel
theorem dX7_copy_75 : decode cX7_copy 75 = .ok (.aaload, 1) := by decide +kernel
theorem dX7_copy_76 : decode cX7_copy 76 = .ok (.getfield 93, 3) := by decide +kernel
theorem dX7_copy_79 : decode cX7_copy 79 = .ok (.iload_n 3, 1) := by decide +kernel
theorem dX7_copy_80 : decode cX7_copy 80 = .ok (.aload_n 0, 1) := by decide +kernel
theorem dX7_copy_81 : decode cX7_copy 81 = .ok (.getfield 11, 3) := by decide +kernel
theorem dX7_copy_84 : decode cX7_copy 84 = .ok (.iload_n 2, 1) := by decide +kernel
theorem dX7_copy_85 : decode cX7_copy 85 = .ok (.aaload, 1) := by decide +kernel
theorem dX7_copy_86 : decode cX7_copy 86 = .ok (.getfield 93, 3) := by decide +kernel
theorem dX7_copy_89 : decode cX7_copy 89 = .ok (.iload 4, 2) := by decide +kernel
theorem dX7_copy_91 : decode cX7_copy 91 = .ok (.iload 5, 2) := by decide +kernel
theorem dX7_copy_93 : decode cX7_copy 93 = .ok (.invokestatic 97, 3) := by decide +kernel
theorem dX7_copy_96 : decode cX7_copy 96 = .ok (.iconst 1, 1) := by decide +kernel
theorem dX7_copy_97 : decode cX7_copy 97 = .ok (.ireturn, 1) := by decide +kernel
theorem dX7_element_0 : decode cX7_element 0 = .ok (.iload_n 1, 1) := by decide +kernel
theorem dX7_element_1 : decode cX7_element 1 = .ok (.invokestatic 59, 3) := by decide +kernel
theorem dX7_element_4 : decode cX7_element 4 = .ok (.ifCond .eq 16, 3) := by decide +kernel
theorem dX7_element_7 : decode cX7_element 7 = .ok (.aload_n 0, 1) := by decide +kernel
theorem dX7_element_8 : decode cX7_element 8 = .ok (.getfield 11, 3) := by decide +kernel
theorem dX7_element_11 : decode cX7_element 11 = .ok (.iload_n 1, 1) := by decide +kernel
theorem dX7_element_12 : decode cX7_element 12 = .ok (.aaload, 1) := by decide +kernel
theorem dX7_element_13 : decode cX7_element 13 = .ok (.iload_n 2, 1) := by decide +kernel
theorem dX7_element_14 : decode cX7_element 14 = .ok (.invokevirtual 103, 3) := by decide +kernel
theorem dX7_element_17 : decode cX7_element 17 = .ok (.goto 4, 3) := by decide +kernel
theorem dX7_element_20 : decode cX7_element 20 = .ok (.lconst 0, 1) := by decide +kernel
theorem dX7_element_21 : decode cX7_element 21 = .ok (.lreturn, 1) := by decide +kernel
theorem dX7_show_0 : decode cX7_show 0 = .ok (.iload_n 1, 1) := by decide +kernel
theorem dX7_show_1 : decode cX7_show 1 = .ok (.invokestatic 59, 3) := by decide +kernel
theorem dX7_show_4 : decode cX7_show 4 = .ok (.ifCond .ne 9, 3) := by decide +kernel
theorem dX7_show_7 : decode cX7_show 7 = .ok (.aload_n 0, 1) := by decide +kernel
theorem dX7_show_8 : decode cX7_show 8 = .ok (.iconst (-1), 1) := by decide +kernel
theorem dX7_show_9 : decode cX7_show 9 = .ok (.invokevirtual 63, 3) := by decide +kernel
theorem dX7_show_12 : decode cX7_show 12 = .ok (.ireturn, 1) := by decide +kernel
theorem dX7_show_13 : decode cX7_show 13 = .ok (.iload_n 2, 1) := by decide +kernel
theorem dX7_show_14 : decode cX7_show 14 = .ok (.iconst (-1), 1) := by decide +kernel
theorem dX7_show_15 : decode cX7_show 15 = .ok (.if_icmp .eq 20, 3) := by decide +kernel
theorem dX7_show_18 : decode cX7_show 18 = .ok (.aload_n 0, 1) := by decide +kernel
theorem dX7_show_19 : decode cX7_show 19 = .ok (.getfield 18, 3) := by decide +kernel
theorem dX7_show_22 : decode cX7_show 22 = .ok (.iload_n 2, 1) := by decide +kernel
theorem dX7_show_23 : decode cX7_show 23 = .ok (.invokevirtual 107, 3) := by decide +kernel
theorem dX7_show_26 : decode cX7_show 26 = .ok (.ifCond .ne 9, 3) := by decide +kernel
theorem dX7_show_29 : decode cX7_show 29 = .ok (.aload_n 0, 1) := by decide +kernel
theorem dX7_show_30 : decode cX7_show 30 = .ok (.iconst (-1), 1) := by decide +kernel
theorem dX7_show_31 : decode cX7_show 31 = .ok (.invokevirtual 63, 3) := by decide +kernel
theorem dX7_show_34 : decode cX7_show 34 = .ok (.ireturn, 1) := by decide +kernel
theorem dX7_show_35 : decode cX7_show 35 = .ok (.aload_n 0, 1) := by decide +kernel
theorem dX7_show_36 : decode cX7_show 36 = .ok (.getfield 11, 3) := by decide +kernel
theorem dX7_show_39 : decode cX7_show 39 = .ok (.iload_n 1, 1) := by decide +kernel
theorem dX7_show_40 : decode cX7_show 40 = .ok (.aaload, 1) := by decide +kernel
theorem dX7_show_41 : decode cX7_show 41 = .ok (.iload_n 2, 1) := by decide +kernel
theorem dX7_show_42 : decode cX7_show 42 = .ok (.invokevirtual 110, 3) := by decide +kernel
theorem dX7_show_45 : decode cX7_show 45 = .ok (.iload_n 2, 1) := by decide +kernel
theorem dX7_show_46 : decode cX7_show 46 = .ok (.iconst (-1), 1) := by decide +kernel
theorem dX7_show_47 : decode cX7_show 47 = .ok (.if_icmp .ne 7, 3) := by decide +kernel
theorem dX7_show_50 : decode cX7_show 50 = .ok (.iconst 0, 1) := by decide +kernel
theorem dX7_show_51 : decode cX7_show 51 = .ok (.goto 4, 3) := by decide +kernel
theorem dX7_show_54 : decode cX7_show 54 = .ok (.iconst 1, 1) := by decide +kernel
theorem dX7_show_55 : decode cX7_show 55 = .ok (.ireturn, 1) := by decide +kernel
theorem dX7_holds_0 : decode cX7_holds 0 = .ok (.iload_n 1, 1) := by decide +kernel
theorem dX7_holds_1 : decode cX7_holds 1 = .ok (.invokestatic 59, 3) := by decide +kernel
theorem dX7_holds_4 : decode cX7_holds 4 = .ok (.ifCond .eq 15, 3) := by decide +kernel
theorem dX7_holds_7 : decode cX7_holds 7 = .ok (.aload_n 0, 1) := by decide +kernel
theorem dX7_holds_8 : decode cX7_holds 8 = .ok (.getfield 11, 3) := by decide +kernel
theorem dX7_holds_11 : decode cX7_holds 11 = .ok (.iload_n 1, 1) := by decide +kernel
theorem dX7_holds_12 : decode cX7_holds 12 = .ok (.aaload, 1) := by decide +kernel
theorem dX7_holds_13 : decode cX7_holds 13 = .ok (.getfield 114, 3) := by decide +kernel
theorem dX7_holds_16 : decode cX7_holds 16 = .ok (.goto 4, 3) := by decide +kernel
theorem dX7_holds_19 : decode cX7_holds 19 = .ok (.iconst (-1), 1) := by decide +kernel
theorem dX7_holds_20 : decode cX7_holds 20 = .ok (.ireturn, 1) := by decide +kernel
theorem dX7_says_0 : decode cX7_says 0 = .ok (.iload_n 1, 1) := by decide +kernel
theorem dX7_says_1 : decode cX7_says 1 = .ok (.invokestatic 59, 3) := by decide +kernel
theorem dX7_says_4 : decode cX7_says 4 = .ok (.ifCond .eq 10, 3) := by decide +kernel
theorem dX7_says_7 : decode cX7_says 7 = .ok (.iload_n 2, 1) := by decide +kernel
theorem dX7_says_8 : decode cX7_says 8 = .ok (.invokestatic 117, 3) := by decide +kernel
theorem dX7_says_11 : decode cX7_says 11 = .ok (.ifCond .ne 9, 3) := by decide +kernel
theorem dX7_says_14 : decode cX7_says 14 = .ok (.aload_n 0, 1) := by decide +kernel
theorem dX7_says_15 : decode cX7_says 15 = .ok (.iconst (-1), 1) := by decide +kernel
theorem dX7_says_16 : decode cX7_says 16 = .ok (.invokevirtual 63, 3) := by decide +kernel
theorem dX7_says_19 : decode cX7_says 19 = .ok (.ireturn, 1) := by decide +kernel
theorem dX7_says_20 : decode cX7_says 20 = .ok (.aload_n 0, 1) := by decide +kernel
theorem dX7_says_21 : decode cX7_says 21 = .ok (.getfield 11, 3) := by decide +kernel
theorem dX7_says_24 : decode cX7_says 24 = .ok (.iload_n 1, 1) := by decide +kernel
theorem dX7_says_25 : decode cX7_says 25 = .ok (.aaload, 1) := by decide +kernel
theorem dX7_says_26 : decode cX7_says 26 = .ok (.invokevirtual 120, 3) := by decide +kernel
theorem dX7_says_29 : decode cX7_says 29 = .ok (.ifCond .eq 10, 3) := by decide +kernel
theorem dX7_says_32 : decode cX7_says 32 = .ok (.aload_n 0, 1) := by decide +kernel
theorem dX7_says_33 : decode cX7_says 33 = .ok (.bipush (-2), 2) := by decide +kernel
theorem dX7_says_35 : decode cX7_says 35 = .ok (.invokevirtual 63, 3) := by decide +kernel
theorem dX7_says_38 : decode cX7_says 38 = .ok (.ireturn, 1) := by decide +kernel
theorem dX7_says_39 : decode cX7_says 39 = .ok (.aload_n 0, 1) := by decide +kernel
theorem dX7_says_40 : decode cX7_says 40 = .ok (.getfield 11, 3) := by decide +kernel
theorem dX7_says_43 : decode cX7_says 43 = .ok (.iload_n 1, 1) := by decide +kernel
theorem dX7_says_44 : decode cX7_says 44 = .ok (.aaload, 1) := by decide +kernel
theorem dX7_says_45 : decode cX7_says 45 = .ok (.getfield 114, 3) := by decide +kernel
theorem dX7_says_48 : decode cX7_says 48 = .ok (.istore_n 3, 1) := by decide +kernel
theorem dX7_says_49 : decode cX7_says 49 = .ok (.aload_n 0, 1) := by decide +kernel
theorem dX7_says_50 : decode cX7_says 50 = .ok (.getfield 18, 3) := by decide +kernel
theorem dX7_says_53 : decode cX7_says 53 = .ok (.iload_n 3, 1) := by decide +kernel
theorem dX7_says_54 : decode cX7_says 54 = .ok (.invokevirtual 107, 3) := by decide +kernel
theorem dX7_says_57 : decode cX7_says 57 = .ok (.ifCond .ne 10, 3) := by decide +kernel
theorem dX7_says_60 : decode cX7_says 60 = .ok (.aload_n 0, 1) := by decide +kernel
theorem dX7_says_61 : decode cX7_says 61 = .ok (.bipush (-3), 2) := by decide +kernel
theorem dX7_says_63 : decode cX7_says 63 = .ok (.invokevirtual 63, 3) := by decide +kernel
theorem dX7_says_66 : decode cX7_says 66 = .ok (.ireturn, 1) := by decide +kernel
theorem dX7_says_67 : decode cX7_says 67 = .ok (.aload_n 0, 1) := by decide +kernel
theorem dX7_says_68 : decode cX7_says 68 = .ok (.getfield 18, 3) := by decide +kernel
theorem dX7_says_71 : decode cX7_says 71 = .ok (.getfield 124, 3) := by decide +kernel
theorem dX7_says_74 : decode cX7_says 74 = .ok (.iload_n 3, 1) := by decide +kernel
theorem dX7_says_75 : decode cX7_says 75 = .ok (.aaload, 1) := by decide +kernel
theorem dX7_says_76 : decode cX7_says 76 = .ok (.astore 4, 2) := by decide +kernel
theorem dX7_says_78 : decode cX7_says 78 = .ok (.aload 4, 2) := by decide +kernel
theorem dX7_says_80 : decode cX7_says 80 = .ok (.getfield 128, 3) := by decide +kernel
theorem dX7_says_83 : decode cX7_says 83 = .ok (.iload_n 2, 1) := by decide +kernel
theorem dX7_says_84 : decode cX7_says 84 = .ok (.invokestatic 133, 3) := by decide +kernel
theorem dX7_says_87 : decode cX7_says 87 = .ok (.ifCond .ne 10, 3) := by decide +kernel
theorem dX7_says_90 : decode cX7_says 90 = .ok (.aload_n 0, 1) := by decide +kernel
theorem dX7_says_91 : decode cX7_says 91 = .ok (.bipush (-2), 2) := by decide +kernel
theorem dX7_says_93 : decode cX7_says 93 = .ok (.invokevirtual 63, 3) := by decide +kernel
theorem dX7_says_96 : decode cX7_says 96 = .ok (.ireturn, 1) := by decide +kernel
theorem dX7_says_97 : decode cX7_says 97 = .ok (.aload 4, 2) := by decide +kernel
theorem dX7_says_99 : decode cX7_says 99 = .ok (.iload_n 2, 1) := by decide +kernel
theorem dX7_says_100 : decode cX7_says 100 = .ok (.invokevirtual 136, 3) := by decide +kernel
theorem dX7_says_103 : decode cX7_says 103 = .ok (.ireturn, 1) := by decide +kernel
theorem dX7_thing_0 : decode cX7_thing 0 = .ok (.iload_n 2, 1) := by decide +kernel
theorem dX7_thing_1 : decode cX7_thing 1 = .ok (.iconst 0, 1) := by decide +kernel
theorem dX7_thing_2 : decode cX7_thing 2 = .ok (.bipush 23, 2) := by decide +kernel
theorem dX7_thing_4 : decode cX7_thing 4 = .ok (.invokestatic 67, 3) := by decide +kernel
theorem dX7_thing_7 : decode cX7_thing 7 = .ok (.ifCond .eq 28, 3) := by decide +kernel
theorem dX7_thing_10 : decode cX7_thing 10 = .ok (.iload_n 3, 1) := by decide +kernel
theorem dX7_thing_11 : decode cX7_thing 11 = .ok (.iload_n 2, 1) := by decide +kernel
theorem dX7_thing_12 : decode cX7_thing 12 = .ok (.bipush 23, 2) := by decide +kernel
theorem dX7_thing_14 : decode cX7_thing 14 = .ok (.invokestatic 67, 3) := by decide +kernel
theorem dX7_thing_17 : decode cX7_thing 17 = .ok (.ifCond .eq 18, 3) := by decide +kernel
theorem dX7_thing_20 : decode cX7_thing 20 = .ok (.iload 4, 2) := by decide +kernel
theorem dX7_thing_22 : decode cX7_thing 22 = .ok (.iconst 0, 1) := by decide +kernel
theorem dX7_thing_23 : decode cX7_thing 23 = .ok (.bipush 9, 2) := by decide +kernel
theorem dX7_thing_25 : decode cX7_thing 25 = .ok (.invokestatic 67, 3) := by decide +kernel
theorem dX7_thing_28 : decode cX7_thing 28 = .ok (.ifCond .eq 7, 3) := by decide +kernel
theorem dX7_thing_31 : decode cX7_thing 31 = .ok (.iconst 1, 1) := by decide +kernel
theorem dX7_thing_32 : decode cX7_thing 32 = .ok (.goto 4, 3) := by decide +kernel
theorem dX7_thing_35 : decode cX7_thing 35 = .ok (.iconst 0, 1) := by decide +kernel
theorem dX7_thing_36 : decode cX7_thing 36 = .ok (.istore 8, 2) := by decide +kernel
theorem dX7_thing_38 : decode cX7_thing 38 = .ok (.iload 5, 2) := by decide +kernel
theorem dX7_thing_40 : decode cX7_thing 40 = .ok (.iconst 0, 1) := by decide +kernel
theorem dX7_thing_41 : decode cX7_thing 41 = .ok (.bipush 99, 2) := by decide +kernel
theorem dX7_thing_43 : decode cX7_thing 43 = .ok (.invokestatic 67, 3) := by decide +kernel
theorem dX7_thing_46 : decode cX7_thing 46 = .ok (.ifCond .eq 29, 3) := by decide +kernel
theorem dX7_thing_49 : decode cX7_thing 49 = .ok (.iload 6, 2) := by decide +kernel
theorem dX7_thing_51 : decode cX7_thing 51 = .ok (.iconst 0, 1) := by decide +kernel
theorem dX7_thing_52 : decode cX7_thing 52 = .ok (.bipush 9, 2) := by decide +kernel
theorem dX7_thing_54 : decode cX7_thing 54 = .ok (.invokestatic 67, 3) := by decide +kernel
theorem dX7_thing_57 : decode cX7_thing 57 = .ok (.ifCond .eq 18, 3) := by decide +kernel
theorem dX7_thing_60 : decode cX7_thing 60 = .ok (.iload 7, 2) := by decide +kernel
theorem dX7_thing_62 : decode cX7_thing 62 = .ok (.iconst 0, 1) := by decide +kernel
theorem dX7_thing_63 : decode cX7_thing 63 = .ok (.bipush 20, 2) := by decide +kernel
theorem dX7_thing_65 : decode cX7_thing 65 = .ok (.invokestatic 67, 3) := by decide +kernel
theorem dX7_thing_68 : decode cX7_thing 68 = .ok (.ifCond .eq 7, 3) := by decide +kernel
theorem dX7_thing_71 : decode cX7_thing 71 = .ok (.iconst 1, 1) := by decide +kernel
theorem dX7_thing_72 : decode cX7_thing 72 = .ok (.goto 4, 3) := by decide +kernel
theorem dX7_thing_75 : decode cX7_thing 75 = .ok (.iconst 0, 1) := by decide +kernel
theorem dX7_thing_76 : decode cX7_thing 76 = .ok (.istore 9, 2) := by decide +kernel
theorem dX7_thing_78 : decode cX7_thing 78 = .ok (.iload 8, 2) := by decide +kernel
theorem dX7_thing_80 : decode cX7_thing 80 = .ok (.ifCond .eq 15, 3) := by decide +kernel
theorem dX7_thing_83 : decode cX7_thing 83 = .ok (.iload 9, 2) := by decide +kernel
theorem dX7_thing_85 : decode cX7_thing 85 = .ok (.ifCond .eq 10, 3) := by decide +kernel
theorem dX7_thing_88 : decode cX7_thing 88 = .ok (.iload_n 1, 1) := by decide +kernel
theorem dX7_thing_89 : decode cX7_thing 89 = .ok (.invokestatic 139, 3) := by decide +kernel
theorem dX7_thing_92 : decode cX7_thing 92 = .ok (.ifCond .ne 10, 3) := by decide +kernel
theorem dX7_thing_95 : decode cX7_thing 95 = .ok (.aload_n 0, 1) := by decide +kernel
theorem dX7_thing_96 : decode cX7_thing 96 = .ok (.bipush (-6), 2) := by decide +kernel
theorem dX7_thing_98 : decode cX7_thing 98 = .ok (.invokevirtual 63, 3) := by decide +kernel
theorem dX7_thing_101 : decode cX7_thing 101 = .ok (.ireturn, 1) := by decide +kernel
theorem dX7_thing_102 : decode cX7_thing 102 = .ok (.aload_n 0, 1) := by decide +kernel
theorem dX7_thing_103 : decode cX7_thing 103 = .ok (.getfield 18, 3) := by decide +kernel
theorem dX7_thing_106 : decode cX7_thing 106 = .ok (.invokevirtual 142, 3) := by decide +kernel
theorem dX7_thing_109 : decode cX7_thing 109 = .ok (.ifCond .ne 10, 3) := by decide +kernel
theorem dX7_thing_112 : decode cX7_thing 112 = .ok (.aload_n 0, 1) := by decide +kernel
theorem dX7_thing_113 : decode cX7_thing 113 = .ok (.bipush (-7), 2) := by decide +kernel
theorem dX7_thing_115 : decode cX7_thing 115 = .ok (.invokevirtual 63, 3) := by decide +kernel
theorem dX7_thing_118 : decode cX7_thing 118 = .ok (.ireturn, 1) := by decide +kernel
theorem dX7_thing_119 : decode cX7_thing 119 = .ok (.aload_n 0, 1) := by decide +kernel
theorem dX7_thing_120 : decode cX7_thing 120 = .ok (.getfield 18, 3) := by decide +kernel
theorem dX7_thing_123 : decode cX7_thing 123 = .ok (.iload_n 1, 1) := by decide +kernel
theorem dX7_thing_124 : decode cX7_thing 124 = .ok (.iload_n 2, 1) := by decide +kernel
theorem dX7_thing_125 : decode cX7_thing 125 = .ok (.iload_n 3, 1) := by decide +kernel
theorem dX7_thing_126 : decode cX7_thing 126 = .ok (.iload 4, 2) := by decide +kernel
theorem dX7_thing_128 : decode cX7_thing 128 = .ok (.iload 5, 2) := by decide +kernel
theorem dX7_thing_130 : decode cX7_thing 130 = .ok (.iload 6, 2) := by decide +kernel
theorem dX7_thing_132 : decode cX7_thing 132 = .ok (.iload 7, 2) := by decide +kernel
theorem dX7_thing_134 : decode cX7_thing 134 = .ok (.invokevirtual 145, 3) := by decide +kernel
theorem dX7_thing_137 : decode cX7_thing 137 = .ok (.ireturn, 1) := by decide +kernel
theorem dX7_waiter_0 : decode cX7_waiter 0 = .ok (.iload_n 1, 1) := by decide +kernel
theorem dX7_waiter_1 : decode cX7_waiter 1 = .ok (.invokestatic 117, 3) := by decide +kernel
theorem dX7_waiter_4 : decode cX7_waiter 4 = .ok (.ifCond .ne 9, 3) := by decide +kernel
theorem dX7_waiter_7 : decode cX7_waiter 7 = .ok (.aload_n 0, 1) := by decide +kernel
theorem dX7_waiter_8 : decode cX7_waiter 8 = .ok (.iconst (-1), 1) := by decide +kernel
theorem dX7_waiter_9 : decode cX7_waiter 9 = .ok (.invokevirtual 63, 3) := by decide +kernel
theorem dX7_waiter_12 : decode cX7_waiter 12 = .ok (.ireturn, 1) := by decide +kernel
theorem dX7_waiter_13 : decode cX7_waiter 13 = .ok (.iload_n 2, 1) := by decide +kernel
theorem dX7_waiter_14 : decode cX7_waiter 14 = .ok (.iconst 0, 1) := by decide +kernel
theorem dX7_waiter_15 : decode cX7_waiter 15 = .ok (.bipush 9, 2) := by decide +kernel
theorem dX7_waiter_17 : decode cX7_waiter 17 = .ok (.invokestatic 67, 3) := by decide +kernel
theorem dX7_waiter_20 : decode cX7_waiter 20 = .ok (.ifCond .eq 36, 3) := by decide +kernel
theorem dX7_waiter_23 : decode cX7_waiter 23 = .ok (.iload_n 3, 1) := by decide +kernel
theorem dX7_waiter_24 : decode cX7_waiter 24 = .ok (.iconst 1, 1) := by decide +kernel
theorem dX7_waiter_25 : decode cX7_waiter 25 = .ok (.bipush 9, 2) := by decide +kernel
theorem dX7_waiter_27 : decode cX7_waiter 27 = .ok (.invokestatic 67, 3) := by decide +kernel
theorem dX7_waiter_30 : decode cX7_waiter 30 = .ok (.ifCond .eq 26, 3) := by decide +kernel
theorem dX7_waiter_33 : decode cX7_waiter 33 = .ok (.iload 4, 2) := by decide +kernel
theorem dX7_waiter_35 : decode cX7_waiter 35 = .ok (.iconst 1, 1) := by decide +kernel
theorem dX7_waiter_36 : decode cX7_waiter 36 = .ok (.bipush 24, 2) := by decide +kernel
theorem dX7_waiter_38 : decode cX7_waiter 38 = .ok (.invokestatic 67, 3) := by decide +kernel
theorem dX7_waiter_41 : decode cX7_waiter 41 = .ok (.ifCond .eq 15, 3) := by decide +kernel
theorem dX7_waiter_44 : decode cX7_waiter 44 = .ok (.iload 5, 2) := by decide +kernel
theorem dX7_waiter_46 : decode cX7_waiter 46 = .ok (.invokestatic 139, 3) := by decide +kernel
theorem dX7_waiter_49 : decode cX7_waiter 49 = .ok (.ifCond .eq 7, 3) := by decide +kernel
theorem dX7_waiter_52 : decode cX7_waiter 52 = .ok (.iconst 1, 1) := by decide +kernel
theorem dX7_waiter_53 : decode cX7_waiter 53 = .ok (.goto 4, 3) := by decide +kernel
theorem dX7_waiter_56 : decode cX7_waiter 56 = .ok (.iconst 0, 1) := by decide +kernel
theorem dX7_waiter_57 : decode cX7_waiter 57 = .ok (.istore 6, 2) := by decide +kernel
theorem dX7_waiter_59 : decode cX7_waiter 59 = .ok (.iload 6, 2) := by decide +kernel
theorem dX7_waiter_61 : decode cX7_waiter 61 = .ok (.ifCond .ne 10, 3) := by decide +kernel
theorem dX7_waiter_64 : decode cX7_waiter 64 = .ok (.aload_n 0, 1) := by decide +kernel
theorem dX7_waiter_65 : decode cX7_waiter 65 = .ok (.bipush (-6), 2) := by decide +kernel
theorem dX7_waiter_67 : decode cX7_waiter 67 = .ok (.invokevirtual 63, 3) := by decide +kernel
theorem dX7_waiter_70 : decode cX7_waiter 70 = .ok (.ireturn, 1) := by decide +kernel
theorem dX7_waiter_71 : decode cX7_waiter 71 = .ok (.aload_n 0, 1) := by decide +kernel
theorem dX7_waiter_72 : decode cX7_waiter 72 = .ok (.getfield 18, 3) := by decide +kernel
theorem dX7_waiter_75 : decode cX7_waiter 75 = .ok (.invokevirtual 149, 3) := by decide +kernel
theorem dX7_waiter_78 : decode cX7_waiter 78 = .ok (.ifCond .ne 10, 3) := by decide +kernel
theorem dX7_waiter_81 : decode cX7_waiter 81 = .ok (.aload_n 0, 1) := by decide +kernel
theorem dX7_waiter_82 : decode cX7_waiter 82 = .ok (.bipush (-7), 2) := by decide +kernel
theorem dX7_waiter_84 : decode cX7_waiter 84 = .ok (.invokevirtual 63, 3) := by decide +kernel
theorem dX7_waiter_87 : decode cX7_waiter 87 = .ok (.ireturn, 1) := by decide +kernel
theorem dX7_waiter_88 : decode cX7_waiter 88 = .ok (.aload_n 0, 1) := by decide +kernel
theorem dX7_waiter_89 : decode cX7_waiter 89 = .ok (.getfield 18, 3) := by decide +kernel
theorem dX7_waiter_92 : decode cX7_waiter 92 = .ok (.iload_n 1, 1) := by decide +kernel
theorem dX7_waiter_93 : decode cX7_waiter 93 = .ok (.iload_n 2, 1) := by decide +kernel
theorem dX7_waiter_94 : decode cX7_waiter 94 = .ok (.iload_n 3, 1) := by decide +kernel
theorem dX7_waiter_95 : decode cX7_waiter 95 = .ok (.iload 4, 2) := by decide +kernel
theorem dX7_waiter_97 : decode cX7_waiter 97 = .ok (.iload 5, 2) := by decide +kernel
theorem dX7_waiter_99 : decode cX7_waiter 99 = .ok (.invokevirtual 152, 3) := by decide +kernel
theorem dX7_waiter_102 : decode cX7_waiter 102 = .ok (.ireturn, 1) := by decide +kernel
theorem dX7_move_0 : decode cX7_move 0 = .ok (.aload_n 0, 1) := by decide +kernel
theorem dX7_move_1 : decode cX7_move 1 = .ok (.getfield 18, 3) := by decide +kernel
theorem dX7_move_4 : decode cX7_move 4 = .ok (.iload_n 1, 1) := by decide +kernel
theorem dX7_move_5 : decode cX7_move 5 = .ok (.invokevirtual 107, 3) := by decide +kernel
theorem dX7_move_8 : decode cX7_move 8 = .ok (.ifCond .ne 9, 3) := by decide +kernel
theorem dX7_move_11 : decode cX7_move 11 = .ok (.aload_n 0, 1) := by decide +kernel
theorem dX7_move_12 : decode cX7_move 12 = .ok (.iconst (-1), 1) := by decide +kernel
theorem dX7_move_13 : decode cX7_move 13 = .ok (.invokevirtual 63, 3) := by decide +kernel
theorem dX7_move_16 : decode cX7_move 16 = .ok (.ireturn, 1) := by decide +kernel
theorem dX7_move_17 : decode cX7_move 17 = .ok (.iload_n 2, 1) := by decide +kernel
theorem dX7_move_18 : decode cX7_move 18 = .ok (.invokestatic 139, 3) := by decide +kernel
theorem dX7_move_21 : decode cX7_move 21 = .ok (.ifCond .ne 10, 3) := by decide +kernel
theorem dX7_move_24 : decode cX7_move 24 = .ok (.aload_n 0, 1) := by decide +kernel
theorem dX7_move_25 : decode cX7_move 25 = .ok (.bipush (-6), 2) := by decide +kernel
theorem dX7_move_27 : decode cX7_move 27 = .ok (.invokevirtual 63, 3) := by decide +kernel
theorem dX7_move_30 : decode cX7_move 30 = .ok (.ireturn, 1) := by decide +kernel
theorem dX7_move_31 : decode cX7_move 31 = .ok (.aload_n 0, 1) := by decide +kernel
theorem dX7_move_32 : decode cX7_move 32 = .ok (.getfield 18, 3) := by decide +kernel
theorem dX7_move_35 : decode cX7_move 35 = .ok (.getfield 124, 3) := by decide +kernel
theorem dX7_move_38 : decode cX7_move 38 = .ok (.iload_n 1, 1) := by decide +kernel
theorem dX7_move_39 : decode cX7_move 39 = .ok (.aaload, 1) := by decide +kernel
theorem dX7_move_40 : decode cX7_move 40 = .ok (.getfield 156, 3) := by decide +kernel
theorem dX7_move_43 : decode cX7_move 43 = .ok (.istore_n 3, 1) := by decide +kernel
theorem dX7_move_44 : decode cX7_move 44 = .ok (.aload_n 0, 1) := by decide +kernel
theorem dX7_move_45 : decode cX7_move 45 = .ok (.getfield 18, 3) := by decide +kernel
theorem dX7_move_48 : decode cX7_move 48 = .ok (.getfield 124, 3) := by decide +kernel
theorem dX7_move_51 : decode cX7_move 51 = .ok (.iload_n 1, 1) := by decide +kernel
theorem dX7_move_52 : decode cX7_move 52 = .ok (.aaload, 1) := by decide +kernel
theorem dX7_move_53 : decode cX7_move 53 = .ok (.iload_n 2, 1) := by decide +kernel
theorem dX7_move_54 : decode cX7_move 54 = .ok (.putfield 156, 3) := by decide +kernel
theorem dX7_move_57 : decode cX7_move 57 = .ok (.iload_n 3, 1) := by decide +kernel
theorem dX7_move_58 : decode cX7_move 58 = .ok (.ireturn, 1) := by decide +kernel
theorem dX7_ask_0 : decode cX7_ask 0 = .ok (.iload_n 1, 1) := by decide +kernel
theorem dX7_ask_1 : decode cX7_ask 1 = .ok (.iconst 0, 1) := by decide +kernel
theorem dX7_ask_2 : decode cX7_ask 2 = .ok (.bipush 9, 2) := by decide +kernel
theorem dX7_ask_4 : decode cX7_ask 4 = .ok (.invokestatic 67, 3) := by decide +kernel
theorem dX7_ask_7 : decode cX7_ask 7 = .ok (.ifCond .ne 10, 3) := by decide +kernel
theorem dX7_ask_10 : decode cX7_ask 10 = .ok (.aload_n 0, 1) := by decide +kernel
theorem dX7_ask_11 : decode cX7_ask 11 = .ok (.bipush (-6), 2) := by decide +kernel
theorem dX7_ask_13 : decode cX7_ask 13 = .ok (.invokevirtual 63, 3) := by decide +kernel
theorem dX7_ask_16 : decode cX7_ask 16 = .ok (.ireturn, 1) := by decide +kernel
theorem dX7_ask_17 : decode cX7_ask 17 = .ok (.aload_n 0, 1) := by decide +kernel
theorem dX7_ask_18 : decode cX7_ask 18 = .ok (.getfield 18, 3) := by decide +kernel
theorem dX7_ask_21 : decode cX7_ask 21 = .ok (.getfield 158, 3) := by decide +kernel
theorem dX7_ask_24 : decode cX7_ask 24 = .ok (.istore_n 2, 1) := by decide +kernel
theorem dX7_ask_25 : decode cX7_ask 25 = .ok (.aload_n 0, 1) := by decide +kernel
theorem dX7_ask_26 : decode cX7_ask 26 = .ok (.getfield 18, 3) := by decide +kernel
theorem dX7_ask_29 : decode cX7_ask 29 = .ok (.iload_n 1, 1) := by decide +kernel
theorem dX7_ask_30 : decode cX7_ask 30 = .ok (.putfield 158, 3) := by decide +kernel
theorem dX7_ask_33 : decode cX7_ask 33 = .ok (.iload_n 2, 1) := by decide +kernel
theorem dX7_ask_34 : decode cX7_ask 34 = .ok (.ireturn, 1) := by decide +kernel
theorem dX7_thingOf_0 : decode cX7_thingOf 0 = .ok (.aload_n 0, 1) := by decide +kernel
theorem dX7_thingOf_1 : decode cX7_thingOf 1 = .ok (.getfield 18, 3) := by decide +kernel
theorem dX7_thingOf_4 : decode cX7_thingOf 4 = .ok (.iload_n 1, 1) := by decide +kernel
theorem dX7_thingOf_5 : decode cX7_thingOf 5 = .ok (.invokevirtual 161, 3) := by decide +kernel
theorem dX7_thingOf_8 : decode cX7_thingOf 8 = .ok (.ifCond .eq 13, 3) := by decide +kernel
theorem dX7_thingOf_11 : decode cX7_thingOf 11 = .ok (.iload_n 2, 1) := by decide +kernel
theorem dX7_thingOf_12 : decode cX7_thingOf 12 = .ok (.iconst 0, 1) := by decide +kernel
theorem dX7_thingOf_13 : decode cX7_thingOf 13 = .ok (.bipush 7, 2) := by decide +kernel
theorem dX7_thingOf_15 : decode cX7_thingOf 15 = .ok (.invokestatic 67, 3) := by decide +kernel
theorem dX7_thingOf_18 : decode cX7_thingOf 18 = .ok (.ifCond .ne 10, 3) := by decide +kernel
theorem dX7_thingOf_21 : decode cX7_thingOf 21 = .ok (.aload_n 0, 1) := by decide +kernel
theorem dX7_thingOf_22 : decode cX7_thingOf 22 = .ok (.bipush (-5), 2) := by decide +kernel
theorem dX7_thingOf_24 : decode cX7_thingOf 24 = .ok (.invokevirtual 63, 3) := by decide +kernel
theorem dX7_thingOf_27 : decode cX7_thingOf 27 = .ok (.ireturn, 1) := by decide +kernel
theorem dX7_thingOf_28 : decode cX7_thingOf 28 = .ok (.aload_n 0, 1) := by decide +kernel
theorem dX7_thingOf_29 : decode cX7_thingOf 29 = .ok (.getfield 18, 3) := by decide +kernel
theorem dX7_thingOf_32 : decode cX7_thingOf 32 = .ok (.getfield 164, 3) := by decide +kernel
theorem dX7_thingOf_35 : decode cX7_thingOf 35 = .ok (.iload_n 1, 1) := by decide +kernel
theorem dX7_thingOf_36 : decode cX7_thingOf 36 = .ok (.aaload, 1) := by decide +kernel
theorem dX7_thingOf_37 : decode cX7_thingOf 37 = .ok (.iload_n 2, 1) := by decide +kernel
theorem dX7_thingOf_38 : decode cX7_thingOf 38 = .ok (.invokevirtual 168, 3) := by decide +kernel
theorem dX7_thingOf_41 : decode cX7_thingOf 41 = .ok (.ireturn, 1) := by decide +kernel
theorem dX7_waiterOf_0 : decode cX7_waiterOf 0 = .ok (.aload_n 0, 1) := by decide +kernel
theorem dX7_waiterOf_1 : decode cX7_waiterOf 1 = .ok (.getfield 18, 3) := by decide +kernel
theorem dX7_waiterOf_4 : decode cX7_waiterOf 4 = .ok (.iload_n 1, 1) := by decide +kernel
theorem dX7_waiterOf_5 : decode cX7_waiterOf 5 = .ok (.invokevirtual 107, 3) := by decide +kernel
theorem dX7_waiterOf_8 : decode cX7_waiterOf 8 = .ok (.ifCond .eq 13, 3) := by decide +kernel
theorem dX7_waiterOf_11 : decode cX7_waiterOf 11 = .ok (.iload_n 2, 1) := by decide +kernel
theorem dX7_waiterOf_12 : decode cX7_waiterOf 12 = .ok (.iconst 0, 1) := by decide +kernel
theorem dX7_waiterOf_13 : decode cX7_waiterOf 13 = .ok (.bipush 6, 2) := by decide +kernel
theorem dX7_waiterOf_15 : decode cX7_waiterOf 15 = .ok (.invokestatic 67, 3) := by decide +kernel
theorem dX7_waiterOf_18 : decode cX7_waiterOf 18 = .ok (.ifCond .ne 10, 3) := by decide +kernel
theorem dX7_waiterOf_21 : decode cX7_waiterOf 21 = .ok (.aload_n 0, 1) := by decide +kernel
theorem dX7_waiterOf_22 : decode cX7_waiterOf 22 = .ok (.bipush (-5), 2) := by decide +kernel
theorem dX7_waiterOf_24 : decode cX7_waiterOf 24 = .ok (.invokevirtual 63, 3) := by decide +kernel
theorem dX7_waiterOf_27 : decode cX7_waiterOf 27 = .ok (.ireturn, 1) := by decide +kernel
theorem dX7_waiterOf_28 : decode cX7_waiterOf 28 = .ok (.aload_n 0, 1) := by decide +kernel
theorem dX7_waiterOf_29 : decode cX7_waiterOf 29 = .ok (.getfield 18, 3) := by decide +kernel
theorem dX7_waiterOf_32 : decode cX7_waiterOf 32 = .ok (.getfield 124, 3) := by decide +kernel
theorem dX7_waiterOf_35 : decode cX7_waiterOf 35 = .ok (.iload_n 1, 1) := by decide +kernel
theorem dX7_waiterOf_36 : decode cX7_waiterOf 36 = .ok (.aaload, 1) := by decide +kernel
theorem dX7_waiterOf_37 : decode cX7_waiterOf 37 = .ok (.iload_n 2, 1) := by decide +kernel
theorem dX7_waiterOf_38 : decode cX7_waiterOf 38 = .ok (.aload_n 0, 1) := by decide +kernel
theorem dX7_waiterOf_39 : decode cX7_waiterOf 39 = .ok (.getfield 18, 3) := by decide +kernel
theorem dX7_waiterOf_42 : decode cX7_waiterOf 42 = .ok (.getfield 158, 3) := by decide +kernel
theorem dX7_waiterOf_45 : decode cX7_waiterOf 45 = .ok (.invokevirtual 173, 3) := by decide +kernel
theorem dX7_waiterOf_48 : decode cX7_waiterOf 48 = .ok (.ireturn, 1) := by decide +kernel
theorem dX7_cost_0 : decode cX7_cost 0 = .ok (.aload_n 0, 1) := by decide +kernel
theorem dX7_cost_1 : decode cX7_cost 1 = .ok (.getfield 18, 3) := by decide +kernel
theorem dX7_cost_4 : decode cX7_cost 4 = .ok (.iload_n 1, 1) := by decide +kernel
theorem dX7_cost_5 : decode cX7_cost 5 = .ok (.invokevirtual 107, 3) := by decide +kernel
theorem dX7_cost_8 : decode cX7_cost 8 = .ok (.ifCond .ne 9, 3) := by decide +kernel
theorem dX7_cost_11 : decode cX7_cost 11 = .ok (.aload_n 0, 1) := by decide +kernel
theorem dX7_cost_12 : decode cX7_cost 12 = .ok (.iconst (-1), 1) := by decide +kernel
theorem dX7_cost_13 : decode cX7_cost 13 = .ok (.invokevirtual 63, 3) := by decide +kernel
theorem dX7_cost_16 : decode cX7_cost 16 = .ok (.ireturn, 1) := by decide +kernel
theorem dX7_cost_17 : decode cX7_cost 17 = .ok (.iload_n 2, 1) := by decide +kernel
theorem dX7_cost_18 : decode cX7_cost 18 = .ok (.iconst 0, 1) := by decide +kernel
theorem dX7_cost_19 : decode cX7_cost 19 = .ok (.bipush 24, 2) := by decide +kernel
theorem dX7_cost_21 : decode cX7_cost 21 = .ok (.invokestatic 67, 3) := by decide +kernel
theorem dX7_cost_24 : decode cX7_cost 24 = .ok (.ifCond .ne 10, 3) := by decide +kernel
theorem dX7_cost_27 : decode cX7_cost 27 = .ok (.aload_n 0, 1) := by decide +kernel
theorem dX7_cost_28 : decode cX7_cost 28 = .ok (.bipush (-6), 2) := by decide +kernel
theorem dX7_cost_30 : decode cX7_cost 30 = .ok (.invokevirtual 63, 3) := by decide +kernel
theorem dX7_cost_33 : decode cX7_cost 33 = .ok (.ireturn, 1) := by decide +kernel
theorem dX7_cost_34 : decode cX7_cost 34 = .ok (.aload_n 0, 1) := by decide +kernel
theorem dX7_cost_35 : decode cX7_cost 35 = .ok (.getfield 18, 3) := by decide +kernel
theorem dX7_cost_38 : decode cX7_cost 38 = .ok (.getfield 124, 3) := by decide +kernel
theorem dX7_cost_41 : decode cX7_cost 41 = .ok (.iload_n 1, 1) := by decide +kernel
theorem dX7_cost_42 : decode cX7_cost 42 = .ok (.aaload, 1) := by decide +kernel
theorem dX7_cost_43 : decode cX7_cost 43 = .ok (.iload_n 2, 1) := by decide +kernel
theorem dX7_cost_44 : decode cX7_cost 44 = .ok (.aload_n 0, 1) := by decide +kernel
theorem dX7_cost_45 : decode cX7_cost 45 = .ok (.getfield 18, 3) := by decide +kernel
theorem dX7_cost_48 : decode cX7_cost 48 = .ok (.getfield 158, 3) := by decide +kernel
theorem dX7_cost_51 : decode cX7_cost 51 = .ok (.invokevirtual 175, 3) := by decide +kernel
theorem dX7_cost_54 : decode cX7_cost 54 = .ok (.ireturn, 1) := by decide +kernel
theorem dX7_guild_0 : decode cX7_guild 0 = .ok (.aload_n 0, 1) := by decide +kernel
theorem dX7_guild_1 : decode cX7_guild 1 = .ok (.iload_n 1, 1) := by decide +kernel
theorem dX7_guild_2 : decode cX7_guild 2 = .ok (.invokevirtual 75, 3) := by decide +kernel
theorem dX7_guild_5 : decode cX7_guild 5 = .ok (.istore_n 2, 1) := by decide +kernel
theorem dX7_guild_6 : decode cX7_guild 6 = .ok (.iload_n 2, 1) := by decide +kernel
theorem dX7_guild_7 : decode cX7_guild 7 = .ok (.ifCond .eq 9, 3) := by decide +kernel
theorem dX7_guild_10 : decode cX7_guild 10 = .ok (.aload_n 0, 1) := by decide +kernel
theorem dX7_guild_11 : decode cX7_guild 11 = .ok (.iload_n 2, 1) := by decide +kernel
theorem dX7_guild_12 : decode cX7_guild 12 = .ok (.invokevirtual 63, 3) := by decide +kernel
theorem dX7_guild_15 : decode cX7_guild 15 = .ok (.ireturn, 1) := by decide +kernel
theorem dX7_guild_16 : decode cX7_guild 16 = .ok (.aload_n 0, 1) := by decide +kernel
theorem dX7_guild_17 : decode cX7_guild 17 = .ok (.aload_n 0, 1) := by decide +kernel
theorem dX7_guild_18 : decode cX7_guild 18 = .ok (.getfield 28, 3) := by decide +kernel
theorem dX7_guild_21 : decode cX7_guild 21 = .ok (.aload_n 0, 1) := by decide +kernel
theorem dX7_guild_22 : decode cX7_guild 22 = .ok (.getfield 11, 3) := by decide +kernel
theorem dX7_guild_25 : decode cX7_guild 25 = .ok (.iload_n 1, 1) := by decide +kernel
theorem dX7_guild_26 : decode cX7_guild 26 = .ok (.aaload, 1) := by decide +kernel
theorem dX7_guild_27 : decode cX7_guild 27 = .ok (.aload_n 0, 1) := by decide +kernel
theorem dX7_guild_28 : decode cX7_guild 28 = .ok (.getfield 18, 3) := by decide +kernel
theorem dX7_guild_31 : decode cX7_guild 31 = .ok (.invokevirtual 178, 3) := by decide +kernel
theorem dX7_guild_34 : decode cX7_guild 34 = .ok (.putfield 54, 3) := by decide +kernel
theorem dX7_guild_37 : decode cX7_guild 37 = .ok (.aload_n 0, 1) := by decide +kernel
theorem dX7_guild_38 : decode cX7_guild 38 = .ok (.getfield 54, 3) := by decide +kernel
theorem dX7_guild_41 : decode cX7_guild 41 = .ok (.iconst (-1), 1) := by decide +kernel
theorem dX7_guild_42 : decode cX7_guild 42 = .ok (.if_icmp .eq 10, 3) := by decide +kernel
theorem dX7_guild_45 : decode cX7_guild 45 = .ok (.aload_n 0, 1) := by decide +kernel
theorem dX7_guild_46 : decode cX7_guild 46 = .ok (.bipush (-6), 2) := by decide +kernel
theorem dX7_guild_48 : decode cX7_guild 48 = .ok (.invokevirtual 63, 3) := by decide +kernel
theorem dX7_guild_51 : decode cX7_guild 51 = .ok (.ireturn, 1) := by decide +kernel
theorem dX7_guild_52 : decode cX7_guild 52 = .ok (.aload_n 0, 1) := by decide +kernel
theorem dX7_guild_53 : decode cX7_guild 53 = .ok (.getfield 18, 3) := by decide +kernel
theorem dX7_guild_56 : decode cX7_guild 56 = .ok (.aload_n 0, 1) := by decide +kernel
theorem dX7_guild_57 : decode cX7_guild 57 = .ok (.getfield 28, 3) := by decide +kernel
theorem dX7_guild_60 : decode cX7_guild 60 = .ok (.getfield 182, 3) := by decide +kernel
theorem dX7_guild_63 : decode cX7_guild 63 = .ok (.invokevirtual 185, 3) := by decide +kernel
theorem dX7_guild_66 : decode cX7_guild 66 = .ok (.aload_n 0, 1) := by decide +kernel
theorem dX7_guild_67 : decode cX7_guild 67 = .ok (.getfield 28, 3) := by decide +kernel
theorem dX7_guild_70 : decode cX7_guild 70 = .ok (.getfield 189, 3) := by decide +kernel
theorem dX7_guild_73 : decode cX7_guild 73 = .ok (.ireturn, 1) := by decide +kernel
theorem dX7_fault_0 : decode cX7_fault 0 = .ok (.aload_n 0, 1) := by decide +kernel
theorem dX7_fault_1 : decode cX7_fault 1 = .ok (.getfield 54, 3) := by decide +kernel
theorem dX7_fault_4 : decode cX7_fault 4 = .ok (.ireturn, 1) := by decide +kernel
theorem dX7_by_0 : decode cX7_by 0 = .ok (.aload_n 0, 1) := by decide +kernel
theorem dX7_by_1 : decode cX7_by 1 = .ok (.getfield 18, 3) := by decide +kernel
theorem dX7_by_4 : decode cX7_by 4 = .ok (.iload_n 1, 1) := by decide +kernel
theorem dX7_by_5 : decode cX7_by 5 = .ok (.invokevirtual 161, 3) := by decide +kernel
theorem dX7_by_8 : decode cX7_by 8 = .ok (.ifCond .ne 9, 3) := by decide +kernel
theorem dX7_by_11 : decode cX7_by 11 = .ok (.aload_n 0, 1) := by decide +kernel
theorem dX7_by_12 : decode cX7_by 12 = .ok (.iconst (-1), 1) := by decide +kernel
theorem dX7_by_13 : decode cX7_by 13 = .ok (.invokevirtual 63, 3) := by decide +kernel
theorem dX7_by_16 : decode cX7_by 16 = .ok (.ireturn, 1) := by decide +kernel
theorem dX7_by_17 : decode cX7_by 17 = .ok (.iload_n 2, 1) := by decide +kernel
theorem dX7_by_18 : decode cX7_by 18 = .ok (.invokestatic 192, 3) := by decide +kernel
theorem dX7_by_21 : decode cX7_by 21 = .ok (.ifCond .ne 10, 3) := by decide +kernel
theorem dX7_by_24 : decode cX7_by 24 = .ok (.aload_n 0, 1) := by decide +kernel
theorem dX7_by_25 : decode cX7_by 25 = .ok (.bipush (-6), 2) := by decide +kernel
theorem dX7_by_27 : decode cX7_by 27 = .ok (.invokevirtual 63, 3) := by decide +kernel
theorem dX7_by_30 : decode cX7_by 30 = .ok (.ireturn, 1) := by decide +kernel
theorem dX7_by_31 : decode cX7_by 31 = .ok (.aload_n 0, 1) := by decide +kernel
theorem dX7_by_32 : decode cX7_by 32 = .ok (.getfield 18, 3) := by decide +kernel
theorem dX7_by_35 : decode cX7_by 35 = .ok (.getfield 164, 3) := by decide +kernel
theorem dX7_by_38 : decode cX7_by 38 = .ok (.iload_n 1, 1) := by decide +kernel
theorem dX7_by_39 : decode cX7_by 39 = .ok (.aaload, 1) := by decide +kernel
theorem dX7_by_40 : decode cX7_by 40 = .ok (.iload_n 2, 1) := by decide +kernel
theorem dX7_by_41 : decode cX7_by 41 = .ok (.invokevirtual 195, 3) := by decide +kernel
theorem dX7_by_44 : decode cX7_by 44 = .ok (.ireturn, 1) := by decide +kernel
theorem dX7_stop_0 : decode cX7_stop 0 = .ok (.aload_n 0, 1) := by decide +kernel
theorem dX7_stop_1 : decode cX7_stop 1 = .ok (.getfield 18, 3) := by decide +kernel
theorem dX7_stop_4 : decode cX7_stop 4 = .ok (.iload_n 1, 1) := by decide +kernel
theorem dX7_stop_5 : decode cX7_stop 5 = .ok (.invokevirtual 161, 3) := by decide +kernel
theorem dX7_stop_8 : decode cX7_stop 8 = .ok (.ifCond .eq 14, 3) := by decide +kernel
theorem dX7_stop_11 : decode cX7_stop 11 = .ok (.aload_n 0, 1) := by decide +kernel
theorem dX7_stop_12 : decode cX7_stop 12 = .ok (.getfield 18, 3) := by decide +kernel
theorem dX7_stop_15 : decode cX7_stop 15 = .ok (.iload_n 2, 1) := by decide +kernel
theorem dX7_stop_16 : decode cX7_stop 16 = .ok (.invokevirtual 107, 3) := by decide +kernel
theorem dX7_stop_19 : decode cX7_stop 19 = .ok (.ifCond .ne 9, 3) := by decide +kernel
theorem dX7_stop_22 : decode cX7_stop 22 = .ok (.aload_n 0, 1) := by decide +kernel
theorem dX7_stop_23 : decode cX7_stop 23 = .ok (.iconst (-1), 1) := by decide +kernel
theorem dX7_stop_24 : decode cX7_stop 24 = .ok (.invokevirtual 198, 3) := by decide +kernel
theorem dX7_stop_27 : decode cX7_stop 27 = .ok (.ireturn, 1) := by decide +kernel
theorem dX7_stop_28 : decode cX7_stop 28 = .ok (.iload_n 3, 1) := by decide +kernel
theorem dX7_stop_29 : decode cX7_stop 29 = .ok (.iconst 0, 1) := by decide +kernel
theorem dX7_stop_30 : decode cX7_stop 30 = .ok (.iconst 1, 1) := by decide +kernel
theorem dX7_stop_31 : decode cX7_stop 31 = .ok (.invokestatic 67, 3) := by decide +kernel
theorem dX7_stop_34 : decode cX7_stop 34 = .ok (.ifCond .ne 10, 3) := by decide +kernel
theorem dX7_stop_37 : decode cX7_stop 37 = .ok (.aload_n 0, 1) := by decide +kernel
theorem dX7_stop_38 : decode cX7_stop 38 = .ok (.bipush (-5), 2) := by decide +kernel
theorem dX7_stop_40 : decode cX7_stop 40 = .ok (.invokevirtual 198, 3) := by decide +kernel
theorem dX7_stop_43 : decode cX7_stop 43 = .ok (.ireturn, 1) := by decide +kernel
theorem dX7_stop_44 : decode cX7_stop 44 = .ok (.aload_n 0, 1) := by decide +kernel
theorem dX7_stop_45 : decode cX7_stop 45 = .ok (.getfield 18, 3) := by decide +kernel
theorem dX7_stop_48 : decode cX7_stop 48 = .ok (.getfield 164, 3) := by decide +kernel
theorem dX7_stop_51 : decode cX7_stop 51 = .ok (.iload_n 1, 1) := by decide +kernel
theorem dX7_stop_52 : decode cX7_stop 52 = .ok (.aaload, 1) := by decide +kernel
theorem dX7_stop_53 : decode cX7_stop 53 = .ok (.astore 4, 2) := by decide +kernel
theorem dX7_stop_55 : decode cX7_stop 55 = .ok (.aload_n 0, 1) := by decide +kernel
theorem dX7_stop_56 : decode cX7_stop 56 = .ok (.getfield 18, 3) := by decide +kernel
theorem dX7_stop_59 : decode cX7_stop 59 = .ok (.getfield 124, 3) := by decide +kernel
theorem dX7_stop_62 : decode cX7_stop 62 = .ok (.iload_n 2, 1) := by decide +kernel
theorem dX7_stop_63 : decode cX7_stop 63 = .ok (.aaload, 1) := by decide +kernel
theorem dX7_stop_64 : decode cX7_stop 64 = .ok (.astore 5, 2) := by decide +kernel
theorem dX7_stop_66 : decode cX7_stop 66 = .ok (.iload_n 3, 1) := by decide +kernel
theorem dX7_stop_67 : decode cX7_stop 67 = .ok (.ifCond .ne 17, 3) := by decide +kernel
theorem dX7_stop_70 : decode cX7_stop 70 = .ok (.aload_n 0, 1) := by decide +kernel
theorem dX7_stop_71 : decode cX7_stop 71 = .ok (.getfield 18, 3) := by decide +kernel
theorem dX7_stop_74 : decode cX7_stop 74 = .ok (.aload 4, 2) := by decide +kernel
theorem dX7_stop_76 : decode cX7_stop 76 = .ok (.aload 5, 2) := by decide +kernel
theorem dX7_stop_78 : decode cX7_stop 78 = .ok (.invokevirtual 201, 3) := by decide +kernel
theorem dX7_stop_81 : decode cX7_stop 81 = .ok (.goto 14, 3) := by decide +kernel
theorem dX7_stop_84 : decode cX7_stop 84 = .ok (.aload_n 0, 1) := by decide +kernel
theorem dX7_stop_85 : decode cX7_stop 85 = .ok (.getfield 18, 3) := by decide +kernel
theorem dX7_stop_88 : decode cX7_stop 88 = .ok (.aload 4, 2) := by decide +kernel
theorem dX7_stop_90 : decode cX7_stop 90 = .ok (.aload 5, 2) := by decide +kernel
theorem dX7_stop_92 : decode cX7_stop 92 = .ok (.invokevirtual 205, 3) := by decide +kernel
theorem dX7_stop_95 : decode cX7_stop 95 = .ok (.ireturn, 1) := by decide +kernel
theorem dX7_best_0 : decode cX7_best 0 = .ok (.aload_n 0, 1) := by decide +kernel
theorem dX7_best_1 : decode cX7_best 1 = .ok (.getfield 18, 3) := by decide +kernel
theorem dX7_best_4 : decode cX7_best 4 = .ok (.iload_n 1, 1) := by decide +kernel
theorem dX7_best_5 : decode cX7_best 5 = .ok (.invokevirtual 161, 3) := by decide +kernel
theorem dX7_best_8 : decode cX7_best 8 = .ok (.ifCond .ne 9, 3) := by decide +kernel
theorem dX7_best_11 : decode cX7_best 11 = .ok (.aload_n 0, 1) := by decide +kernel
theorem dX7_best_12 : decode cX7_best 12 = .ok (.iconst (-1), 1) := by decide +kernel
theorem dX7_best_13 : decode cX7_best 13 = .ok (.invokevirtual 198, 3) := by decide +kernel
theorem dX7_best_16 : decode cX7_best 16 = .ok (.ireturn, 1) := by decide +kernel
theorem dX7_best_17 : decode cX7_best 17 = .ok (.aload_n 0, 1) := by decide +kernel
theorem dX7_best_18 : decode cX7_best 18 = .ok (.getfield 18, 3) := by decide +kernel
theorem dX7_best_21 : decode cX7_best 21 = .ok (.aload_n 0, 1) := by decide +kernel
theorem dX7_best_22 : decode cX7_best 22 = .ok (.getfield 18, 3) := by decide +kernel
theorem dX7_best_25 : decode cX7_best 25 = .ok (.getfield 164, 3) := by decide +kernel
theorem dX7_best_28 : decode cX7_best 28 = .ok (.iload_n 1, 1) := by decide +kernel
theorem dX7_best_29 : decode cX7_best 29 = .ok (.aaload, 1) := by decide +kernel
theorem dX7_best_30 : decode cX7_best 30 = .ok (.invokevirtual 208, 3) := by decide +kernel
theorem dX7_best_33 : decode cX7_best 33 = .ok (.ireturn, 1) := by decide +kernel
theorem dX7_lookouts_0 : decode cX7_lookouts 0 = .ok (.aload_n 0, 1) := by decide +kernel
theorem dX7_lookouts_1 : decode cX7_lookouts 1 = .ok (.getfield 18, 3) := by decide +kernel
theorem dX7_lookouts_4 : decode cX7_lookouts 4 = .ok (.iload_n 1, 1) := by decide +kernel
theorem dX7_lookouts_5 : decode cX7_lookouts 5 = .ok (.invokevirtual 107, 3) := by decide +kernel
theorem dX7_lookouts_8 : decode cX7_lookouts 8 = .ok (.ifCond .ne 9, 3) := by decide +kernel
theorem dX7_lookouts_11 : decode cX7_lookouts 11 = .ok (.aload_n 0, 1) := by decide +kernel
theorem dX7_lookouts_12 : decode cX7_lookouts 12 = .ok (.iconst (-1), 1) := by decide +kernel
theorem dX7_lookouts_13 : decode cX7_lookouts 13 = .ok (.invokevirtual 63, 3) := by decide +kernel
theorem dX7_lookouts_16 : decode cX7_lookouts 16 = .ok (.ireturn, 1) := by decide +kernel
theorem dX7_lookouts_17 : decode cX7_lookouts 17 = .ok (.aload_n 0, 1) := by decide +kernel
theorem dX7_lookouts_18 : decode cX7_lookouts 18 = .ok (.getfield 18, 3) := by decide +kernel
theorem dX7_lookouts_21 : decode cX7_lookouts 21 = .ok (.aload_n 0, 1) := by decide +kernel
theorem dX7_lookouts_22 : decode cX7_lookouts 22 = .ok (.getfield 18, 3) := by decide +kernel
theorem dX7_lookouts_25 : decode cX7_lookouts 25 = .ok (.getfield 124, 3) := by decide +kernel
theorem dX7_lookouts_28 : decode cX7_lookouts 28 = .ok (.iload_n 1, 1) := by decide +kernel
theorem dX7_lookouts_29 : decode cX7_lookouts 29 = .ok (.aaload, 1) := by decide +kernel
theorem dX7_lookouts_30 : decode cX7_lookouts 30 = .ok (.invokevirtual 212, 3) := by decide +kernel
theorem dX7_lookouts_33 : decode cX7_lookouts 33 = .ok (.ireturn, 1) := by decide +kernel
theorem dX7_rota_0 : decode cX7_rota 0 = .ok (.aload_n 0, 1) := by decide +kernel
theorem dX7_rota_1 : decode cX7_rota 1 = .ok (.getfield 18, 3) := by decide +kernel
theorem dX7_rota_4 : decode cX7_rota 4 = .ok (.iload_n 1, 1) := by decide +kernel
theorem dX7_rota_5 : decode cX7_rota 5 = .ok (.invokevirtual 161, 3) := by decide +kernel
theorem dX7_rota_8 : decode cX7_rota 8 = .ok (.ifCond .ne 9, 3) := by decide +kernel
theorem dX7_rota_11 : decode cX7_rota 11 = .ok (.aload_n 0, 1) := by decide +kernel
theorem dX7_rota_12 : decode cX7_rota 12 = .ok (.iconst (-1), 1) := by decide +kernel
theorem dX7_rota_13 : decode cX7_rota 13 = .ok (.invokevirtual 198, 3) := by decide +kernel
theorem dX7_rota_16 : decode cX7_rota 16 = .ok (.ireturn, 1) := by decide +kernel
theorem dX7_rota_17 : decode cX7_rota 17 = .ok (.iload_n 2, 1) := by decide +kernel
theorem dX7_rota_18 : decode cX7_rota 18 = .ok (.iconst (-1), 1) := by decide +kernel
theorem dX7_rota_19 : decode cX7_rota 19 = .ok (.if_icmp .eq 21, 3) := by decide +kernel
theorem dX7_rota_22 : decode cX7_rota 22 = .ok (.aload_n 0, 1) := by decide +kernel
theorem dX7_rota_23 : decode cX7_rota 23 = .ok (.getfield 18, 3) := by decide +kernel
theorem dX7_rota_26 : decode cX7_rota 26 = .ok (.iload_n 2, 1) := by decide +kernel
theorem dX7_rota_27 : decode cX7_rota 27 = .ok (.invokevirtual 107, 3) := by decide +kernel
theorem dX7_rota_30 : decode cX7_rota 30 = .ok (.ifCond .ne 10, 3) := by decide +kernel
theorem dX7_rota_33 : decode cX7_rota 33 = .ok (.aload_n 0, 1) := by decide +kernel
theorem dX7_rota_34 : decode cX7_rota 34 = .ok (.bipush (-5), 2) := by decide +kernel
theorem dX7_rota_36 : decode cX7_rota 36 = .ok (.invokevirtual 198, 3) := by decide +kernel
theorem dX7_rota_39 : decode cX7_rota 39 = .ok (.ireturn, 1) := by decide +kernel
theorem dX7_rota_40 : decode cX7_rota 40 = .ok (.aload_n 0, 1) := by decide +kernel
theorem dX7_rota_41 : decode cX7_rota 41 = .ok (.getfield 35, 3) := by decide +kernel
theorem dX7_rota_44 : decode cX7_rota 44 = .ok (.aload_n 0, 1) := by decide +kernel
theorem dX7_rota_45 : decode cX7_rota 45 = .ok (.getfield 18, 3) := by decide +kernel
theorem dX7_rota_48 : decode cX7_rota 48 = .ok (.aload_n 0, 1) := by decide +kernel
theorem dX7_rota_49 : decode cX7_rota 49 = .ok (.getfield 18, 3) := by decide +kernel
theorem dX7_rota_52 : decode cX7_rota 52 = .ok (.getfield 164, 3) := by decide +kernel
theorem dX7_rota_55 : decode cX7_rota 55 = .ok (.iload_n 1, 1) := by decide +kernel
theorem dX7_rota_56 : decode cX7_rota 56 = .ok (.aaload, 1) := by decide +kernel
theorem dX7_rota_57 : decode cX7_rota 57 = .ok (.invokevirtual 216, 3) := by decide +kernel
theorem dX7_rota_60 : decode cX7_rota 60 = .ok (.invokevirtual 220, 3) := by decide +kernel
theorem dX7_rota_63 : decode cX7_rota 63 = .ok (.iload_n 2, 1) := by decide +kernel
theorem dX7_rota_64 : decode cX7_rota 64 = .ok (.iconst (-1), 1) := by decide +kernel
theorem dX7_rota_65 : decode cX7_rota 65 = .ok (.if_icmp .ne 13, 3) := by decide +kernel
theorem dX7_rota_68 : decode cX7_rota 68 = .ok (.aload_n 0, 1) := by decide +kernel
theorem dX7_rota_69 : decode cX7_rota 69 = .ok (.getfield 35, 3) := by decide +kernel
theorem dX7_rota_72 : decode cX7_rota 72 = .ok (.invokevirtual 224, 3) := by decide +kernel
theorem dX7_rota_75 : decode cX7_rota 75 = .ok (.goto 15, 3) := by decide +kernel
theorem dX7_rota_78 : decode cX7_rota 78 = .ok (.aload_n 0, 1) := by decide +kernel
theorem dX7_rota_79 : decode cX7_rota 79 = .ok (.getfield 35, 3) := by decide +kernel
theorem dX7_rota_82 : decode cX7_rota 82 = .ok (.aload_n 0, 1) := by decide +kernel
theorem dX7_rota_83 : decode cX7_rota 83 = .ok (.getfield 18, 3) := by decide +kernel
theorem dX7_rota_86 : decode cX7_rota 86 = .ok (.iload_n 2, 1) := by decide +kernel
theorem dX7_rota_87 : decode cX7_rota 87 = .ok (.invokevirtual 227, 3) := by decide +kernel
theorem dX7_rota_90 : decode cX7_rota 90 = .ok (.ireturn, 1) := by decide +kernel
theorem dX7_posts_0 : decode cX7_posts 0 = .ok (.iload_n 1, 1) := by decide +kernel
theorem dX7_posts_1 : decode cX7_posts 1 = .ok (.iconst 0, 1) := by decide +kernel
theorem dX7_posts_2 : decode cX7_posts 2 = .ok (.iconst 1, 1) := by decide +kernel
theorem dX7_posts_3 : decode cX7_posts 3 = .ok (.invokestatic 67, 3) := by decide +kernel
theorem dX7_posts_6 : decode cX7_posts 6 = .ok (.ifCond .ne 10, 3) := by decide +kernel
theorem dX7_posts_9 : decode cX7_posts 9 = .ok (.aload_n 0, 1) := by decide +kernel
theorem dX7_posts_10 : decode cX7_posts 10 = .ok (.bipush (-5), 2) := by decide +kernel
theorem dX7_posts_12 : decode cX7_posts 12 = .ok (.invokevirtual 198, 3) := by decide +kernel
theorem dX7_posts_15 : decode cX7_posts 15 = .ok (.ireturn, 1) := by decide +kernel
theorem dX7_posts_16 : decode cX7_posts 16 = .ok (.aload_n 0, 1) := by decide +kernel
theorem dX7_posts_17 : decode cX7_posts 17 = .ok (.getfield 18, 3) := by decide +kernel
theorem dX7_posts_20 : decode cX7_posts 20 = .ok (.invokevirtual 231, 3) := by decide +kernel
theorem dX7_posts_23 : decode cX7_posts 23 = .ok (.istore_n 2, 1) := by decide +kernel
theorem dX7_posts_24 : decode cX7_posts 24 = .ok (.iload_n 1, 1) := by decide +kernel
theorem dX7_posts_25 : decode cX7_posts 25 = .ok (.ifCond .ne 15, 3) := by decide +kernel
theorem dX7_posts_28 : decode cX7_posts 28 = .ok (.iload_n 2, 1) := by decide +kernel
theorem dX7_posts_29 : decode cX7_posts 29 = .ok (.iconst (-1), 1) := by decide +kernel
theorem dX7_posts_30 : decode cX7_posts 30 = .ok (.if_icmp .eq 10, 3) := by decide +kernel
theorem dX7_posts_33 : decode cX7_posts 33 = .ok (.iload_n 2, 1) := by decide +kernel
theorem dX7_posts_34 : decode cX7_posts 34 = .ok (.invokestatic 234, 3) := by decide +kernel
theorem dX7_posts_37 : decode cX7_posts 37 = .ok (.goto 4, 3) := by decide +kernel
theorem dX7_posts_40 : decode cX7_posts 40 = .ok (.iload_n 2, 1) := by decide +kernel
theorem dX7_posts_41 : decode cX7_posts 41 = .ok (.ireturn, 1) := by decide +kernel
theorem dX7_seen_0 : decode cX7_seen 0 = .ok (.aload_n 0, 1) := by decide +kernel
theorem dX7_seen_1 : decode cX7_seen 1 = .ok (.getfield 18, 3) := by decide +kernel
theorem dX7_seen_4 : decode cX7_seen 4 = .ok (.iload_n 1, 1) := by decide +kernel
theorem dX7_seen_5 : decode cX7_seen 5 = .ok (.invokevirtual 107, 3) := by decide +kernel
theorem dX7_seen_8 : decode cX7_seen 8 = .ok (.ifCond .ne 9, 3) := by decide +kernel
theorem dX7_seen_11 : decode cX7_seen 11 = .ok (.aload_n 0, 1) := by decide +kernel
theorem dX7_seen_12 : decode cX7_seen 12 = .ok (.iconst (-1), 1) := by decide +kernel
theorem dX7_seen_13 : decode cX7_seen 13 = .ok (.invokevirtual 63, 3) := by decide +kernel
theorem dX7_seen_16 : decode cX7_seen 16 = .ok (.ireturn, 1) := by decide +kernel
theorem dX7_seen_17 : decode cX7_seen 17 = .ok (.iload_n 2, 1) := by decide +kernel
theorem dX7_seen_18 : decode cX7_seen 18 = .ok (.iconst 0, 1) := by decide +kernel
theorem dX7_seen_19 : decode cX7_seen 19 = .ok (.iconst 1, 1) := by decide +kernel
theorem dX7_seen_20 : decode cX7_seen 20 = .ok (.invokestatic 67, 3) := by decide +kernel
theorem dX7_seen_23 : decode cX7_seen 23 = .ok (.ifCond .ne 10, 3) := by decide +kernel
theorem dX7_seen_26 : decode cX7_seen 26 = .ok (.aload_n 0, 1) := by decide +kernel
theorem dX7_seen_27 : decode cX7_seen 27 = .ok (.bipush (-5), 2) := by decide +kernel
theorem dX7_seen_29 : decode cX7_seen 29 = .ok (.invokevirtual 63, 3) := by decide +kernel
theorem dX7_seen_32 : decode cX7_seen 32 = .ok (.ireturn, 1) := by decide +kernel
theorem dX7_seen_33 : decode cX7_seen 33 = .ok (.aload_n 0, 1) := by decide +kernel
theorem dX7_seen_34 : decode cX7_seen 34 = .ok (.getfield 18, 3) := by decide +kernel
theorem dX7_seen_37 : decode cX7_seen 37 = .ok (.getfield 124, 3) := by decide +kernel
theorem dX7_seen_40 : decode cX7_seen 40 = .ok (.iload_n 1, 1) := by decide +kernel
theorem dX7_seen_41 : decode cX7_seen 41 = .ok (.aaload, 1) := by decide +kernel
theorem dX7_seen_42 : decode cX7_seen 42 = .ok (.astore_n 3, 1) := by decide +kernel
theorem dX7_seen_43 : decode cX7_seen 43 = .ok (.iload_n 2, 1) := by decide +kernel
theorem dX7_seen_44 : decode cX7_seen 44 = .ok (.ifCond .ne 18, 3) := by decide +kernel
theorem dX7_seen_47 : decode cX7_seen 47 = .ok (.aload_n 0, 1) := by decide +kernel
theorem dX7_seen_48 : decode cX7_seen 48 = .ok (.getfield 18, 3) := by decide +kernel
theorem dX7_seen_51 : decode cX7_seen 51 = .ok (.aload_n 3, 1) := by decide +kernel
theorem dX7_seen_52 : decode cX7_seen 52 = .ok (.aload_n 3, 1) := by decide +kernel
theorem dX7_seen_53 : decode cX7_seen 53 = .ok (.getfield 156, 3) := by decide +kernel
theorem dX7_seen_56 : decode cX7_seen 56 = .ok (.invokevirtual 239, 3) := by decide +kernel
theorem dX7_seen_59 : decode cX7_seen 59 = .ok (.goto 11, 3) := by decide +kernel
theorem dX7_seen_62 : decode cX7_seen 62 = .ok (.aload_n 0, 1) := by decide +kernel
theorem dX7_seen_63 : decode cX7_seen 63 = .ok (.getfield 18, 3) := by decide +kernel
theorem dX7_seen_66 : decode cX7_seen 66 = .ok (.aload_n 3, 1) := by decide +kernel
theorem dX7_seen_67 : decode cX7_seen 67 = .ok (.invokevirtual 243, 3) := by decide +kernel
theorem dX7_seen_70 : decode cX7_seen 70 = .ok (.ireturn, 1) := by decide +kernel
theorem dX7_met_0 : decode cX7_met 0 = .ok (.aload_n 0, 1) := by decide +kernel
theorem dX7_met_1 : decode cX7_met 1 = .ok (.getfield 18, 3) := by decide +kernel
theorem dX7_met_4 : decode cX7_met 4 = .ok (.iload_n 1, 1) := by decide +kernel
theorem dX7_met_5 : decode cX7_met 5 = .ok (.invokevirtual 161, 3) := by decide +kernel
theorem dX7_met_8 : decode cX7_met 8 = .ok (.ifCond .ne 9, 3) := by decide +kernel
theorem dX7_met_11 : decode cX7_met 11 = .ok (.aload_n 0, 1) := by decide +kernel
theorem dX7_met_12 : decode cX7_met 12 = .ok (.iconst (-1), 1) := by decide +kernel
theorem dX7_met_13 : decode cX7_met 13 = .ok (.invokevirtual 63, 3) := by decide +kernel
theorem dX7_met_16 : decode cX7_met 16 = .ok (.ireturn, 1) := by decide +kernel
theorem dX7_met_17 : decode cX7_met 17 = .ok (.iload_n 2, 1) := by decide +kernel
theorem dX7_met_18 : decode cX7_met 18 = .ok (.iconst 0, 1) := by decide +kernel
theorem dX7_met_19 : decode cX7_met 19 = .ok (.iconst 1, 1) := by decide +kernel
theorem dX7_met_20 : decode cX7_met 20 = .ok (.invokestatic 67, 3) := by decide +kernel
theorem dX7_met_23 : decode cX7_met 23 = .ok (.ifCond .ne 10, 3) := by decide +kernel
theorem dX7_met_26 : decode cX7_met 26 = .ok (.aload_n 0, 1) := by decide +kernel
theorem dX7_met_27 : decode cX7_met 27 = .ok (.bipush (-5), 2) := by decide +kernel
theorem dX7_met_29 : decode cX7_met 29 = .ok (.invokevirtual 63, 3) := by decide +kernel
theorem dX7_met_32 : decode cX7_met 32 = .ok (.ireturn, 1) := by decide +kernel
theorem dX7_met_33 : decode cX7_met 33 = .ok (.aload_n 0, 1) := by decide +kernel
theorem dX7_met_34 : decode cX7_met 34 = .ok (.getfield 18, 3) := by decide +kernel
theorem dX7_met_37 : decode cX7_met 37 = .ok (.getfield 164, 3) := by decide +kernel
theorem dX7_met_40 : decode cX7_met 40 = .ok (.iload_n 1, 1) := by decide +kernel
theorem dX7_met_41 : decode cX7_met 41 = .ok (.aaload, 1) := by decide +kernel
theorem dX7_met_42 : decode cX7_met 42 = .ok (.iload_n 2, 1) := by decide +kernel
theorem dX7_met_43 : decode cX7_met 43 = .ok (.iconst 1, 1) := by decide +kernel
theorem dX7_met_44 : decode cX7_met 44 = .ok (.if_icmp .ne 7, 3) := by decide +kernel
theorem dX7_met_47 : decode cX7_met 47 = .ok (.iconst 1, 1) := by decide +kernel
theorem dX7_met_48 : decode cX7_met 48 = .ok (.goto 4, 3) := by decide +kernel
theorem dX7_met_51 : decode cX7_met 51 = .ok (.iconst 0, 1) := by decide +kernel
theorem dX7_met_52 : decode cX7_met 52 = .ok (.invokevirtual 246, 3) := by decide +kernel
theorem dX7_met_55 : decode cX7_met 55 = .ok (.ifCond .eq 7, 3) := by decide +kernel
theorem dX7_met_58 : decode cX7_met 58 = .ok (.iconst 1, 1) := by decide +kernel
theorem dX7_met_59 : decode cX7_met 59 = .ok (.goto 4, 3) := by decide +kernel
theorem dX7_met_62 : decode cX7_met 62 = .ok (.iconst 0, 1) := by decide +kernel
theorem dX7_met_63 : decode cX7_met 63 = .ok (.ireturn, 1) := by decide +kernel
theorem dX7_runners_0 : decode cX7_runners 0 = .ok (.iload_n 2, 1) := by decide +kernel
theorem dX7_runners_1 : decode cX7_runners 1 = .ok (.iconst 0, 1) := by decide +kernel
theorem dX7_runners_2 : decode cX7_runners 2 = .ok (.iconst 1, 1) := by decide +kernel
theorem dX7_runners_3 : decode cX7_runners 3 = .ok (.invokestatic 67, 3) := by decide +kernel
theorem dX7_runners_6 : decode cX7_runners 6 = .ok (.ifCond .ne 10, 3) := by decide +kernel
theorem dX7_runners_9 : decode cX7_runners 9 = .ok (.aload_n 0, 1) := by decide +kernel
theorem dX7_runners_10 : decode cX7_runners 10 = .ok (.bipush (-5), 2) := by decide +kernel
theorem dX7_runners_12 : decode cX7_runners 12 = .ok (.invokevirtual 63, 3) := by decide +kernel
theorem dX7_runners_15 : decode cX7_runners 15 = .ok (.ireturn, 1) := by decide +kernel
theorem dX7_runners_16 : decode cX7_runners 16 = .ok (.iload_n 1, 1) := by decide +kernel
theorem dX7_runners_17 : decode cX7_runners 17 = .ok (.iconst 0, 1) := by decide +kernel
theorem dX7_runners_18 : decode cX7_runners 18 = .ok (.bipush 8, 2) := by decide +kernel
theorem dX7_runners_20 : decode cX7_runners 20 = .ok (.invokestatic 67, 3) := by decide +kernel
theorem dX7_runners_23 : decode cX7_runners 23 = .ok (.ifCond .ne 10, 3) := by decide +kernel
theorem dX7_runners_26 : decode cX7_runners 26 = .ok (.aload_n 0, 1) := by decide +kernel
theorem dX7_runners_27 : decode cX7_runners 27 = .ok (.bipush (-6), 2) := by decide +kernel
theorem dX7_runners_29 : decode cX7_runners 29 = .ok (.invokevirtual 63, 3) := by decide +kernel
theorem dX7_runners_32 : decode cX7_runners 32 = .ok (.ireturn, 1) := by decide +kernel
theorem dX7_runners_33 : decode cX7_runners 33 = .ok (.aload_n 0, 1) := by decide +kernel
theorem dX7_runners_34 : decode cX7_runners 34 = .ok (.getfield 18, 3) := by decide +kernel
theorem dX7_runners_37 : decode cX7_runners 37 = .ok (.iload_n 1, 1) := by decide +kernel
theorem dX7_runners_38 : decode cX7_runners 38 = .ok (.invokevirtual 250, 3) := by decide +kernel
theorem dX7_runners_41 : decode cX7_runners 41 = .ok (.istore_n 3, 1) := by decide +kernel
theorem dX7_runners_42 : decode cX7_runners 42 = .ok (.iload_n 2, 1) := by decide +kernel
theorem dX7_runners_43 : decode cX7_runners 43 = .ok (.ifCond .ne 14, 3) := by decide +kernel
theorem dX7_runners_46 : decode cX7_runners 46 = .ok (.aload_n 0, 1) := by decide +kernel
theorem dX7_runners_47 : decode cX7_runners 47 = .ok (.getfield 18, 3) := by decide +kernel
theorem dX7_runners_50 : decode cX7_runners 50 = .ok (.iload_n 3, 1) := by decide +kernel
theorem dX7_runners_51 : decode cX7_runners 51 = .ok (.invokevirtual 253, 3) := by decide +kernel
theorem dX7_runners_54 : decode cX7_runners 54 = .ok (.goto 4, 3) := by decide +kernel
theorem dX7_runners_57 : decode cX7_runners 57 = .ok (.iload_n 3, 1) := by decide +kernel
theorem dX7_runners_58 : decode cX7_runners 58 = .ok (.ireturn, 1) := by decide +kernel
theorem dX7_left_0 : decode cX7_left 0 = .ok (.aload_n 0, 1) := by decide +kernel
theorem dX7_left_1 : decode cX7_left 1 = .ok (.iload_n 1, 1) := by decide +kernel
theorem dX7_left_2 : decode cX7_left 2 = .ok (.iload_n 2, 1) := by decide +kernel
theorem dX7_left_3 : decode cX7_left 3 = .ok (.bipush 40, 2) := by decide +kernel
theorem dX7_left_5 : decode cX7_left 5 = .ok (.iconst 1, 1) := by decide +kernel
theorem dX7_left_6 : decode cX7_left 6 = .ok (.invokevirtual 256, 3) := by decide +kernel
theorem dX7_left_9 : decode cX7_left 9 = .ok (.istore_n 3, 1) := by decide +kernel
theorem dX7_left_10 : decode cX7_left 10 = .ok (.iload_n 3, 1) := by decide +kernel
theorem dX7_left_11 : decode cX7_left 11 = .ok (.ifCond .eq 9, 3) := by decide +kernel
theorem dX7_left_14 : decode cX7_left 14 = .ok (.aload_n 0, 1) := by decide +kernel
theorem dX7_left_15 : decode cX7_left 15 = .ok (.iload_n 3, 1) := by decide +kernel
theorem dX7_left_16 : decode cX7_left 16 = .ok (.invokevirtual 63, 3) := by decide +kernel
theorem dX7_left_19 : decode cX7_left 19 = .ok (.ireturn, 1) := by decide +kernel
theorem dX7_left_20 : decode cX7_left 20 = .ok (.aload_n 0, 1) := by decide +kernel
theorem dX7_left_21 : decode cX7_left 21 = .ok (.getfield 11, 3) := by decide +kernel
theorem dX7_left_24 : decode cX7_left 24 = .ok (.iload_n 1, 1) := by decide +kernel
theorem dX7_left_25 : decode cX7_left 25 = .ok (.aaload, 1) := by decide +kernel
theorem dX7_left_26 : decode cX7_left 26 = .ok (.astore 4, 2) := by decide +kernel
theorem dX7_left_28 : decode cX7_left 28 = .ok (.iconst 1, 1) := by decide +kernel
theorem dX7_left_29 : decode cX7_left 29 = .ok (.aload_n 0, 1) := by decide +kernel
theorem dX7_left_30 : decode cX7_left 30 = .ok (.getfield 18, 3) := by decide +kernel
theorem dX7_left_33 : decode cX7_left 33 = .ok (.getfield 260, 3) := by decide +kernel
theorem dX7_left_36 : decode cX7_left 36 = .ok (.ishl, 1) := by decide +kernel
theorem dX7_left_37 : decode cX7_left 37 = .ok (.iconst 1, 1) := by decide +kernel
theorem dX7_left_38 : decode cX7_left 38 = .ok (.isub, 1) := by decide +kernel
theorem dX7_left_39 : decode cX7_left 39 = .ok (.istore 5, 2) := by decide +kernel
theorem dX7_left_41 : decode cX7_left 41 = .ok (.iconst 0, 1) := by decide +kernel
theorem dX7_left_42 : decode cX7_left 42 = .ok (.istore 6, 2) := by decide +kernel
theorem dX7_left_44 : decode cX7_left 44 = .ok (.iload 6, 2) := by decide +kernel
theorem dX7_left_46 : decode cX7_left 46 = .ok (.iload_n 2, 1) := by decide +kernel
theorem dX7_left_47 : decode cX7_left 47 = .ok (.if_icmp .ge 47, 3) := by decide +kernel
theorem dX7_left_50 : decode cX7_left 50 = .ok (.aload 4, 2) := by decide +kernel
theorem dX7_left_52 : decode cX7_left 52 = .ok (.iload 6, 2) := by decide +kernel
theorem dX7_left_54 : decode cX7_left 54 = .ok (.invokevirtual 263, 3) := by decide +kernel
theorem dX7_left_57 : decode cX7_left 57 = .ok (.istore 7, 2) := by decide +kernel
theorem dX7_left_59 : decode cX7_left 59 = .ok (.iload 7, 2) := by decide +kernel
theorem dX7_left_61 : decode cX7_left 61 = .ok (.invokestatic 192, 3) := by decide +kernel
theorem dX7_left_64 : decode cX7_left 64 = .ok (.ifCond .ne 10, 3) := by decide +kernel
theorem dX7_left_67 : decode cX7_left 67 = .ok (.aload_n 0, 1) := by decide +kernel
theorem dX7_left_68 : decode cX7_left 68 = .ok (.bipush (-6), 2) := by decide +kernel
theorem dX7_left_70 : decode cX7_left 70 = .ok (.invokevirtual 63, 3) := by decide +kernel
theorem dX7_left_73 : decode cX7_left 73 = .ok (.ireturn, 1) := by decide +kernel
theorem dX7_left_74 : decode cX7_left 74 = .ok (.iload 5, 2) := by decide +kernel
theorem dX7_left_76 : decode cX7_left 76 = .ok (.aload_n 0, 1) := by decide +kernel
theorem dX7_left_77 : decode cX7_left 77 = .ok (.getfield 18, 3) := by decide +kernel
theorem dX7_left_80 : decode cX7_left 80 = .ok (.iload 7, 2) := by decide +kernel
theorem dX7_left_82 : decode cX7_left 82 = .ok (.invokevirtual 266, 3) := by decide +kernel
theorem dX7_left_85 : decode cX7_left 85 = .ok (.iand, 1) := by decide +kernel
theorem dX7_left_86 : decode cX7_left 86 = .ok (.istore 5, 2) := by decide +kernel
theorem dX7_left_88 : decode cX7_left 88 = .ok (.iinc 6 1, 3) := by decide +kernel
theorem dX7_left_91 : decode cX7_left 91 = .ok (.goto (-47), 3) := by decide +kernel
theorem dX7_left_94 : decode cX7_left 94 = .ok (.iload 5, 2) := by decide +kernel
theorem dX7_left_96 : decode cX7_left 96 = .ok (.ireturn, 1) := by decide +kernel
theorem dX7_await_0 : decode cX7_await 0 = .ok (.iload_n 1, 1) := by decide +kernel
theorem dX7_await_1 : decode cX7_await 1 = .ok (.iconst (-1), 1) := by decide +kernel
theorem dX7_await_2 : decode cX7_await 2 = .ok (.if_icmp .ne 11, 3) := by decide +kernel
theorem dX7_await_5 : decode cX7_await 5 = .ok (.aload_n 0, 1) := by decide +kernel
theorem dX7_await_6 : decode cX7_await 6 = .ok (.getfield 18, 3) := by decide +kernel
theorem dX7_await_9 : decode cX7_await 9 = .ok (.invokevirtual 269, 3) := by decide +kernel
theorem dX7_await_12 : decode cX7_await 12 = .ok (.ireturn, 1) := by decide +kernel
theorem dX7_await_13 : decode cX7_await 13 = .ok (.iload_n 1, 1) := by decide +kernel
theorem dX7_await_14 : decode cX7_await 14 = .ok (.invokestatic 192, 3) := by decide +kernel
theorem dX7_await_17 : decode cX7_await 17 = .ok (.ifCond .ne 10, 3) := by decide +kernel
theorem dX7_await_20 : decode cX7_await 20 = .ok (.aload_n 0, 1) := by decide +kernel
theorem dX7_await_21 : decode cX7_await 21 = .ok (.bipush (-6), 2) := by decide +kernel
theorem dX7_await_23 : decode cX7_await 23 = .ok (.invokevirtual 63, 3) := by decide +kernel
theorem dX7_await_26 : decode cX7_await 26 = .ok (.ireturn, 1) := by decide +kernel
theorem dX7_await_27 : decode cX7_await 27 = .ok (.aload_n 0, 1) := by decide +kernel
theorem dX7_await_28 : decode cX7_await 28 = .ok (.getfield 18, 3) := by decide +kernel
theorem dX7_await_31 : decode cX7_await 31 = .ok (.iload_n 1, 1) := by decide +kernel
theorem dX7_await_32 : decode cX7_await 32 = .ok (.invokevirtual 266, 3) := by decide +kernel
theorem dX7_await_35 : decode cX7_await 35 = .ok (.invokestatic 234, 3) := by decide +kernel
theorem dX7_await_38 : decode cX7_await 38 = .ok (.ireturn, 1) := by decide +kernel
theorem dX7_judge_0 : decode cX7_judge 0 = .ok (.aload_n 0, 1) := by decide +kernel
theorem dX7_judge_1 : decode cX7_judge 1 = .ok (.iload_n 1, 1) := by decide +kernel
theorem dX7_judge_2 : decode cX7_judge 2 = .ok (.iload_n 2, 1) := by decide +kernel
theorem dX7_judge_3 : decode cX7_judge 3 = .ok (.bipush 8, 2) := by decide +kernel
theorem dX7_judge_5 : decode cX7_judge 5 = .ok (.iconst 1, 1) := by decide +kernel
theorem dX7_judge_6 : decode cX7_judge 6 = .ok (.invokevirtual 256, 3) := by decide +kernel
theorem dX7_judge_9 : decode cX7_judge 9 = .ok (.istore_n 3, 1) := by decide +kernel
theorem dX7_judge_10 : decode cX7_judge 10 = .ok (.iload_n 3, 1) := by decide +kernel
theorem dX7_judge_11 : decode cX7_judge 11 = .ok (.ifCond .eq 9, 3) := by decide +kernel
theorem dX7_judge_14 : decode cX7_judge 14 = .ok (.aload_n 0, 1) := by decide +kernel
theorem dX7_judge_15 : decode cX7_judge 15 = .ok (.iload_n 3, 1) := by decide +kernel
theorem dX7_judge_16 : decode cX7_judge 16 = .ok (.invokevirtual 198, 3) := by decide +kernel
theorem dX7_judge_19 : decode cX7_judge 19 = .ok (.ireturn, 1) := by decide +kernel
theorem dX7_judge_20 : decode cX7_judge 20 = .ok (.aload_n 0, 1) := by decide +kernel
theorem dX7_judge_21 : decode cX7_judge 21 = .ok (.aload_n 0, 1) := by decide +kernel
theorem dX7_judge_22 : decode cX7_judge 22 = .ok (.getfield 11, 3) := by decide +kernel
theorem dX7_judge_25 : decode cX7_judge 25 = .ok (.iload_n 1, 1) := by decide +kernel
theorem dX7_judge_26 : decode cX7_judge 26 = .ok (.aaload, 1) := by decide +kernel
theorem dX7_judge_27 : decode cX7_judge 27 = .ok (.iload_n 2, 1) := by decide +kernel
theorem dX7_judge_28 : decode cX7_judge 28 = .ok (.invokevirtual 272, 3) := by decide +kernel
theorem dX7_judge_31 : decode cX7_judge 31 = .ok (.ireturn, 1) := by decide +kernel
theorem dX7_behind_0 : decode cX7_behind 0 = .ok (.aload_n 0, 1) := by decide +kernel
theorem dX7_behind_1 : decode cX7_behind 1 = .ok (.iload_n 1, 1) := by decide +kernel
theorem dX7_behind_2 : decode cX7_behind 2 = .ok (.iload_n 2, 1) := by decide +kernel
theorem dX7_behind_3 : decode cX7_behind 3 = .ok (.iload_n 3, 1) := by decide +kernel
theorem dX7_behind_4 : decode cX7_behind 4 = .ok (.iconst 0, 1) := by decide +kernel
theorem dX7_behind_5 : decode cX7_behind 5 = .ok (.iconst 2, 1) := by decide +kernel
theorem dX7_behind_6 : decode cX7_behind 6 = .ok (.invokestatic 67, 3) := by decide +kernel
theorem dX7_behind_9 : decode cX7_behind 9 = .ok (.invokevirtual 276, 3) := by decide +kernel
theorem dX7_behind_12 : decode cX7_behind 12 = .ok (.istore 4, 2) := by decide +kernel
theorem dX7_behind_14 : decode cX7_behind 14 = .ok (.iload 4, 2) := by decide +kernel
theorem dX7_behind_16 : decode cX7_behind 16 = .ok (.ifCond .eq 10, 3) := by decide +kernel
theorem dX7_behind_19 : decode cX7_behind 19 = .ok (.aload_n 0, 1) := by decide +kernel
theorem dX7_behind_20 : decode cX7_behind 20 = .ok (.iload 4, 2) := by decide +kernel
theorem dX7_behind_22 : decode cX7_behind 22 = .ok (.invokevirtual 63, 3) := by decide +kernel
theorem dX7_behind_25 : decode cX7_behind 25 = .ok (.ireturn, 1) := by decide +kernel
theorem dX7_behind_26 : decode cX7_behind 26 = .ok (.iconst 0, 1) := by decide +kernel
theorem dX7_behind_27 : decode cX7_behind 27 = .ok (.istore 5, 2) := by decide +kernel
theorem dX7_behind_29 : decode cX7_behind 29 = .ok (.iconst 0, 1) := by decide +kernel
theorem dX7_behind_30 : decode cX7_behind 30 = .ok (.istore 6, 2) := by decide +kernel
theorem dX7_behind_32 : decode cX7_behind 32 = .ok (.iconst 0, 1) := by decide +kernel
theorem dX7_behind_33 : decode cX7_behind 33 = .ok (.istore 7, 2) := by decide +kernel
theorem dX7_behind_35 : decode cX7_behind 35 = .ok (.iconst 0, 1) := by decide +kernel
theorem dX7_behind_36 : decode cX7_behind 36 = .ok (.istore 8, 2) := by decide +kernel
theorem dX7_behind_38 : decode cX7_behind 38 = .ok (.iload 8, 2) := by decide +kernel
theorem dX7_behind_40 : decode cX7_behind 40 = .ok (.iload_n 2, 1) := by decide +kernel
theorem dX7_behind_41 : decode cX7_behind 41 = .ok (.if_icmp .ge 67, 3) := by decide +kernel
theorem dX7_behind_44 : decode cX7_behind 44 = .ok (.aload_n 0, 1) := by decide +kernel
theorem dX7_behind_45 : decode cX7_behind 45 = .ok (.getfield 11, 3) := by decide +kernel
theorem dX7_behind_48 : decode cX7_behind 48 = .ok (.iload_n 1, 1) := by decide +kernel
theorem dX7_behind_49 : decode cX7_behind 49 = .ok (.aaload, 1) := by decide +kernel
theorem dX7_behind_50 : decode cX7_behind 50 = .ok (.iload 8, 2) := by decide +kernel
theorem dX7_behind_52 : decode cX7_behind 52 = .ok (.invokevirtual 263, 3) := by decide +kernel
theorem dX7_behind_55 : decode cX7_behind 55 = .ok (.istore 9, 2) := by decide +kernel
theorem dX7_behind_57 : decode cX7_behind 57 = .ok (.iload 9, 2) := by decide +kernel
theorem dX7_behind_59 : decode cX7_behind 59 = .ok (.bipush 100, 2) := by decide +kernel
theorem dX7_behind_61 : decode cX7_behind 61 = .ok (.irem, 1) := by decide +kernel
theorem dX7_behind_62 : decode cX7_behind 62 = .ok (.bipush 99, 2) := by decide +kernel
theorem dX7_behind_64 : decode cX7_behind 64 = .ok (.if_icmp .ne 9, 3) := by decide +kernel
theorem dX7_behind_67 : decode cX7_behind 67 = .ok (.iinc 7 1, 3) := by decide +kernel
theorem dX7_behind_70 : decode cX7_behind 70 = .ok (.goto 32, 3) := by decide +kernel
theorem dX7_behind_73 : decode cX7_behind 73 = .ok (.aload_n 0, 1) := by decide +kernel
theorem dX7_behind_74 : decode cX7_behind 74 = .ok (.getfield 18, 3) := by decide +kernel
theorem dX7_behind_77 : decode cX7_behind 77 = .ok (.iload 9, 2) := by decide +kernel
theorem dX7_behind_79 : decode cX7_behind 79 = .ok (.invokevirtual 280, 3) := by decide +kernel
theorem dX7_behind_82 : decode cX7_behind 82 = .ok (.ifCond .eq 20, 3) := by decide +kernel
theorem dX7_behind_85 : decode cX7_behind 85 = .ok (.iinc 5 1, 3) := by decide +kernel
theorem dX7_behind_88 : decode cX7_behind 88 = .ok (.iload 6, 2) := by decide +kernel
theorem dX7_behind_90 : decode cX7_behind 90 = .ok (.aload_n 0, 1) := by decide +kernel
theorem dX7_behind_91 : decode cX7_behind 91 = .ok (.getfield 18, 3) := by decide +kernel
theorem dX7_behind_94 : decode cX7_behind 94 = .ok (.iload 9, 2) := by decide +kernel
theorem dX7_behind_96 : decode cX7_behind 96 = .ok (.invokevirtual 283, 3) := by decide +kernel
theorem dX7_behind_99 : decode cX7_behind 99 = .ok (.iadd, 1) := by decide +kernel
theorem dX7_behind_100 : decode cX7_behind 100 = .ok (.istore 6, 2) := by decide +kernel
theorem dX7_behind_102 : decode cX7_behind 102 = .ok (.iinc 8 1, 3) := by decide +kernel
theorem dX7_behind_105 : decode cX7_behind 105 = .ok (.goto (-67), 3) := by decide +kernel
theorem dX7_behind_108 : decode cX7_behind 108 = .ok (.iload_n 3, 1) := by decide +kernel
theorem dX7_behind_109 : decode cX7_behind 109 = .ok (.ifCond .ne 8, 3) := by decide +kernel
theorem dX7_behind_112 : decode cX7_behind 112 = .ok (.iload 5, 2) := by decide +kernel
theorem dX7_behind_114 : decode cX7_behind 114 = .ok (.goto 15, 3) := by decide +kernel
theorem dX7_behind_117 : decode cX7_behind 117 = .ok (.iload_n 3, 1) := by decide +kernel
theorem dX7_behind_118 : decode cX7_behind 118 = .ok (.iconst 1, 1) := by decide +kernel
theorem dX7_behind_119 : decode cX7_behind 119 = .ok (.if_icmp .ne 8, 3) := by decide +kernel
theorem dX7_behind_122 : decode cX7_behind 122 = .ok (.iload 6, 2) := by decide +kernel
theorem dX7_behind_124 : decode cX7_behind 124 = .ok (.goto 5, 3) := by decide +kernel
theorem dX7_behind_127 : decode cX7_behind 127 = .ok (.iload 7, 2) := by decide +kernel
theorem dX7_behind_129 : decode cX7_behind 129 = .ok (.ireturn, 1) := by decide +kernel
theorem dX7_done_0 : decode cX7_done 0 = .ok (.aload_n 0, 1) := by decide +kernel
theorem dX7_done_1 : decode cX7_done 1 = .ok (.iload_n 1, 1) := by decide +kernel
theorem dX7_done_2 : decode cX7_done 2 = .ok (.iload_n 2, 1) := by decide +kernel
theorem dX7_done_3 : decode cX7_done 3 = .ok (.iconst 1, 1) := by decide +kernel
theorem dX7_done_4 : decode cX7_done 4 = .ok (.invokevirtual 276, 3) := by decide +kernel
theorem dX7_done_7 : decode cX7_done 7 = .ok (.istore_n 3, 1) := by decide +kernel
theorem dX7_done_8 : decode cX7_done 8 = .ok (.iload_n 3, 1) := by decide +kernel
theorem dX7_done_9 : decode cX7_done 9 = .ok (.ifCond .eq 9, 3) := by decide +kernel
theorem dX7_done_12 : decode cX7_done 12 = .ok (.aload_n 0, 1) := by decide +kernel
theorem dX7_done_13 : decode cX7_done 13 = .ok (.iload_n 3, 1) := by decide +kernel
theorem dX7_done_14 : decode cX7_done 14 = .ok (.invokevirtual 63, 3) := by decide +kernel
theorem dX7_done_17 : decode cX7_done 17 = .ok (.ireturn, 1) := by decide +kernel
theorem dX7_done_18 : decode cX7_done 18 = .ok (.iconst 0, 1) := by decide +kernel
theorem dX7_done_19 : decode cX7_done 19 = .ok (.istore 4, 2) := by decide +kernel
theorem dX7_done_21 : decode cX7_done 21 = .ok (.iload 4, 2) := by decide +kernel
theorem dX7_done_23 : decode cX7_done 23 = .ok (.iload_n 2, 1) := by decide +kernel
theorem dX7_done_24 : decode cX7_done 24 = .ok (.if_icmp .ge 55, 3) := by decide +kernel
theorem dX7_done_27 : decode cX7_done 27 = .ok (.aload_n 0, 1) := by decide +kernel
theorem dX7_done_28 : decode cX7_done 28 = .ok (.getfield 11, 3) := by decide +kernel
theorem dX7_done_31 : decode cX7_done 31 = .ok (.iload_n 1, 1) := by decide +kernel
theorem dX7_done_32 : decode cX7_done 32 = .ok (.aaload, 1) := by decide +kernel
theorem dX7_done_33 : decode cX7_done 33 = .ok (.iload 4, 2) := by decide +kernel
theorem dX7_done_35 : decode cX7_done 35 = .ok (.invokevirtual 263, 3) := by decide +kernel
theorem dX7_done_38 : decode cX7_done 38 = .ok (.istore 5, 2) := by decide +kernel
theorem dX7_done_40 : decode cX7_done 40 = .ok (.aload_n 0, 1) := by decide +kernel
theorem dX7_done_41 : decode cX7_done 41 = .ok (.getfield 18, 3) := by decide +kernel
theorem dX7_done_44 : decode cX7_done 44 = .ok (.iload 5, 2) := by decide +kernel
theorem dX7_done_46 : decode cX7_done 46 = .ok (.invokevirtual 280, 3) := by decide +kernel
theorem dX7_done_49 : decode cX7_done 49 = .ok (.ifCond .eq 24, 3) := by decide +kernel
theorem dX7_done_52 : decode cX7_done 52 = .ok (.aload_n 0, 1) := by decide +kernel
theorem dX7_done_53 : decode cX7_done 53 = .ok (.getfield 18, 3) := by decide +kernel
theorem dX7_done_56 : decode cX7_done 56 = .ok (.dup, 1) := by decide +kernel
theorem dX7_done_57 : decode cX7_done 57 = .ok (.getfield 286, 3) := by decide +kernel
theorem dX7_done_60 : decode cX7_done 60 = .ok (.aload_n 0, 1) := by decide +kernel
theorem dX7_done_61 : decode cX7_done 61 = .ok (.getfield 18, 3) := by decide +kernel
theorem dX7_done_64 : decode cX7_done 64 = .ok (.iload 5, 2) := by decide +kernel
theorem dX7_done_66 : decode cX7_done 66 = .ok (.invokevirtual 283, 3) := by decide +kernel
theorem dX7_done_69 : decode cX7_done 69 = .ok (.iadd, 1) := by decide +kernel
theorem dX7_done_70 : decode cX7_done 70 = .ok (.putfield 286, 3) := by decide +kernel
theorem dX7_done_73 : decode cX7_done 73 = .ok (.iinc 4 1, 3) := by decide +kernel
theorem dX7_done_76 : decode cX7_done 76 = .ok (.goto (-55), 3) := by decide +kernel
theorem dX7_done_79 : decode cX7_done 79 = .ok (.aload_n 0, 1) := by decide +kernel
theorem dX7_done_80 : decode cX7_done 80 = .ok (.getfield 18, 3) := by decide +kernel
theorem dX7_done_83 : decode cX7_done 83 = .ok (.dup, 1) := by decide +kernel
theorem dX7_done_84 : decode cX7_done 84 = .ok (.getfield 289, 3) := by decide +kernel
theorem dX7_done_87 : decode cX7_done 87 = .ok (.iconst 1, 1) := by decide +kernel
theorem dX7_done_88 : decode cX7_done 88 = .ok (.iadd, 1) := by decide +kernel
theorem dX7_done_89 : decode cX7_done 89 = .ok (.putfield 289, 3) := by decide +kernel
theorem dX7_done_92 : decode cX7_done 92 = .ok (.aload_n 0, 1) := by decide +kernel
theorem dX7_done_93 : decode cX7_done 93 = .ok (.getfield 18, 3) := by decide +kernel
theorem dX7_done_96 : decode cX7_done 96 = .ok (.getfield 286, 3) := by decide +kernel
theorem dX7_done_99 : decode cX7_done 99 = .ok (.ireturn, 1) := by decide +kernel
theorem dX7_days_0 : decode cX7_days 0 = .ok (.iload_n 1, 1) := by decide +kernel
theorem dX7_days_1 : decode cX7_days 1 = .ok (.iconst 1, 1) := by decide +kernel
theorem dX7_days_2 : decode cX7_days 2 = .ok (.bipush 60, 2) := by decide +kernel
theorem dX7_days_4 : decode cX7_days 4 = .ok (.invokestatic 67, 3) := by decide +kernel
theorem dX7_days_7 : decode cX7_days 7 = .ok (.ifCond .ne 10, 3) := by decide +kernel
theorem dX7_days_10 : decode cX7_days 10 = .ok (.aload_n 0, 1) := by decide +kernel
theorem dX7_days_11 : decode cX7_days 11 = .ok (.bipush (-6), 2) := by decide +kernel
theorem dX7_days_13 : decode cX7_days 13 = .ok (.invokevirtual 63, 3) := by decide +kernel
theorem dX7_days_16 : decode cX7_days 16 = .ok (.ireturn, 1) := by decide +kernel
theorem dX7_days_17 : decode cX7_days 17 = .ok (.iconst 0, 1) := by decide +kernel
theorem dX7_days_18 : decode cX7_days 18 = .ok (.istore_n 2, 1) := by decide +kernel
theorem dX7_days_19 : decode cX7_days 19 = .ok (.iload_n 2, 1) := by decide +kernel
theorem dX7_days_20 : decode cX7_days 20 = .ok (.iload_n 1, 1) := by decide +kernel
theorem dX7_days_21 : decode cX7_days 21 = .ok (.if_icmp .ge 16, 3) := by decide +kernel
theorem dX7_days_24 : decode cX7_days 24 = .ok (.aload_n 0, 1) := by decide +kernel
theorem dX7_days_25 : decode cX7_days 25 = .ok (.getfield 18, 3) := by decide +kernel
theorem dX7_days_28 : decode cX7_days 28 = .ok (.invokevirtual 292, 3) := by decide +kernel
theorem dX7_days_31 : decode cX7_days 31 = .ok (.iinc 2 1, 3) := by decide +kernel
theorem dX7_days_34 : decode cX7_days 34 = .ok (.goto (-15), 3) := by decide +kernel
theorem dX7_days_37 : decode cX7_days 37 = .ok (.aload_n 0, 1) := by decide +kernel
theorem dX7_days_38 : decode cX7_days 38 = .ok (.getfield 18, 3) := by decide +kernel
theorem dX7_days_41 : decode cX7_days 41 = .ok (.getfield 286, 3) := by decide +kernel
theorem dX7_days_44 : decode cX7_days 44 = .ok (.ireturn, 1) := by decide +kernel
theorem dX7_seed_0 : decode cX7_seed 0 = .ok (.aload_n 0, 1) := by decide +kernel
theorem dX7_seed_1 : decode cX7_seed 1 = .ok (.getfield 18, 3) := by decide +kernel
theorem dX7_seed_4 : decode cX7_seed 4 = .ok (.getfield 295, 3) := by decide +kernel
theorem dX7_seed_7 : decode cX7_seed 7 = .ok (.istore_n 2, 1) := by decide +kernel
theorem dX7_seed_8 : decode cX7_seed 8 = .ok (.aload_n 0, 1) := by decide +kernel
theorem dX7_seed_9 : decode cX7_seed 9 = .ok (.getfield 18, 3) := by decide +kernel
theorem dX7_seed_12 : decode cX7_seed 12 = .ok (.iload_n 1, 1) := by decide +kernel
theorem dX7_seed_13 : decode cX7_seed 13 = .ok (.putfield 295, 3) := by decide +kernel
theorem dX7_seed_16 : decode cX7_seed 16 = .ok (.iload_n 2, 1) := by decide +kernel
theorem dX7_seed_17 : decode cX7_seed 17 = .ok (.ireturn, 1) := by decide +kernel
theorem dX7_act_0 : decode cX7_act 0 = .ok (.aload_n 0, 1) := by decide +kernel
theorem dX7_act_1 : decode cX7_act 1 = .ok (.getfield 42, 3) := by decide +kernel
theorem dX7_act_4 : decode cX7_act 4 = .ok (.invokevirtual 298, 3) := by decide +kernel
theorem dX7_act_7 : decode cX7_act 7 = .ok (.aload_n 0, 1) := by decide +kernel
theorem dX7_act_8 : decode cX7_act 8 = .ok (.getfield 18, 3) := by decide +kernel
theorem dX7_act_11 : decode cX7_act 11 = .ok (.iload_n 1, 1) := by decide +kernel
theorem dX7_act_12 : decode cX7_act 12 = .ok (.invokevirtual 107, 3) := by decide +kernel
theorem dX7_act_15 : decode cX7_act 15 = .ok (.ifCond .eq 12, 3) := by decide +kernel
theorem dX7_act_18 : decode cX7_act 18 = .ok (.iload_n 2, 1) := by decide +kernel
theorem dX7_act_19 : decode cX7_act 19 = .ok (.iconst 0, 1) := by decide +kernel
theorem dX7_act_20 : decode cX7_act 20 = .ok (.iconst 2, 1) := by decide +kernel
theorem dX7_act_21 : decode cX7_act 21 = .ok (.invokestatic 67, 3) := by decide +kernel
theorem dX7_act_24 : decode cX7_act 24 = .ok (.ifCond .ne 5, 3) := by decide +kernel
theorem dX7_act_27 : decode cX7_act 27 = .ok (.iconst 0, 1) := by decide +kernel
theorem dX7_act_28 : decode cX7_act 28 = .ok (.ireturn, 1) := by decide +kernel
theorem dX7_act_29 : decode cX7_act 29 = .ok (.aload_n 0, 1) := by decide +kernel
theorem dX7_act_30 : decode cX7_act 30 = .ok (.getfield 42, 3) := by decide +kernel
theorem dX7_act_33 : decode cX7_act 33 = .ok (.aload_n 0, 1) := by decide +kernel
theorem dX7_act_34 : decode cX7_act 34 = .ok (.getfield 18, 3) := by decide +kernel
theorem dX7_act_37 : decode cX7_act 37 = .ok (.getfield 124, 3) := by decide +kernel
theorem dX7_act_40 : decode cX7_act 40 = .ok (.iload_n 1, 1) := by decide +kernel
theorem dX7_act_41 : decode cX7_act 41 = .ok (.aaload, 1) := by decide +kernel
theorem dX7_act_42 : decode cX7_act 42 = .ok (.iload_n 2, 1) := by decide +kernel
theorem dX7_act_43 : decode cX7_act 43 = .ok (.iload_n 3, 1) := by decide +kernel
theorem dX7_act_44 : decode cX7_act 44 = .ok (.invokevirtual 301, 3) := by decide +kernel
theorem dX7_act_47 : decode cX7_act 47 = .ok (.ireturn, 1) := by decide +kernel
theorem dX7_trace_0 : decode cX7_trace 0 = .ok (.aload_n 0, 1) := by decide +kernel
theorem dX7_trace_1 : decode cX7_trace 1 = .ok (.getfield 42, 3) := by decide +kernel
theorem dX7_trace_4 : decode cX7_trace 4 = .ok (.iload_n 1, 1) := by decide +kernel
theorem dX7_trace_5 : decode cX7_trace 5 = .ok (.invokevirtual 305, 3) := by decide +kernel
theorem dX7_trace_8 : decode cX7_trace 8 = .ok (.ireturn, 1) := by decide +kernel
theorem dX7_image_0 : decode cX7_image 0 = .ok (.aload_n 0, 1) := by decide +kernel
theorem dX7_image_1 : decode cX7_image 1 = .ok (.getfield 22, 3) := by decide +kernel
theorem dX7_image_4 : decode cX7_image 4 = .ok (.aload_n 0, 1) := by decide +kernel
theorem dX7_image_5 : decode cX7_image 5 = .ok (.getfield 18, 3) := by decide +kernel
theorem dX7_image_8 : decode cX7_image 8 = .ok (.invokevirtual 185, 3) := by decide +kernel
theorem dX7_image_11 : decode cX7_image 11 = .ok (.aload_n 0, 1) := by decide +kernel
theorem dX7_image_12 : decode cX7_image 12 = .ok (.iconst 1, 1) := by decide +kernel
theorem dX7_image_13 : decode cX7_image 13 = .ok (.putfield 50, 3) := by decide +kernel
theorem dX7_image_16 : decode cX7_image 16 = .ok (.aload_n 0, 1) := by decide +kernel
theorem dX7_image_17 : decode cX7_image 17 = .ok (.getfield 18, 3) := by decide +kernel
theorem dX7_image_20 : decode cX7_image 20 = .ok (.getfield 306, 3) := by decide +kernel
theorem dX7_image_23 : decode cX7_image 23 = .ok (.ireturn, 1) := by decide +kernel
theorem dX7_restore_0 : decode cX7_restore 0 = .ok (.aload_n 0, 1) := by decide +kernel
theorem dX7_restore_1 : decode cX7_restore 1 = .ok (.getfield 50, 3) := by decide +kernel
theorem dX7_restore_4 : decode cX7_restore 4 = .ok (.ifCond .ne 10, 3) := by decide +kernel
theorem dX7_restore_7 : decode cX7_restore 7 = .ok (.aload_n 0, 1) := by decide +kernel
theorem dX7_restore_8 : decode cX7_restore 8 = .ok (.bipush (-6), 2) := by decide +kernel
theorem dX7_restore_10 : decode cX7_restore 10 = .ok (.invokevirtual 63, 3) := by decide +kernel
theorem dX7_restore_13 : decode cX7_restore 13 = .ok (.ireturn, 1) := by decide +kernel
theorem dX7_restore_14 : decode cX7_restore 14 = .ok (.aload_n 0, 1) := by decide +kernel
theorem dX7_restore_15 : decode cX7_restore 15 = .ok (.getfield 18, 3) := by decide +kernel
theorem dX7_restore_18 : decode cX7_restore 18 = .ok (.aload_n 0, 1) := by decide +kernel
theorem dX7_restore_19 : decode cX7_restore 19 = .ok (.getfield 22, 3) := by decide +kernel
theorem dX7_restore_22 : decode cX7_restore 22 = .ok (.invokevirtual 185, 3) := by decide +kernel
theorem dX7_restore_25 : decode cX7_restore 25 = .ok (.iconst 0, 1) := by decide +kernel
theorem dX7_restore_26 : decode cX7_restore 26 = .ok (.istore_n 1, 1) := by decide +kernel
theorem dX7_restore_27 : decode cX7_restore 27 = .ok (.iload_n 1, 1) := by decide +kernel
theorem dX7_restore_28 : decode cX7_restore 28 = .ok (.bipush 8, 2) := by decide +kernel
theorem dX7_restore_30 : decode cX7_restore 30 = .ok (.if_icmp .ge 42, 3) := by decide +kernel
theorem dX7_restore_33 : decode cX7_restore 33 = .ok (.aload_n 0, 1) := by decide +kernel
theorem dX7_restore_34 : decode cX7_restore 34 = .ok (.getfield 11, 3) := by decide +kernel
theorem dX7_restore_37 : decode cX7_restore 37 = .ok (.iload_n 1, 1) := by decide +kernel
theorem dX7_restore_38 : decode cX7_restore 38 = .ok (.aaload, 1) := by decide +kernel
theorem dX7_restore_39 : decode cX7_restore 39 = .ok (.astore_n 2, 1) := by decide +kernel
theorem dX7_restore_40 : decode cX7_restore 40 = .ok (.aload_n 2, 1) := by decide +kernel
theorem dX7_restore_41 : decode cX7_restore 41 = .ok (.invokevirtual 120, 3) := by decide +kernel
theorem dX7_restore_44 : decode cX7_restore 44 = .ok (.ifCond .ne 22, 3) := by decide +kernel
theorem dX7_restore_47 : decode cX7_restore 47 = .ok (.aload_n 0, 1) := by decide +kernel
theorem dX7_restore_48 : decode cX7_restore 48 = .ok (.getfield 18, 3) := by decide +kernel
theorem dX7_restore_51 : decode cX7_restore 51 = .ok (.aload_n 2, 1) := by decide +kernel
theorem dX7_restore_52 : decode cX7_restore 52 = .ok (.getfield 114, 3) := by decide +kernel
theorem dX7_restore_55 : decode cX7_restore 55 = .ok (.invokevirtual 107, 3) := by decide +kernel
theorem dX7_restore_58 : decode cX7_restore 58 = .ok (.ifCond .ne 8, 3) := by decide +kernel
theorem dX7_restore_61 : decode cX7_restore 61 = .ok (.aload_n 2, 1) := by decide +kernel
theorem dX7_restore_62 : decode cX7_restore 62 = .ok (.iconst (-1), 1) := by decide +kernel
theorem dX7_restore_63 : decode cX7_restore 63 = .ok (.invokevirtual 110, 3) := by decide +kernel
theorem dX7_restore_66 : decode cX7_restore 66 = .ok (.iinc 1 1, 3) := by decide +kernel
theorem dX7_restore_69 : decode cX7_restore 69 = .ok (.goto (-42), 3) := by decide +kernel
theorem dX7_restore_72 : decode cX7_restore 72 = .ok (.aload_n 0, 1) := by decide +kernel
theorem dX7_restore_73 : decode cX7_restore 73 = .ok (.getfield 18, 3) := by decide +kernel
theorem dX7_restore_76 : decode cX7_restore 76 = .ok (.getfield 306, 3) := by decide +kernel
theorem dX7_restore_79 : decode cX7_restore 79 = .ok (.ireturn, 1) := by decide +kernel
theorem dX7_status_0 : decode cX7_status 0 = .ok (.iload_n 1, 1) := by decide +kernel
theorem dX7_status_1 : decode cX7_status 1 = .ok (.bipush 11, 2) := by decide +kernel
theorem dX7_status_3 : decode cX7_status 3 = .ok (.bipush 17, 2) := by decide +kernel
theorem dX7_status_5 : decode cX7_status 5 = .ok (.invokestatic 67, 3) := by decide +kernel
theorem dX7_status_8 : decode cX7_status 8 = .ok (.ifCond .eq 13, 3) := by decide +kernel
theorem dX7_status_11 : decode cX7_status 11 = .ok (.aload_n 0, 1) := by decide +kernel
theorem dX7_status_12 : decode cX7_status 12 = .ok (.getfield 46, 3) := by decide +kernel
theorem dX7_status_15 : decode cX7_status 15 = .ok (.iload_n 1, 1) := by decide +kernel
theorem dX7_status_16 : decode cX7_status 16 = .ok (.bipush 10, 2) := by decide +kernel
theorem dX7_status_18 : decode cX7_status 18 = .ok (.isub, 1) := by decide +kernel
theorem dX7_status_19 : decode cX7_status 19 = .ok (.iaload, 1) := by decide +kernel
theorem dX7_status_20 : decode cX7_status 20 = .ok (.ireturn, 1) := by decide +kernel
theorem dX7_status_21 : decode cX7_status 21 = .ok (.iload_n 1, 1) := by decide +kernel
theorem dX7_status_22 : decode cX7_status 22 = .ok (.tableswitch 110 0 7 #[46, 54, 62, 70, 78, 86, 94, 102], 46) := by decide +kernel
theorem dX7_status_68 : decode cX7_status 68 = .ok (.aload_n 0, 1) := by decide +kernel
theorem dX7_status_69 : decode cX7_status 69 = .ok (.getfield 18, 3) := by decide +kernel
theorem dX7_status_72 : decode cX7_status 72 = .ok (.getfield 306, 3) := by decide +kernel
theorem dX7_status_75 : decode cX7_status 75 = .ok (.ireturn, 1) := by decide +kernel
theorem dX7_status_76 : decode cX7_status 76 = .ok (.aload_n 0, 1) := by decide +kernel
theorem dX7_status_77 : decode cX7_status 77 = .ok (.getfield 18, 3) := by decide +kernel
theorem dX7_status_80 : decode cX7_status 80 = .ok (.getfield 260, 3) := by decide +kernel
theorem dX7_status_83 : decode cX7_status 83 = .ok (.ireturn, 1) := by decide +kernel
theorem dX7_status_84 : decode cX7_status 84 = .ok (.aload_n 0, 1) := by decide +kernel
theorem dX7_status_85 : decode cX7_status 85 = .ok (.getfield 18, 3) := by decide +kernel
theorem dX7_status_88 : decode cX7_status 88 = .ok (.getfield 158, 3) := by decide +kernel
theorem dX7_status_91 : decode cX7_status 91 = .ok (.ireturn, 1) := by decide +kernel
theorem dX7_status_92 : decode cX7_status 92 = .ok (.aload_n 0, 1) := by decide +kernel
theorem dX7_status_93 : decode cX7_status 93 = .ok (.getfield 18, 3) := by decide +kernel
theorem dX7_status_96 : decode cX7_status 96 = .ok (.getfield 289, 3) := by decide +kernel
theorem dX7_status_99 : decode cX7_status 99 = .ok (.ireturn, 1) := by decide +kernel
theorem dX7_status_100 : decode cX7_status 100 = .ok (.aload_n 0, 1) := by decide +kernel
theorem dX7_status_101 : decode cX7_status 101 = .ok (.getfield 18, 3) := by decide +kernel
theorem dX7_status_104 : decode cX7_status 104 = .ok (.getfield 286, 3) := by decide +kernel
theorem dX7_status_107 : decode cX7_status 107 = .ok (.ireturn, 1) := by decide +kernel
theorem dX7_status_108 : decode cX7_status 108 = .ok (.aload_n 0, 1) := by decide +kernel
theorem dX7_status_109 : decode cX7_status 109 = .ok (.getfield 18, 3) := by decide +kernel
theorem dX7_status_112 : decode cX7_status 112 = .ok (.getfield 309, 3) := by decide +kernel
theorem dX7_status_115 : decode cX7_status 115 = .ok (.ireturn, 1) := by decide +kernel
theorem dX7_status_116 : decode cX7_status 116 = .ok (.aload_n 0, 1) := by decide +kernel
theorem dX7_status_117 : decode cX7_status 117 = .ok (.getfield 18, 3) := by decide +kernel
theorem dX7_status_120 : decode cX7_status 120 = .ok (.getfield 295, 3) := by decide +kernel
theorem dX7_status_123 : decode cX7_status 123 = .ok (.ireturn, 1) := by decide +kernel
theorem dX7_status_124 : decode cX7_status 124 = .ok (.aload_n 0, 1) := by decide +kernel
theorem dX7_status_125 : decode cX7_status 125 = .ok (.getfield 42, 3) := by decide +kernel
theorem dX7_status_128 : decode cX7_status 128 = .ok (.getfield 312, 3) := by decide +kernel
theorem dX7_status_131 : decode cX7_status 131 = .ok (.ireturn, 1) := by decide +kernel
theorem dX7_status_132 : decode cX7_status 132 = .ok (.iconst (-1), 1) := by decide +kernel
theorem dX7_status_133 : decode cX7_status 133 = .ok (.ireturn, 1) := by decide +kernel
theorem dX7_refuse_0 : decode cX7_refuse 0 = .ok (.iload_n 1, 1) := by decide +kernel
theorem dX7_refuse_1 : decode cX7_refuse 1 = .ok (.ineg, 1) := by decide +kernel
theorem dX7_refuse_2 : decode cX7_refuse 2 = .ok (.istore_n 2, 1) := by decide +kernel
theorem dX7_refuse_3 : decode cX7_refuse 3 = .ok (.iload_n 2, 1) := by decide +kernel
theorem dX7_refuse_4 : decode cX7_refuse 4 = .ok (.iconst 1, 1) := by decide +kernel
theorem dX7_refuse_5 : decode cX7_refuse 5 = .ok (.bipush 7, 2) := by decide +kernel
theorem dX7_refuse_7 : decode cX7_refuse 7 = .ok (.invokestatic 67, 3) := by decide +kernel
theorem dX7_refuse_10 : decode cX7_refuse 10 = .ok (.ifCond .eq 13, 3) := by decide +kernel
theorem dX7_refuse_13 : decode cX7_refuse 13 = .ok (.aload_n 0, 1) := by decide +kernel
theorem dX7_refuse_14 : decode cX7_refuse 14 = .ok (.getfield 46, 3) := by decide +kernel
theorem dX7_refuse_17 : decode cX7_refuse 17 = .ok (.iload_n 2, 1) := by decide +kernel
theorem dX7_refuse_18 : decode cX7_refuse 18 = .ok (.dup2, 1) := by decide +kernel
theorem dX7_refuse_19 : decode cX7_refuse 19 = .ok (.iaload, 1) := by decide +kernel
theorem dX7_refuse_20 : decode cX7_refuse 20 = .ok (.iconst 1, 1) := by decide +kernel
theorem dX7_refuse_21 : decode cX7_refuse 21 = .ok (.iadd, 1) := by decide +kernel
theorem dX7_refuse_22 : decode cX7_refuse 22 = .ok (.iastore, 1) := by decide +kernel
theorem dX7_refuse_23 : decode cX7_refuse 23 = .ok (.iload_n 1, 1) := by decide +kernel
theorem dX7_refuse_24 : decode cX7_refuse 24 = .ok (.ireturn, 1) := by decide +kernel
theorem dX7_refuseApart_0 : decode cX7_refuseApart 0 = .ok (.aload_n 0, 1) := by decide +kernel
theorem dX7_refuseApart_1 : decode cX7_refuseApart 1 = .ok (.iload_n 1, 1) := by decide +kernel
theorem dX7_refuseApart_2 : decode cX7_refuseApart 2 = .ok (.invokevirtual 63, 3) := by decide +kernel
theorem dX7_refuseApart_5 : decode cX7_refuseApart 5 = .ok (.bipush 10, 2) := by decide +kernel
theorem dX7_refuseApart_7 : decode cX7_refuseApart 7 = .ok (.isub, 1) := by decide +kernel
theorem dX7_refuseApart_8 : decode cX7_refuseApart 8 = .ok (.ireturn, 1) := by decide +kernel
theorem dX7_rowRefusal_0 : decode cX7_rowRefusal 0 = .ok (.iload_n 1, 1) := by decide +kernel
theorem dX7_rowRefusal_1 : decode cX7_rowRefusal 1 = .ok (.invokestatic 59, 3) := by decide +kernel
theorem dX7_rowRefusal_4 : decode cX7_rowRefusal 4 = .ok (.ifCond .ne 5, 3) := by decide +kernel
theorem dX7_rowRefusal_7 : decode cX7_rowRefusal 7 = .ok (.iconst (-1), 1) := by decide +kernel
theorem dX7_rowRefusal_8 : decode cX7_rowRefusal 8 = .ok (.ireturn, 1) := by decide +kernel
theorem dX7_rowRefusal_9 : decode cX7_rowRefusal 9 = .ok (.aload_n 0, 1) := by decide +kernel
theorem dX7_rowRefusal_10 : decode cX7_rowRefusal 10 = .ok (.getfield 11, 3) := by decide +kernel
theorem dX7_rowRefusal_13 : decode cX7_rowRefusal 13 = .ok (.iload_n 1, 1) := by decide +kernel
theorem dX7_rowRefusal_14 : decode cX7_rowRefusal 14 = .ok (.aaload, 1) := by decide +kernel
theorem dX7_rowRefusal_15 : decode cX7_rowRefusal 15 = .ok (.invokevirtual 120, 3) := by decide +kernel
theorem dX7_rowRefusal_18 : decode cX7_rowRefusal 18 = .ok (.ifCond .eq 5, 3) := by decide +kernel
theorem dX7_rowRefusal_21 : decode cX7_rowRefusal 21 = .ok (.iconst 0, 1) := by decide +kernel
theorem dX7_rowRefusal_22 : decode cX7_rowRefusal 22 = .ok (.ireturn, 1) := by decide +kernel
theorem dX7_rowRefusal_23 : decode cX7_rowRefusal 23 = .ok (.aload_n 0, 1) := by decide +kernel
theorem dX7_rowRefusal_24 : decode cX7_rowRefusal 24 = .ok (.getfield 11, 3) := by decide +kernel
theorem dX7_rowRefusal_27 : decode cX7_rowRefusal 27 = .ok (.iload_n 1, 1) := by decide +kernel
theorem dX7_rowRefusal_28 : decode cX7_rowRefusal 28 = .ok (.aaload, 1) := by decide +kernel
theorem dX7_rowRefusal_29 : decode cX7_rowRefusal 29 = .ok (.getfield 114, 3) := by decide +kernel
theorem dX7_rowRefusal_32 : decode cX7_rowRefusal 32 = .ok (.iconst (-1), 1) := by decide +kernel
theorem dX7_rowRefusal_33 : decode cX7_rowRefusal 33 = .ok (.if_icmp .ne 8, 3) := by decide +kernel
theorem dX7_rowRefusal_36 : decode cX7_rowRefusal 36 = .ok (.bipush (-3), 2) := by decide +kernel
theorem dX7_rowRefusal_38 : decode cX7_rowRefusal 38 = .ok (.goto 5, 3) := by decide +kernel
theorem dX7_rowRefusal_41 : decode cX7_rowRefusal 41 = .ok (.bipush (-2), 2) := by decide +kernel
theorem dX7_rowRefusal_43 : decode cX7_rowRefusal 43 = .ok (.ireturn, 1) := by decide +kernel
theorem dX7_twoRowsRefusal_0 : decode cX7_twoRowsRefusal 0 = .ok (.aload_n 0, 1) := by decide +kernel
theorem dX7_twoRowsRefusal_1 : decode cX7_twoRowsRefusal 1 = .ok (.iload_n 1, 1) := by decide +kernel
theorem dX7_twoRowsRefusal_2 : decode cX7_twoRowsRefusal 2 = .ok (.invokevirtual 75, 3) := by decide +kernel
theorem dX7_twoRowsRefusal_5 : decode cX7_twoRowsRefusal 5 = .ok (.istore_n 3, 1) := by decide +kernel
theorem dX7_twoRowsRefusal_6 : decode cX7_twoRowsRefusal 6 = .ok (.aload_n 0, 1) := by decide +kernel
theorem dX7_twoRowsRefusal_7 : decode cX7_twoRowsRefusal 7 = .ok (.iload_n 2, 1) := by decide +kernel
theorem dX7_twoRowsRefusal_8 : decode cX7_twoRowsRefusal 8 = .ok (.invokevirtual 75, 3) := by decide +kernel
theorem dX7_twoRowsRefusal_11 : decode cX7_twoRowsRefusal 11 = .ok (.istore 4, 2) := by decide +kernel
theorem dX7_twoRowsRefusal_13 : decode cX7_twoRowsRefusal 13 = .ok (.iload_n 3, 1) := by decide +kernel
theorem dX7_twoRowsRefusal_14 : decode cX7_twoRowsRefusal 14 = .ok (.ifCond .ne 36, 3) := by decide +kernel
theorem dX7_twoRowsRefusal_17 : decode cX7_twoRowsRefusal 17 = .ok (.iload 4, 2) := by decide +kernel
theorem dX7_twoRowsRefusal_19 : decode cX7_twoRowsRefusal 19 = .ok (.ifCond .ne 31, 3) := by decide +kernel
theorem dX7_twoRowsRefusal_22 : decode cX7_twoRowsRefusal 22 = .ok (.aload_n 0, 1) := by decide +kernel
theorem dX7_twoRowsRefusal_23 : decode cX7_twoRowsRefusal 23 = .ok (.getfield 11, 3) := by decide +kernel
theorem dX7_twoRowsRefusal_26 : decode cX7_twoRowsRefusal 26 = .ok (.iload_n 1, 1) := by decide +kernel
theorem dX7_twoRowsRefusal_27 : decode cX7_twoRowsRefusal 27 = .ok (.aaload, 1) := by decide +kernel
theorem dX7_twoRowsRefusal_28 : decode cX7_twoRowsRefusal 28 = .ok (.getfield 114, 3) := by decide +kernel
theorem dX7_twoRowsRefusal_31 : decode cX7_twoRowsRefusal 31 = .ok (.aload_n 0, 1) := by decide +kernel
theorem dX7_twoRowsRefusal_32 : decode cX7_twoRowsRefusal 32 = .ok (.getfield 11, 3) := by decide +kernel
theorem dX7_twoRowsRefusal_35 : decode cX7_twoRowsRefusal 35 = .ok (.iload_n 2, 1) := by decide +kernel
theorem dX7_twoRowsRefusal_36 : decode cX7_twoRowsRefusal 36 = .ok (.aaload, 1) := by decide +kernel
theorem dX7_twoRowsRefusal_37 : decode cX7_twoRowsRefusal 37 = .ok (.getfield 114, 3) := by decide +kernel
theorem dX7_twoRowsRefusal_40 : decode cX7_twoRowsRefusal 40 = .ok (.if_icmp .ne 7, 3) := by decide +kernel
theorem dX7_twoRowsRefusal_43 : decode cX7_twoRowsRefusal 43 = .ok (.iconst 0, 1) := by decide +kernel
theorem dX7_twoRowsRefusal_44 : decode cX7_twoRowsRefusal 44 = .ok (.goto 5, 3) := by decide +kernel
theorem dX7_twoRowsRefusal_47 : decode cX7_twoRowsRefusal 47 = .ok (.bipush (-2), 2) := by decide +kernel
theorem dX7_twoRowsRefusal_49 : decode cX7_twoRowsRefusal 49 = .ok (.ireturn, 1) := by decide +kernel
theorem dX7_twoRowsRefusal_50 : decode cX7_twoRowsRefusal 50 = .ok (.iload_n 3, 1) := by decide +kernel
theorem dX7_twoRowsRefusal_51 : decode cX7_twoRowsRefusal 51 = .ok (.iconst (-1), 1) := by decide +kernel
theorem dX7_twoRowsRefusal_52 : decode cX7_twoRowsRefusal 52 = .ok (.if_icmp .eq 9, 3) := by decide +kernel
theorem dX7_twoRowsRefusal_55 : decode cX7_twoRowsRefusal 55 = .ok (.iload 4, 2) := by decide +kernel
theorem dX7_twoRowsRefusal_57 : decode cX7_twoRowsRefusal 57 = .ok (.iconst (-1), 1) := by decide +kernel
theorem dX7_twoRowsRefusal_58 : decode cX7_twoRowsRefusal 58 = .ok (.if_icmp .ne 5, 3) := by decide +kernel
theorem dX7_twoRowsRefusal_61 : decode cX7_twoRowsRefusal 61 = .ok (.iconst (-1), 1) := by decide +kernel
theorem dX7_twoRowsRefusal_62 : decode cX7_twoRowsRefusal 62 = .ok (.ireturn, 1) := by decide +kernel
theorem dX7_twoRowsRefusal_63 : decode cX7_twoRowsRefusal 63 = .ok (.iload_n 3, 1) := by decide +kernel
theorem dX7_twoRowsRefusal_64 : decode cX7_twoRowsRefusal 64 = .ok (.bipush (-2), 2) := by decide +kernel
theorem dX7_twoRowsRefusal_66 : decode cX7_twoRowsRefusal 66 = .ok (.if_icmp .eq 10, 3) := by decide +kernel
theorem dX7_twoRowsRefusal_69 : decode cX7_twoRowsRefusal 69 = .ok (.iload 4, 2) := by decide +kernel
theorem dX7_twoRowsRefusal_71 : decode cX7_twoRowsRefusal 71 = .ok (.bipush (-2), 2) := by decide +kernel
theorem dX7_twoRowsRefusal_73 : decode cX7_twoRowsRefusal 73 = .ok (.if_icmp .ne 8, 3) := by decide +kernel
theorem dX7_twoRowsRefusal_76 : decode cX7_twoRowsRefusal 76 = .ok (.bipush (-2), 2) := by decide +kernel
theorem dX7_twoRowsRefusal_78 : decode cX7_twoRowsRefusal 78 = .ok (.goto 5, 3) := by decide +kernel
theorem dX7_twoRowsRefusal_81 : decode cX7_twoRowsRefusal 81 = .ok (.bipush (-3), 2) := by decide +kernel
theorem dX7_twoRowsRefusal_83 : decode cX7_twoRowsRefusal 83 = .ok (.ireturn, 1) := by decide +kernel
theorem dX7_toldRefusal_0 : decode cX7_toldRefusal 0 = .ok (.aload_n 0, 1) := by decide +kernel
theorem dX7_toldRefusal_1 : decode cX7_toldRefusal 1 = .ok (.iload_n 1, 1) := by decide +kernel
theorem dX7_toldRefusal_2 : decode cX7_toldRefusal 2 = .ok (.invokevirtual 75, 3) := by decide +kernel
theorem dX7_toldRefusal_5 : decode cX7_toldRefusal 5 = .ok (.istore 5, 2) := by decide +kernel
theorem dX7_toldRefusal_7 : decode cX7_toldRefusal 7 = .ok (.iload 5, 2) := by decide +kernel
theorem dX7_toldRefusal_9 : decode cX7_toldRefusal 9 = .ok (.ifCond .eq 6, 3) := by decide +kernel
theorem dX7_toldRefusal_12 : decode cX7_toldRefusal 12 = .ok (.iload 5, 2) := by decide +kernel
theorem dX7_toldRefusal_14 : decode cX7_toldRefusal 14 = .ok (.ireturn, 1) := by decide +kernel
theorem dX7_toldRefusal_15 : decode cX7_toldRefusal 15 = .ok (.iload_n 2, 1) := by decide +kernel
theorem dX7_toldRefusal_16 : decode cX7_toldRefusal 16 = .ok (.ifCond .ge 6, 3) := by decide +kernel
theorem dX7_toldRefusal_19 : decode cX7_toldRefusal 19 = .ok (.bipush (-4), 2) := by decide +kernel
theorem dX7_toldRefusal_21 : decode cX7_toldRefusal 21 = .ok (.ireturn, 1) := by decide +kernel
theorem dX7_toldRefusal_22 : decode cX7_toldRefusal 22 = .ok (.iload_n 2, 1) := by decide +kernel
theorem dX7_toldRefusal_23 : decode cX7_toldRefusal 23 = .ok (.aload_n 0, 1) := by decide +kernel
theorem dX7_toldRefusal_24 : decode cX7_toldRefusal 24 = .ok (.getfield 11, 3) := by decide +kernel
theorem dX7_toldRefusal_27 : decode cX7_toldRefusal 27 = .ok (.iload_n 1, 1) := by decide +kernel
theorem dX7_toldRefusal_28 : decode cX7_toldRefusal 28 = .ok (.aaload, 1) := by decide +kernel
theorem dX7_toldRefusal_29 : decode cX7_toldRefusal 29 = .ok (.getfield 315, 3) := by decide +kernel
theorem dX7_toldRefusal_32 : decode cX7_toldRefusal 32 = .ok (.if_icmp .gt 8, 3) := by decide +kernel
theorem dX7_toldRefusal_35 : decode cX7_toldRefusal 35 = .ok (.iload 4, 2) := by decide +kernel
theorem dX7_toldRefusal_37 : decode cX7_toldRefusal 37 = .ok (.ifCond .ne 6, 3) := by decide +kernel
theorem dX7_toldRefusal_40 : decode cX7_toldRefusal 40 = .ok (.bipush (-5), 2) := by decide +kernel
theorem dX7_toldRefusal_42 : decode cX7_toldRefusal 42 = .ok (.ireturn, 1) := by decide +kernel
theorem dX7_toldRefusal_43 : decode cX7_toldRefusal 43 = .ok (.iload_n 2, 1) := by decide +kernel
theorem dX7_toldRefusal_44 : decode cX7_toldRefusal 44 = .ok (.iload_n 3, 1) := by decide +kernel
theorem dX7_toldRefusal_45 : decode cX7_toldRefusal 45 = .ok (.if_icmp .le 8, 3) := by decide +kernel
theorem dX7_toldRefusal_48 : decode cX7_toldRefusal 48 = .ok (.bipush (-6), 2) := by decide +kernel
theorem dX7_toldRefusal_50 : decode cX7_toldRefusal 50 = .ok (.goto 4, 3) := by decide +kernel
theorem dX7_toldRefusal_53 : decode cX7_toldRefusal 53 = .ok (.iconst 0, 1) := by decide +kernel
theorem dX7_toldRefusal_54 : decode cX7_toldRefusal 54 = .ok (.ireturn, 1) := by decide +kernel
theorem dX7_dayRefusal_0 : decode cX7_dayRefusal 0 = .ok (.aload_n 0, 1) := by decide +kernel
theorem dX7_dayRefusal_1 : decode cX7_dayRefusal 1 = .ok (.iload_n 1, 1) := by decide +kernel
theorem dX7_dayRefusal_2 : decode cX7_dayRefusal 2 = .ok (.iload_n 2, 1) := by decide +kernel
theorem dX7_dayRefusal_3 : decode cX7_dayRefusal 3 = .ok (.bipush 8, 2) := by decide +kernel
theorem dX7_dayRefusal_5 : decode cX7_dayRefusal 5 = .ok (.iload_n 3, 1) := by decide +kernel
theorem dX7_dayRefusal_6 : decode cX7_dayRefusal 6 = .ok (.invokevirtual 256, 3) := by decide +kernel
theorem dX7_dayRefusal_9 : decode cX7_dayRefusal 9 = .ok (.istore 4, 2) := by decide +kernel
theorem dX7_dayRefusal_11 : decode cX7_dayRefusal 11 = .ok (.iload 4, 2) := by decide +kernel
theorem dX7_dayRefusal_13 : decode cX7_dayRefusal 13 = .ok (.ifCond .eq 6, 3) := by decide +kernel
theorem dX7_dayRefusal_16 : decode cX7_dayRefusal 16 = .ok (.iload 4, 2) := by decide +kernel
theorem dX7_dayRefusal_18 : decode cX7_dayRefusal 18 = .ok (.ireturn, 1) := by decide +kernel
theorem dX7_dayRefusal_19 : decode cX7_dayRefusal 19 = .ok (.aload_n 0, 1) := by decide +kernel
theorem dX7_dayRefusal_20 : decode cX7_dayRefusal 20 = .ok (.aload_n 0, 1) := by decide +kernel
theorem dX7_dayRefusal_21 : decode cX7_dayRefusal 21 = .ok (.getfield 11, 3) := by decide +kernel
theorem dX7_dayRefusal_24 : decode cX7_dayRefusal 24 = .ok (.iload_n 1, 1) := by decide +kernel
theorem dX7_dayRefusal_25 : decode cX7_dayRefusal 25 = .ok (.aaload, 1) := by decide +kernel
theorem dX7_dayRefusal_26 : decode cX7_dayRefusal 26 = .ok (.iload_n 2, 1) := by decide +kernel
theorem dX7_dayRefusal_27 : decode cX7_dayRefusal 27 = .ok (.invokevirtual 272, 3) := by decide +kernel
theorem dX7_dayRefusal_30 : decode cX7_dayRefusal 30 = .ok (.iconst (-1), 1) := by decide +kernel
theorem dX7_dayRefusal_31 : decode cX7_dayRefusal 31 = .ok (.if_icmp .ne 7, 3) := by decide +kernel
theorem dX7_dayRefusal_34 : decode cX7_dayRefusal 34 = .ok (.iconst 0, 1) := by decide +kernel
theorem dX7_dayRefusal_35 : decode cX7_dayRefusal 35 = .ok (.goto 5, 3) := by decide +kernel
theorem dX7_dayRefusal_38 : decode cX7_dayRefusal 38 = .ok (.bipush (-6), 2) := by decide +kernel
theorem dX7_dayRefusal_40 : decode cX7_dayRefusal 40 = .ok (.ireturn, 1) := by decide +kernel
theorem dX7_firstWrong_0 : decode cX7_firstWrong 0 = .ok (.iconst 0, 1) := by decide +kernel
theorem dX7_firstWrong_1 : decode cX7_firstWrong 1 = .ok (.istore_n 3, 1) := by decide +kernel
theorem dX7_firstWrong_2 : decode cX7_firstWrong 2 = .ok (.iconst 0, 1) := by decide +kernel
theorem dX7_firstWrong_3 : decode cX7_firstWrong 3 = .ok (.istore 4, 2) := by decide +kernel
theorem dX7_firstWrong_5 : decode cX7_firstWrong 5 = .ok (.iload 4, 2) := by decide +kernel
theorem dX7_firstWrong_7 : decode cX7_firstWrong 7 = .ok (.iload_n 2, 1) := by decide +kernel
theorem dX7_firstWrong_8 : decode cX7_firstWrong 8 = .ok (.if_icmp .ge 56, 3) := by decide +kernel
theorem dX7_firstWrong_11 : decode cX7_firstWrong 11 = .ok (.aload_n 1, 1) := by decide +kernel
theorem dX7_firstWrong_12 : decode cX7_firstWrong 12 = .ok (.iload 4, 2) := by decide +kernel
theorem dX7_firstWrong_14 : decode cX7_firstWrong 14 = .ok (.invokevirtual 263, 3) := by decide +kernel
theorem dX7_firstWrong_17 : decode cX7_firstWrong 17 = .ok (.istore 5, 2) := by decide +kernel
theorem dX7_firstWrong_19 : decode cX7_firstWrong 19 = .ok (.aload_n 0, 1) := by decide +kernel
theorem dX7_firstWrong_20 : decode cX7_firstWrong 20 = .ok (.getfield 18, 3) := by decide +kernel
theorem dX7_firstWrong_23 : decode cX7_firstWrong 23 = .ok (.iload 5, 2) := by decide +kernel
theorem dX7_firstWrong_25 : decode cX7_firstWrong 25 = .ok (.invokevirtual 318, 3) := by decide +kernel
theorem dX7_firstWrong_28 : decode cX7_firstWrong 28 = .ok (.ifCond .ne 6, 3) := by decide +kernel
theorem dX7_firstWrong_31 : decode cX7_firstWrong 31 = .ok (.iload 4, 2) := by decide +kernel
theorem dX7_firstWrong_33 : decode cX7_firstWrong 33 = .ok (.ireturn, 1) := by decide +kernel
theorem dX7_firstWrong_34 : decode cX7_firstWrong 34 = .ok (.iconst 1, 1) := by decide +kernel
theorem dX7_firstWrong_35 : decode cX7_firstWrong 35 = .ok (.iload 5, 2) := by decide +kernel
theorem dX7_firstWrong_37 : decode cX7_firstWrong 37 = .ok (.bipush 100, 2) := by decide +kernel
theorem dX7_firstWrong_39 : decode cX7_firstWrong 39 = .ok (.idiv, 1) := by decide +kernel
theorem dX7_firstWrong_40 : decode cX7_firstWrong 40 = .ok (.ishl, 1) := by decide +kernel
theorem dX7_firstWrong_41 : decode cX7_firstWrong 41 = .ok (.istore 6, 2) := by decide +kernel
theorem dX7_firstWrong_43 : decode cX7_firstWrong 43 = .ok (.iload_n 3, 1) := by decide +kernel
theorem dX7_firstWrong_44 : decode cX7_firstWrong 44 = .ok (.iload 6, 2) := by decide +kernel
theorem dX7_firstWrong_46 : decode cX7_firstWrong 46 = .ok (.iand, 1) := by decide +kernel
theorem dX7_firstWrong_47 : decode cX7_firstWrong 47 = .ok (.ifCond .eq 6, 3) := by decide +kernel
theorem dX7_firstWrong_50 : decode cX7_firstWrong 50 = .ok (.iload 4, 2) := by decide +kernel
theorem dX7_firstWrong_52 : decode cX7_firstWrong 52 = .ok (.ireturn, 1) := by decide +kernel
theorem dX7_firstWrong_53 : decode cX7_firstWrong 53 = .ok (.iload_n 3, 1) := by decide +kernel
theorem dX7_firstWrong_54 : decode cX7_firstWrong 54 = .ok (.iload 6, 2) := by decide +kernel
theorem dX7_firstWrong_56 : decode cX7_firstWrong 56 = .ok (.ior, 1) := by decide +kernel
theorem dX7_firstWrong_57 : decode cX7_firstWrong 57 = .ok (.istore_n 3, 1) := by decide +kernel
theorem dX7_firstWrong_58 : decode cX7_firstWrong 58 = .ok (.iinc 4 1, 3) := by decide +kernel
theorem dX7_firstWrong_61 : decode cX7_firstWrong 61 = .ok (.goto (-56), 3) := by decide +kernel
theorem dX7_firstWrong_64 : decode cX7_firstWrong 64 = .ok (.iconst (-1), 1) := by decide +kernel
theorem dX7_firstWrong_65 : decode cX7_firstWrong 65 = .ok (.ireturn, 1) := by decide +kernel
theorem dX7_within_0 : decode cX7_within 0 = .ok (.iload_n 0, 1) := by decide +kernel
theorem dX7_within_1 : decode cX7_within 1 = .ok (.iload_n 1, 1) := by decide +kernel
theorem dX7_within_2 : decode cX7_within 2 = .ok (.if_icmp .lt 12, 3) := by decide +kernel
theorem dX7_within_5 : decode cX7_within 5 = .ok (.iload_n 0, 1) := by decide +kernel
theorem dX7_within_6 : decode cX7_within 6 = .ok (.iload_n 2, 1) := by decide +kernel
theorem dX7_within_7 : decode cX7_within 7 = .ok (.if_icmp .gt 7, 3) := by decide +kernel
theorem dX7_within_10 : decode cX7_within 10 = .ok (.iconst 1, 1) := by decide +kernel
theorem dX7_within_11 : decode cX7_within 11 = .ok (.goto 4, 3) := by decide +kernel
theorem dX7_within_14 : decode cX7_within 14 = .ok (.iconst 0, 1) := by decide +kernel
theorem dX7_within_15 : decode cX7_within 15 = .ok (.ireturn, 1) := by decide +kernel
theorem dX7_isShelf_0 : decode cX7_isShelf 0 = .ok (.iload_n 0, 1) := by decide +kernel
theorem dX7_isShelf_1 : decode cX7_isShelf 1 = .ok (.iconst 0, 1) := by decide +kernel
theorem dX7_isShelf_2 : decode cX7_isShelf 2 = .ok (.bipush 7, 2) := by decide +kernel
theorem dX7_isShelf_4 : decode cX7_isShelf 4 = .ok (.invokestatic 67, 3) := by decide +kernel
theorem dX7_isShelf_7 : decode cX7_isShelf 7 = .ok (.ireturn, 1) := by decide +kernel
theorem dX7_isKind_0 : decode cX7_isKind 0 = .ok (.iload_n 0, 1) := by decide +kernel
theorem dX7_isKind_1 : decode cX7_isKind 1 = .ok (.iconst 0, 1) := by decide +kernel
theorem dX7_isKind_2 : decode cX7_isKind 2 = .ok (.bipush 6, 2) := by decide +kernel
theorem dX7_isKind_4 : decode cX7_isKind 4 = .ok (.invokestatic 67, 3) := by decide +kernel
theorem dX7_isKind_7 : decode cX7_isKind 7 = .ok (.ireturn, 1) := by decide +kernel
theorem dX7_isCorner_0 : decode cX7_isCorner 0 = .ok (.iload_n 0, 1) := by decide +kernel
theorem dX7_isCorner_1 : decode cX7_isCorner 1 = .ok (.iconst 0, 1) := by decide +kernel
theorem dX7_isCorner_2 : decode cX7_isCorner 2 = .ok (.bipush 9, 2) := by decide +kernel
theorem dX7_isCorner_4 : decode cX7_isCorner 4 = .ok (.invokestatic 67, 3) := by decide +kernel
theorem dX7_isCorner_7 : decode cX7_isCorner 7 = .ok (.ireturn, 1) := by decide +kernel
theorem dX7_isQuarter_0 : decode cX7_isQuarter 0 = .ok (.iload_n 0, 1) := by decide +kernel
theorem dX7_isQuarter_1 : decode cX7_isQuarter 1 = .ok (.iconst 0, 1) := by decide +kernel
theorem dX7_isQuarter_2 : decode cX7_isQuarter 2 = .ok (.bipush 23, 2) := by decide +kernel
theorem dX7_isQuarter_4 : decode cX7_isQuarter 4 = .ok (.invokestatic 67, 3) := by decide +kernel
theorem dX7_isQuarter_7 : decode cX7_isQuarter 7 = .ok (.ireturn, 1) := by decide +kernel
theorem dX7_isUnder_0 : decode cX7_isUnder 0 = .ok (.iload_n 0, 1) := by decide +kernel
theorem dX7_isUnder_1 : decode cX7_isUnder 1 = .ok (.istore_n 2, 1) := by decide +kernel
theorem dX7_isUnder_2 : decode cX7_isUnder 2 = .ok (.iconst 0, 1) := by decide +kernel
theorem dX7_isUnder_3 : decode cX7_isUnder 3 = .ok (.istore_n 3, 1) := by decide +kernel
theorem dX7_isUnder_4 : decode cX7_isUnder 4 = .ok (.iload_n 3, 1) := by decide +kernel
theorem dX7_isUnder_5 : decode cX7_isUnder 5 = .ok (.bipush 7, 2) := by decide +kernel
theorem dX7_isUnder_7 : decode cX7_isUnder 7 = .ok (.if_icmp .ge 29, 3) := by decide +kernel
theorem dX7_isUnder_10 : decode cX7_isUnder 10 = .ok (.iload_n 2, 1) := by decide +kernel
theorem dX7_isUnder_11 : decode cX7_isUnder 11 = .ok (.invokestatic 117, 3) := by decide +kernel
theorem dX7_isUnder_14 : decode cX7_isUnder 14 = .ok (.ifCond .eq 22, 3) := by decide +kernel
theorem dX7_isUnder_17 : decode cX7_isUnder 17 = .ok (.iload_n 2, 1) := by decide +kernel
theorem dX7_isUnder_18 : decode cX7_isUnder 18 = .ok (.iload_n 1, 1) := by decide +kernel
theorem dX7_isUnder_19 : decode cX7_isUnder 19 = .ok (.if_icmp .ne 5, 3) := by decide +kernel
theorem dX7_isUnder_22 : decode cX7_isUnder 22 = .ok (.iconst 1, 1) := by decide +kernel
theorem dX7_isUnder_23 : decode cX7_isUnder 23 = .ok (.ireturn, 1) := by decide +kernel
theorem dX7_isUnder_24 : decode cX7_isUnder 24 = .ok (.getstatic 321, 3) := by decide +kernel
theorem dX7_isUnder_27 : decode cX7_isUnder 27 = .ok (.iload_n 2, 1) := by decide +kernel
theorem dX7_isUnder_28 : decode cX7_isUnder 28 = .ok (.iaload, 1) := by decide +kernel
theorem dX7_isUnder_29 : decode cX7_isUnder 29 = .ok (.istore_n 2, 1) := by decide +kernel
theorem dX7_isUnder_30 : decode cX7_isUnder 30 = .ok (.iinc 3 1, 3) := by decide +kernel
theorem dX7_isUnder_33 : decode cX7_isUnder 33 = .ok (.goto (-29), 3) := by decide +kernel
theorem dX7_isUnder_36 : decode cX7_isUnder 36 = .ok (.iconst 0, 1) := by decide +kernel
theorem dX7_isUnder_37 : decode cX7_isUnder 37 = .ok (.ireturn, 1) := by decide +kernel
theorem dJ6_bitCount_0f7a4_0 : decode cJ6_bitCount_0f7a4 0 = .ok (.iload_n 0, 1) := by decide +kernel
theorem dJ6_bitCount_0f7a4_1 : decode cJ6_bitCount_0f7a4 1 = .ok (.iload_n 0, 1) := by decide +kernel
theorem dJ6_bitCount_0f7a4_2 : decode cJ6_bitCount_0f7a4 2 = .ok (.iconst 1, 1) := by decide +kernel
theorem dJ6_bitCount_0f7a4_3 : decode cJ6_bitCount_0f7a4 3 = .ok (.iushr, 1) := by decide +kernel
theorem dJ6_bitCount_0f7a4_4 : decode cJ6_bitCount_0f7a4 4 = .ok (.ldc_w 265, 3) := by decide +kernel
theorem dJ6_bitCount_0f7a4_7 : decode cJ6_bitCount_0f7a4 7 = .ok (.iand, 1) := by decide +kernel
theorem dJ6_bitCount_0f7a4_8 : decode cJ6_bitCount_0f7a4 8 = .ok (.isub, 1) := by decide +kernel
theorem dJ6_bitCount_0f7a4_9 : decode cJ6_bitCount_0f7a4 9 = .ok (.istore_n 0, 1) := by decide +kernel
theorem dJ6_bitCount_0f7a4_10 : decode cJ6_bitCount_0f7a4 10 = .ok (.iload_n 0, 1) := by decide +kernel
theorem dJ6_bitCount_0f7a4_11 : decode cJ6_bitCount_0f7a4 11 = .ok (.ldc_w 266, 3) := by decide +kernel
theorem dJ6_bitCount_0f7a4_14 : decode cJ6_bitCount_0f7a4 14 = .ok (.iand, 1) := by decide +kernel
theorem dJ6_bitCount_0f7a4_15 : decode cJ6_bitCount_0f7a4 15 = .ok (.iload_n 0, 1) := by decide +kernel
theorem dJ6_bitCount_0f7a4_16 : decode cJ6_bitCount_0f7a4 16 = .ok (.iconst 2, 1) := by decide +kernel
theorem dJ6_bitCount_0f7a4_17 : decode cJ6_bitCount_0f7a4 17 = .ok (.iushr, 1) := by decide +kernel
theorem dJ6_bitCount_0f7a4_18 : decode cJ6_bitCount_0f7a4 18 = .ok (.ldc_w 266, 3) := by decide +kernel
theorem dJ6_bitCount_0f7a4_21 : decode cJ6_bitCount_0f7a4 21 = .ok (.iand, 1) := by decide +kernel
theorem dJ6_bitCount_0f7a4_22 : decode cJ6_bitCount_0f7a4 22 = .ok (.iadd, 1) := by decide +kernel
theorem dJ6_bitCount_0f7a4_23 : decode cJ6_bitCount_0f7a4 23 = .ok (.istore_n 0, 1) := by decide +kernel
theorem dJ6_bitCount_0f7a4_24 : decode cJ6_bitCount_0f7a4 24 = .ok (.iload_n 0, 1) := by decide +kernel
theorem dJ6_bitCount_0f7a4_25 : decode cJ6_bitCount_0f7a4 25 = .ok (.iload_n 0, 1) := by decide +kernel
theorem dJ6_bitCount_0f7a4_26 : decode cJ6_bitCount_0f7a4 26 = .ok (.iconst 4, 1) := by decide +kernel
theorem dJ6_bitCount_0f7a4_27 : decode cJ6_bitCount_0f7a4 27 = .ok (.iushr, 1) := by decide +kernel
theorem dJ6_bitCount_0f7a4_28 : decode cJ6_bitCount_0f7a4 28 = .ok (.iadd, 1) := by decide +kernel
theorem dJ6_bitCount_0f7a4_29 : decode cJ6_bitCount_0f7a4 29 = .ok (.ldc_w 267, 3) := by decide +kernel
theorem dJ6_bitCount_0f7a4_32 : decode cJ6_bitCount_0f7a4 32 = .ok (.iand, 1) := by decide +kernel
theorem dJ6_bitCount_0f7a4_33 : decode cJ6_bitCount_0f7a4 33 = .ok (.istore_n 0, 1) := by decide +kernel
theorem dJ6_bitCount_0f7a4_34 : decode cJ6_bitCount_0f7a4 34 = .ok (.iload_n 0, 1) := by decide +kernel
theorem dJ6_bitCount_0f7a4_35 : decode cJ6_bitCount_0f7a4 35 = .ok (.iload_n 0, 1) := by decide +kernel
theorem dJ6_bitCount_0f7a4_36 : decode cJ6_bitCount_0f7a4 36 = .ok (.bipush 8, 2) := by decide +kernel
theorem dJ6_bitCount_0f7a4_38 : decode cJ6_bitCount_0f7a4 38 = .ok (.iushr, 1) := by decide +kernel
theorem dJ6_bitCount_0f7a4_39 : decode cJ6_bitCount_0f7a4 39 = .ok (.iadd, 1) := by decide +kernel
theorem dJ6_bitCount_0f7a4_40 : decode cJ6_bitCount_0f7a4 40 = .ok (.istore_n 0, 1) := by decide +kernel
theorem dJ6_bitCount_0f7a4_41 : decode cJ6_bitCount_0f7a4 41 = .ok (.iload_n 0, 1) := by decide +kernel
theorem dJ6_bitCount_0f7a4_42 : decode cJ6_bitCount_0f7a4 42 = .ok (.iload_n 0, 1) := by decide +kernel
theorem dJ6_bitCount_0f7a4_43 : decode cJ6_bitCount_0f7a4 43 = .ok (.bipush 16, 2) := by decide +kernel
theorem dJ6_bitCount_0f7a4_45 : decode cJ6_bitCount_0f7a4 45 = .ok (.iushr, 1) := by decide +kernel
theorem dJ6_bitCount_0f7a4_46 : decode cJ6_bitCount_0f7a4 46 = .ok (.iadd, 1) := by decide +kernel
theorem dJ6_bitCount_0f7a4_47 : decode cJ6_bitCount_0f7a4 47 = .ok (.istore_n 0, 1) := by decide +kernel
theorem dJ6_bitCount_0f7a4_48 : decode cJ6_bitCount_0f7a4 48 = .ok (.iload_n 0, 1) := by decide +kernel
theorem dJ6_bitCount_0f7a4_49 : decode cJ6_bitCount_0f7a4 49 = .ok (.bipush 63, 2) := by decide +kernel
theorem dJ6_bitCount_0f7a4_51 : decode cJ6_bitCount_0f7a4 51 = .ok (.iand, 1) := by decide +kernel
theorem dJ6_bitCount_0f7a4_52 : decode cJ6_bitCount_0f7a4 52 = .ok (.ireturn, 1) := by decide +kernel
theorem dJ9_abs_0f7a4_0 : decode cJ9_abs_0f7a4 0 = .ok (.iload_n 0, 1) := by decide +kernel
theorem dJ9_abs_0f7a4_1 : decode cJ9_abs_0f7a4 1 = .ok (.ifCond .ge 8, 3) := by decide +kernel
theorem dJ9_abs_0f7a4_4 : decode cJ9_abs_0f7a4 4 = .ok (.iload_n 0, 1) := by decide +kernel
theorem dJ9_abs_0f7a4_5 : decode cJ9_abs_0f7a4 5 = .ok (.ineg, 1) := by decide +kernel
theorem dJ9_abs_0f7a4_6 : decode cJ9_abs_0f7a4 6 = .ok (.goto 4, 3) := by decide +kernel
theorem dJ9_abs_0f7a4_9 : decode cJ9_abs_0f7a4 9 = .ok (.iload_n 0, 1) := by decide +kernel
theorem dJ9_abs_0f7a4_10 : decode cJ9_abs_0f7a4 10 = .ok (.ireturn, 1) := by decide +kernel
theorem dJ9_max_7cf53_0 : decode cJ9_max_7cf53 0 = .ok (.iload_n 0, 1) := by decide +kernel
theorem dJ9_max_7cf53_1 : decode cJ9_max_7cf53 1 = .ok (.iload_n 1, 1) := by decide +kernel
theorem dJ9_max_7cf53_2 : decode cJ9_max_7cf53 2 = .ok (.if_icmp .lt 7, 3) := by decide +kernel
theorem dJ9_max_7cf53_5 : decode cJ9_max_7cf53 5 = .ok (.iload_n 0, 1) := by decide +kernel
theorem dJ9_max_7cf53_6 : decode cJ9_max_7cf53 6 = .ok (.goto 4, 3) := by decide +kernel
theorem dJ9_max_7cf53_9 : decode cJ9_max_7cf53 9 = .ok (.iload_n 1, 1) := by decide +kernel
theorem dJ9_max_7cf53_10 : decode cJ9_max_7cf53 10 = .ok (.ireturn, 1) := by decide +kernel
theorem dJ9_min_7cf53_0 : decode cJ9_min_7cf53 0 = .ok (.iload_n 0, 1) := by decide +kernel
theorem dJ9_min_7cf53_1 : decode cJ9_min_7cf53 1 = .ok (.iload_n 1, 1) := by decide +kernel
theorem dJ9_min_7cf53_2 : decode cJ9_min_7cf53 2 = .ok (.if_icmp .gt 7, 3) := by decide +kernel
theorem dJ9_min_7cf53_5 : decode cJ9_min_7cf53 5 = .ok (.iload_n 0, 1) := by decide +kernel
theorem dJ9_min_7cf53_6 : decode cJ9_min_7cf53 6 = .ok (.goto 4, 3) := by decide +kernel
theorem dJ9_min_7cf53_9 : decode cJ9_min_7cf53 9 = .ok (.iload_n 1, 1) := by decide +kernel
theorem dJ9_min_7cf53_10 : decode cJ9_min_7cf53 10 = .ok (.ireturn, 1) := by decide +kernel
theorem dJ0_length_8abf5_0 : decode cJ0_length_8abf5 0 = .ok (.aload_n 0, 1) := by decide +kernel
theorem dJ0_length_8abf5_1 : decode cJ0_length_8abf5 1 = .ok (.getfield 9, 3) := by decide +kernel
theorem dJ0_length_8abf5_4 : decode cJ0_length_8abf5 4 = .ok (.arraylength, 1) := by decide +kernel
theorem dJ0_length_8abf5_5 : decode cJ0_length_8abf5 5 = .ok (.aload_n 0, 1) := by decide +kernel
theorem dJ0_length_8abf5_6 : decode cJ0_length_8abf5 6 = .ok (.invokevirtual 335, 3) := by decide +kernel
theorem dJ0_length_8abf5_9 : decode cJ0_length_8abf5 9 = .ok (.ishr, 1) := by decide +kernel
theorem dJ0_length_8abf5_10 : decode cJ0_length_8abf5 10 = .ok (.ireturn, 1) := by decide +kernel
theorem dJ0_charAt_5068e_0 : decode cJ0_charAt_5068e 0 = .ok (.aload_n 0, 1) := by decide +kernel
theorem dJ0_charAt_5068e_1 : decode cJ0_charAt_5068e 1 = .ok (.invokevirtual 492, 3) := by decide +kernel
theorem dJ0_charAt_5068e_4 : decode cJ0_charAt_5068e 4 = .ok (.ifCond .eq 12, 3) := by decide +kernel
theorem dJ0_charAt_5068e_7 : decode cJ0_charAt_5068e 7 = .ok (.aload_n 0, 1) := by decide +kernel
theorem dJ0_charAt_5068e_8 : decode cJ0_charAt_5068e 8 = .ok (.getfield 9, 3) := by decide +kernel
theorem dJ0_charAt_5068e_11 : decode cJ0_charAt_5068e 11 = .ok (.iload_n 1, 1) := by decide +kernel
theorem dJ0_charAt_5068e_12 : decode cJ0_charAt_5068e 12 = .ok (.invokestatic 495, 3) := by decide +kernel
theorem dJ0_charAt_5068e_15 : decode cJ0_charAt_5068e 15 = .ok (.ireturn, 1) := by decide +kernel
theorem dJ0_charAt_5068e_16 : decode cJ0_charAt_5068e 16 = .ok (.aload_n 0, 1) := by decide +kernel
theorem dJ0_charAt_5068e_17 : decode cJ0_charAt_5068e 17 = .ok (.getfield 9, 3) := by decide +kernel
theorem dJ0_charAt_5068e_20 : decode cJ0_charAt_5068e 20 = .ok (.iload_n 1, 1) := by decide +kernel
theorem dJ0_charAt_5068e_21 : decode cJ0_charAt_5068e 21 = .ok (.invokestatic 498, 3) := by decide +kernel
theorem dJ0_charAt_5068e_24 : decode cJ0_charAt_5068e 24 = .ok (.ireturn, 1) := by decide +kernel
theorem dJ0_coder_7d493_0 : decode cJ0_coder_7d493 0 = .ok (.getstatic 38, 3) := by decide +kernel
theorem dJ0_coder_7d493_3 : decode cJ0_coder_7d493 3 = .ok (.ifCond .eq 10, 3) := by decide +kernel
theorem dJ0_coder_7d493_6 : decode cJ0_coder_7d493 6 = .ok (.aload_n 0, 1) := by decide +kernel
theorem dJ0_coder_7d493_7 : decode cJ0_coder_7d493 7 = .ok (.getfield 15, 3) := by decide +kernel
theorem dJ0_coder_7d493_10 : decode cJ0_coder_7d493 10 = .ok (.goto 4, 3) := by decide +kernel
theorem dJ0_coder_7d493_13 : decode cJ0_coder_7d493 13 = .ok (.iconst 1, 1) := by decide +kernel
theorem dJ0_coder_7d493_14 : decode cJ0_coder_7d493 14 = .ok (.ireturn, 1) := by decide +kernel
theorem dJ0_isLatin1_aae02_0 : decode cJ0_isLatin1_aae02 0 = .ok (.getstatic 38, 3) := by decide +kernel
theorem dJ0_isLatin1_aae02_3 : decode cJ0_isLatin1_aae02 3 = .ok (.ifCond .eq 14, 3) := by decide +kernel
theorem dJ0_isLatin1_aae02_6 : decode cJ0_isLatin1_aae02 6 = .ok (.aload_n 0, 1) := by decide +kernel
theorem dJ0_isLatin1_aae02_7 : decode cJ0_isLatin1_aae02 7 = .ok (.getfield 15, 3) := by decide +kernel
theorem dJ0_isLatin1_aae02_10 : decode cJ0_isLatin1_aae02 10 = .ok (.ifCond .ne 7, 3) := by decide +kernel
theorem dJ0_isLatin1_aae02_13 : decode cJ0_isLatin1_aae02 13 = .ok (.iconst 1, 1) := by decide +kernel
theorem dJ0_isLatin1_aae02_14 : decode cJ0_isLatin1_aae02 14 = .ok (.goto 4, 3) := by decide +kernel
theorem dJ0_isLatin1_aae02_17 : decode cJ0_isLatin1_aae02 17 = .ok (.iconst 0, 1) := by decide +kernel
theorem dJ0_isLatin1_aae02_18 : decode cJ0_isLatin1_aae02 18 = .ok (.ireturn, 1) := by decide +kernel
theorem dJ0_checkIndex_df160_0 : decode cJ0_checkIndex_df160 0 = .ok (.iload_n 0, 1) := by decide +kernel
theorem dJ0_checkIndex_df160_1 : decode cJ0_checkIndex_df160 1 = .ok (.iload_n 1, 1) := by decide +kernel
theorem dJ0_checkIndex_df160_2 : decode cJ0_checkIndex_df160 2 = .ok (.getstatic 1053, 3) := by decide +kernel
theorem dJ0_checkIndex_df160_5 : decode cJ0_checkIndex_df160 5 = .ok (.invokestatic 1059, 3) := by decide +kernel
theorem dJ0_checkIndex_df160_8 : decode cJ0_checkIndex_df160 8 = .ok (.pop, 1) := by decide +kernel
theorem dJ0_checkIndex_df160_9 : decode cJ0_checkIndex_df160 9 = .ok (.return_, 1) := by decide +kernel
theorem dJ1_charAt_3b067_0 : decode cJ1_charAt_3b067 0 = .ok (.iload_n 1, 1) := by decide +kernel
theorem dJ1_charAt_3b067_1 : decode cJ1_charAt_3b067 1 = .ok (.aload_n 0, 1) := by decide +kernel
theorem dJ1_charAt_3b067_2 : decode cJ1_charAt_3b067 2 = .ok (.arraylength, 1) := by decide +kernel
theorem dJ1_charAt_3b067_3 : decode cJ1_charAt_3b067 3 = .ok (.invokestatic 9, 3) := by decide +kernel
theorem dJ1_charAt_3b067_6 : decode cJ1_charAt_3b067 6 = .ok (.aload_n 0, 1) := by decide +kernel
theorem dJ1_charAt_3b067_7 : decode cJ1_charAt_3b067 7 = .ok (.iload_n 1, 1) := by decide +kernel
theorem dJ1_charAt_3b067_8 : decode cJ1_charAt_3b067 8 = .ok (.baload, 1) := by decide +kernel
theorem dJ1_charAt_3b067_9 : decode cJ1_charAt_3b067 9 = .ok (.sipush 255, 3) := by decide +kernel
theorem dJ1_charAt_3b067_12 : decode cJ1_charAt_3b067 12 = .ok (.iand, 1) := by decide +kernel
theorem dJ1_charAt_3b067_13 : decode cJ1_charAt_3b067 13 = .ok (.i2c, 1) := by decide +kernel
theorem dJ1_charAt_3b067_14 : decode cJ1_charAt_3b067 14 = .ok (.ireturn, 1) := by decide +kernel
theorem dJ2_getChar_3b067_0 : decode cJ2_getChar_3b067 0 = .ok (.getstatic 44, 3) := by decide +kernel
theorem dJ2_getChar_3b067_3 : decode cJ2_getChar_3b067 3 = .ok (.ifCond .ne 25, 3) := by decide +kernel
theorem dJ2_getChar_3b067_6 : decode cJ2_getChar_3b067 6 = .ok (.iload_n 1, 1) := by decide +kernel
theorem dJ2_getChar_3b067_7 : decode cJ2_getChar_3b067 7 = .ok (.ifCond .lt 11, 3) := by decide +kernel
theorem dJ2_getChar_3b067_10 : decode cJ2_getChar_3b067 10 = .ok (.iload_n 1, 1) := by decide +kernel
theorem dJ2_getChar_3b067_11 : decode cJ2_getChar_3b067 11 = .ok (.aload_n 0, 1) := by decide +kernel
theorem dJ2_getChar_3b067_12 : decode cJ2_getChar_3b067 12 = .ok (.invokestatic 48, 3) := by decide +kernel
theorem dJ2_getChar_3b067_15 : decode cJ2_getChar_3b067 15 = .ok (.if_icmp .lt 13, 3) := by decide +kernel
theorem dJ2_getChar_3b067_18 : decode cJ2_getChar_3b067 18 = .ok (.new 52, 3) := by decide +kernel
theorem dJ2_getChar_3b067_21 : decode cJ2_getChar_3b067 21 = .ok (.dup, 1) := by decide +kernel
theorem dJ2_getChar_3b067_22 : decode cJ2_getChar_3b067 22 = .ok (.ldc 54, 2) := by decide +kernel
theorem dJ2_getChar_3b067_24 : decode cJ2_getChar_3b067 24 = .ok (.invokespecial 56, 3) := by decide +kernel
theorem dJ2_getChar_3b067_27 : decode cJ2_getChar_3b067 27 = .ok (.athrow, 1) := by decide +kernel
theorem dJ2_getChar_3b067_28 : decode cJ2_getChar_3b067 28 = .ok (.iload_n 1, 1) := by decide +kernel
theorem dJ2_getChar_3b067_29 : decode cJ2_getChar_3b067 29 = .ok (.iconst 1, 1) := by decide +kernel
theorem dJ2_getChar_3b067_30 : decode cJ2_getChar_3b067 30 = .ok (.ishl, 1) := by decide +kernel
theorem dJ2_getChar_3b067_31 : decode cJ2_getChar_3b067 31 = .ok (.istore_n 1, 1) := by decide +kernel
theorem dJ2_getChar_3b067_32 : decode cJ2_getChar_3b067 32 = .ok (.aload_n 0, 1) := by decide +kernel
theorem dJ2_getChar_3b067_33 : decode cJ2_getChar_3b067 33 = .ok (.iload_n 1, 1) := by decide +kernel
theorem dJ2_getChar_3b067_34 : decode cJ2_getChar_3b067 34 = .ok (.iinc 1 1, 3) := by decide +kernel
theorem dJ2_getChar_3b067_37 : decode cJ2_getChar_3b067 37 = .ok (.baload, 1) := by decide +kernel
theorem dJ2_getChar_3b067_38 : decode cJ2_getChar_3b067 38 = .ok (.sipush 255, 3) := by decide +kernel
theorem dJ2_getChar_3b067_41 : decode cJ2_getChar_3b067 41 = .ok (.iand, 1) := by decide +kernel
theorem dJ2_getChar_3b067_42 : decode cJ2_getChar_3b067 42 = .ok (.getstatic 59, 3) := by decide +kernel
theorem dJ2_getChar_3b067_45 : decode cJ2_getChar_3b067 45 = .ok (.ishl, 1) := by decide +kernel
theorem dJ2_getChar_3b067_46 : decode cJ2_getChar_3b067 46 = .ok (.aload_n 0, 1) := by decide +kernel
theorem dJ2_getChar_3b067_47 : decode cJ2_getChar_3b067 47 = .ok (.iload_n 1, 1) := by decide +kernel
theorem dJ2_getChar_3b067_48 : decode cJ2_getChar_3b067 48 = .ok (.baload, 1) := by decide +kernel
theorem dJ2_getChar_3b067_49 : decode cJ2_getChar_3b067 49 = .ok (.sipush 255, 3) := by decide +kernel
theorem dJ2_getChar_3b067_52 : decode cJ2_getChar_3b067 52 = .ok (.iand, 1) := by decide +kernel
theorem dJ2_getChar_3b067_53 : decode cJ2_getChar_3b067 53 = .ok (.getstatic 63, 3) := by decide +kernel
theorem dJ2_getChar_3b067_56 : decode cJ2_getChar_3b067 56 = .ok (.ishl, 1) := by decide +kernel
theorem dJ2_getChar_3b067_57 : decode cJ2_getChar_3b067 57 = .ok (.ior, 1) := by decide +kernel
theorem dJ2_getChar_3b067_58 : decode cJ2_getChar_3b067 58 = .ok (.i2c, 1) := by decide +kernel
theorem dJ2_getChar_3b067_59 : decode cJ2_getChar_3b067 59 = .ok (.ireturn, 1) := by decide +kernel
theorem dJ2_length_9d52b_0 : decode cJ2_length_9d52b 0 = .ok (.aload_n 0, 1) := by decide +kernel
theorem dJ2_length_9d52b_1 : decode cJ2_length_9d52b 1 = .ok (.arraylength, 1) := by decide +kernel
theorem dJ2_length_9d52b_2 : decode cJ2_length_9d52b 2 = .ok (.iconst 1, 1) := by decide +kernel
theorem dJ2_length_9d52b_3 : decode cJ2_length_9d52b 3 = .ok (.ishr, 1) := by decide +kernel
theorem dJ2_length_9d52b_4 : decode cJ2_length_9d52b 4 = .ok (.ireturn, 1) := by decide +kernel
theorem dJ2_charAt_3b067_0 : decode cJ2_charAt_3b067 0 = .ok (.iload_n 1, 1) := by decide +kernel
theorem dJ2_charAt_3b067_1 : decode cJ2_charAt_3b067 1 = .ok (.aload_n 0, 1) := by decide +kernel
theorem dJ2_charAt_3b067_2 : decode cJ2_charAt_3b067 2 = .ok (.invokestatic 67, 3) := by decide +kernel
theorem dJ2_charAt_3b067_5 : decode cJ2_charAt_3b067 5 = .ok (.aload_n 0, 1) := by decide +kernel
theorem dJ2_charAt_3b067_6 : decode cJ2_charAt_3b067 6 = .ok (.iload_n 1, 1) := by decide +kernel
theorem dJ2_charAt_3b067_7 : decode cJ2_charAt_3b067 7 = .ok (.invokestatic 71, 3) := by decide +kernel
theorem dJ2_charAt_3b067_10 : decode cJ2_charAt_3b067 10 = .ok (.ireturn, 1) := by decide +kernel
theorem dJ2_checkIndex_2214a_0 : decode cJ2_checkIndex_2214a 0 = .ok (.iload_n 0, 1) := by decide +kernel
theorem dJ2_checkIndex_2214a_1 : decode cJ2_checkIndex_2214a 1 = .ok (.aload_n 1, 1) := by decide +kernel
theorem dJ2_checkIndex_2214a_2 : decode cJ2_checkIndex_2214a 2 = .ok (.invokestatic 48, 3) := by decide +kernel
theorem dJ2_checkIndex_2214a_5 : decode cJ2_checkIndex_2214a 5 = .ok (.invokestatic 414, 3) := by decide +kernel
theorem dJ2_checkIndex_2214a_8 : decode cJ2_checkIndex_2214a 8 = .ok (.return_, 1) := by decide +kernel
theorem dJ3_checkIndex_8e157_0 : decode cJ3_checkIndex_8e157 0 = .ok (.iload_n 0, 1) := by decide +kernel
theorem dJ3_checkIndex_8e157_1 : decode cJ3_checkIndex_8e157 1 = .ok (.ifCond .lt 8, 3) := by decide +kernel
theorem dJ3_checkIndex_8e157_4 : decode cJ3_checkIndex_8e157 4 = .ok (.iload_n 0, 1) := by decide +kernel
theorem dJ3_checkIndex_8e157_5 : decode cJ3_checkIndex_8e157 5 = .ok (.iload_n 1, 1) := by decide +kernel
theorem dJ3_checkIndex_8e157_6 : decode cJ3_checkIndex_8e157 6 = .ok (.if_icmp .lt 10, 3) := by decide +kernel
theorem dJ3_checkIndex_8e157_9 : decode cJ3_checkIndex_8e157 9 = .ok (.aload_n 2, 1) := by decide +kernel
theorem dJ3_checkIndex_8e157_10 : decode cJ3_checkIndex_8e157 10 = .ok (.iload_n 0, 1) := by decide +kernel
theorem dJ3_checkIndex_8e157_11 : decode cJ3_checkIndex_8e157 11 = .ok (.iload_n 1, 1) := by decide +kernel
theorem dJ3_checkIndex_8e157_12 : decode cJ3_checkIndex_8e157 12 = .ok (.invokestatic 95, 3) := by decide +kernel
theorem dJ3_checkIndex_8e157_15 : decode cJ3_checkIndex_8e157 15 = .ok (.athrow, 1) := by decide +kernel
theorem dJ3_checkIndex_8e157_16 : decode cJ3_checkIndex_8e157 16 = .ok (.iload_n 0, 1) := by decide +kernel
theorem dJ3_checkIndex_8e157_17 : decode cJ3_checkIndex_8e157 17 = .ok (.ireturn, 1) := by decide +kernel
