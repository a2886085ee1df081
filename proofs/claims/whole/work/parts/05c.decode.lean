theorem dX11_best_1 : decode mX11_best.2.1 1 = .ok (.iconst 0, 1) := by decide +kernel
theorem dX11_best_2 : decode mX11_best.2.1 2 = .ok (.putfield 1, 3) := by decide +kernel
theorem dX11_best_5 : decode mX11_best.2.1 5 = .ok (.aload_n 0, 1) := by decide +kernel
theorem dX11_best_6 : decode mX11_best.2.1 6 = .ok (.iload_n 1, 1) := by decide +kernel
theorem dX11_best_7 : decode mX11_best.2.1 7 = .ok (.iload_n 2, 1) := by decide +kernel
theorem dX11_best_8 : decode mX11_best.2.1 8 = .ok (.invokevirtual 226, 3) := by decide +kernel
theorem dX11_best_11 : decode mX11_best.2.1 11 = .ok (.ifCond .eq 10, 3) := by decide +kernel
theorem dX11_best_14 : decode mX11_best.2.1 14 = .ok (.aload_n 0, 1) := by decide +kernel
theorem dX11_best_15 : decode mX11_best.2.1 15 = .ok (.getfield 216, 3) := by decide +kernel
theorem dX11_best_18 : decode mX11_best.2.1 18 = .ok (.goto 4, 3) := by decide +kernel
theorem dX11_best_21 : decode mX11_best.2.1 21 = .ok (.iconst (-1), 1) := by decide +kernel
theorem dX11_best_22 : decode mX11_best.2.1 22 = .ok (.ireturn, 1) := by decide +kernel
theorem dX11_bestOf_0 : decode mX11_bestOf.2.1 0 = .ok (.aload_n 0, 1) := by decide +kernel
theorem dX11_bestOf_1 : decode mX11_bestOf.2.1 1 = .ok (.iconst 0, 1) := by decide +kernel
theorem dX11_bestOf_2 : decode mX11_bestOf.2.1 2 = .ok (.putfield 1, 3) := by decide +kernel
theorem dX11_bestOf_5 : decode mX11_bestOf.2.1 5 = .ok (.aload_n 0, 1) := by decide +kernel
theorem dX11_bestOf_6 : decode mX11_bestOf.2.1 6 = .ok (.iload_n 1, 1) := by decide +kernel
theorem dX11_bestOf_7 : decode mX11_bestOf.2.1 7 = .ok (.iload_n 2, 1) := by decide +kernel
theorem dX11_bestOf_8 : decode mX11_bestOf.2.1 8 = .ok (.invokevirtual 226, 3) := by decide +kernel
theorem dX11_bestOf_11 : decode mX11_bestOf.2.1 11 = .ok (.ifCond .ne 5, 3) := by decide +kernel
theorem dX11_bestOf_14 : decode mX11_bestOf.2.1 14 = .ok (.iconst (-1), 1) := by decide +kernel
theorem dX11_bestOf_15 : decode mX11_bestOf.2.1 15 = .ok (.ireturn, 1) := by decide +kernel
theorem dX11_bestOf_16 : decode mX11_bestOf.2.1 16 = .ok (.iconst 0, 1) := by decide +kernel
theorem dX11_bestOf_17 : decode mX11_bestOf.2.1 17 = .ok (.istore 4, 2) := by decide +kernel
theorem dX11_bestOf_19 : decode mX11_bestOf.2.1 19 = .ok (.iload 4, 2) := by decide +kernel
theorem dX11_bestOf_21 : decode mX11_bestOf.2.1 21 = .ok (.aload_n 0, 1) := by decide +kernel
theorem dX11_bestOf_22 : decode mX11_bestOf.2.1 22 = .ok (.getfield 213, 3) := by decide +kernel
theorem dX11_bestOf_25 : decode mX11_bestOf.2.1 25 = .ok (.if_icmp .ge 28, 3) := by decide +kernel
theorem dX11_bestOf_28 : decode mX11_bestOf.2.1 28 = .ok (.aload_n 0, 1) := by decide +kernel
theorem dX11_bestOf_29 : decode mX11_bestOf.2.1 29 = .ok (.getfield 99, 3) := by decide +kernel
theorem dX11_bestOf_32 : decode mX11_bestOf.2.1 32 = .ok (.iload 4, 2) := by decide +kernel
theorem dX11_bestOf_34 : decode mX11_bestOf.2.1 34 = .ok (.iaload, 1) := by decide +kernel
theorem dX11_bestOf_35 : decode mX11_bestOf.2.1 35 = .ok (.iload_n 3, 1) := by decide +kernel
theorem dX11_bestOf_36 : decode mX11_bestOf.2.1 36 = .ok (.if_icmp .ne 11, 3) := by decide +kernel
theorem dX11_bestOf_39 : decode mX11_bestOf.2.1 39 = .ok (.aload_n 0, 1) := by decide +kernel
theorem dX11_bestOf_40 : decode mX11_bestOf.2.1 40 = .ok (.getfield 105, 3) := by decide +kernel
theorem dX11_bestOf_43 : decode mX11_bestOf.2.1 43 = .ok (.iload 4, 2) := by decide +kernel
theorem dX11_bestOf_45 : decode mX11_bestOf.2.1 45 = .ok (.iaload, 1) := by decide +kernel
theorem dX11_bestOf_46 : decode mX11_bestOf.2.1 46 = .ok (.ireturn, 1) := by decide +kernel
theorem dX11_bestOf_47 : decode mX11_bestOf.2.1 47 = .ok (.iinc 4 1, 3) := by decide +kernel
theorem dX11_bestOf_50 : decode mX11_bestOf.2.1 50 = .ok (.goto (-31), 3) := by decide +kernel
theorem dX11_bestOf_53 : decode mX11_bestOf.2.1 53 = .ok (.iconst (-1), 1) := by decide +kernel
theorem dX11_bestOf_54 : decode mX11_bestOf.2.1 54 = .ok (.ireturn, 1) := by decide +kernel
theorem dX11_brought_0 : decode mX11_brought.2.1 0 = .ok (.aload_n 0, 1) := by decide +kernel
theorem dX11_brought_1 : decode mX11_brought.2.1 1 = .ok (.iconst 0, 1) := by decide +kernel
theorem dX11_brought_2 : decode mX11_brought.2.1 2 = .ok (.putfield 1, 3) := by decide +kernel
theorem dX11_brought_5 : decode mX11_brought.2.1 5 = .ok (.aload_n 0, 1) := by decide +kernel
theorem dX11_brought_6 : decode mX11_brought.2.1 6 = .ok (.iload_n 1, 1) := by decide +kernel
theorem dX11_brought_7 : decode mX11_brought.2.1 7 = .ok (.invokevirtual 175, 3) := by decide +kernel
theorem dX11_brought_10 : decode mX11_brought.2.1 10 = .ok (.ifCond .eq 13, 3) := by decide +kernel
theorem dX11_brought_13 : decode mX11_brought.2.1 13 = .ok (.aload_n 0, 1) := by decide +kernel
theorem dX11_brought_14 : decode mX11_brought.2.1 14 = .ok (.getfield 69, 3) := by decide +kernel
theorem dX11_brought_17 : decode mX11_brought.2.1 17 = .ok (.iload_n 1, 1) := by decide +kernel
theorem dX11_brought_18 : decode mX11_brought.2.1 18 = .ok (.iaload, 1) := by decide +kernel
theorem dX11_brought_19 : decode mX11_brought.2.1 19 = .ok (.iconst 2, 1) := by decide +kernel
theorem dX11_brought_20 : decode mX11_brought.2.1 20 = .ok (.if_icmp .eq 10, 3) := by decide +kernel
theorem dX11_brought_23 : decode mX11_brought.2.1 23 = .ok (.aload_n 0, 1) := by decide +kernel
theorem dX11_brought_24 : decode mX11_brought.2.1 24 = .ok (.iconst 1, 1) := by decide +kernel
theorem dX11_brought_25 : decode mX11_brought.2.1 25 = .ok (.putfield 1, 3) := by decide +kernel
theorem dX11_brought_28 : decode mX11_brought.2.1 28 = .ok (.iconst 0, 1) := by decide +kernel
theorem dX11_brought_29 : decode mX11_brought.2.1 29 = .ok (.ireturn, 1) := by decide +kernel
theorem dX11_brought_30 : decode mX11_brought.2.1 30 = .ok (.aload_n 0, 1) := by decide +kernel
theorem dX11_brought_31 : decode mX11_brought.2.1 31 = .ok (.iload_n 1, 1) := by decide +kernel
theorem dX11_brought_32 : decode mX11_brought.2.1 32 = .ok (.invokevirtual 324, 3) := by decide +kernel
theorem dX11_brought_35 : decode mX11_brought.2.1 35 = .ok (.ireturn, 1) := by decide +kernel
theorem dX11_change_0 : decode mX11_change.2.1 0 = .ok (.aload_n 0, 1) := by decide +kernel
theorem dX11_change_1 : decode mX11_change.2.1 1 = .ok (.getfield 90, 3) := by decide +kernel
theorem dX11_change_4 : decode mX11_change.2.1 4 = .ok (.aload_n 0, 1) := by decide +kernel
theorem dX11_change_5 : decode mX11_change.2.1 5 = .ok (.getfield 162, 3) := by decide +kernel
theorem dX11_change_8 : decode mX11_change.2.1 8 = .ok (.iload_n 1, 1) := by decide +kernel
theorem dX11_change_9 : decode mX11_change.2.1 9 = .ok (.iastore, 1) := by decide +kernel
theorem dX11_change_10 : decode mX11_change.2.1 10 = .ok (.aload_n 0, 1) := by decide +kernel
theorem dX11_change_11 : decode mX11_change.2.1 11 = .ok (.getfield 93, 3) := by decide +kernel
theorem dX11_change_14 : decode mX11_change.2.1 14 = .ok (.aload_n 0, 1) := by decide +kernel
theorem dX11_change_15 : decode mX11_change.2.1 15 = .ok (.getfield 162, 3) := by decide +kernel
theorem dX11_change_18 : decode mX11_change.2.1 18 = .ok (.aload_n 0, 1) := by decide +kernel
theorem dX11_change_19 : decode mX11_change.2.1 19 = .ok (.getfield 150, 3) := by decide +kernel
theorem dX11_change_22 : decode mX11_change.2.1 22 = .ok (.iastore, 1) := by decide +kernel
theorem dX11_change_23 : decode mX11_change.2.1 23 = .ok (.aload_n 0, 1) := by decide +kernel
theorem dX11_change_24 : decode mX11_change.2.1 24 = .ok (.getfield 96, 3) := by decide +kernel
theorem dX11_change_27 : decode mX11_change.2.1 27 = .ok (.aload_n 0, 1) := by decide +kernel
theorem dX11_change_28 : decode mX11_change.2.1 28 = .ok (.getfield 162, 3) := by decide +kernel
theorem dX11_change_31 : decode mX11_change.2.1 31 = .ok (.iload_n 2, 1) := by decide +kernel
theorem dX11_change_32 : decode mX11_change.2.1 32 = .ok (.iastore, 1) := by decide +kernel
theorem dX11_change_33 : decode mX11_change.2.1 33 = .ok (.aload_n 0, 1) := by decide +kernel
theorem dX11_change_34 : decode mX11_change.2.1 34 = .ok (.dup, 1) := by decide +kernel
theorem dX11_change_35 : decode mX11_change.2.1 35 = .ok (.getfield 162, 3) := by decide +kernel
theorem dX11_change_38 : decode mX11_change.2.1 38 = .ok (.iconst 1, 1) := by decide +kernel
theorem dX11_change_39 : decode mX11_change.2.1 39 = .ok (.iadd, 1) := by decide +kernel
theorem dX11_change_40 : decode mX11_change.2.1 40 = .ok (.putfield 162, 3) := by decide +kernel
theorem dX11_change_43 : decode mX11_change.2.1 43 = .ok (.return_, 1) := by decide +kernel
theorem dX11_count_0 : decode mX11_count.2.1 0 = .ok (.aload_n 0, 1) := by decide +kernel
theorem dX11_count_1 : decode mX11_count.2.1 1 = .ok (.iconst 0, 1) := by decide +kernel
theorem dX11_count_2 : decode mX11_count.2.1 2 = .ok (.putfield 1, 3) := by decide +kernel
theorem dX11_count_5 : decode mX11_count.2.1 5 = .ok (.iload_n 1, 1) := by decide +kernel
theorem dX11_count_6 : decode mX11_count.2.1 6 = .ok (.tableswitch 106 0 9 #[54, 59, 64, 69, 74, 79, 84, 89, 95, 101], 54) := by decide +kernel
theorem dX11_count_60 : decode mX11_count.2.1 60 = .ok (.aload_n 0, 1) := by decide +kernel
theorem dX11_count_61 : decode mX11_count.2.1 61 = .ok (.getfield 150, 3) := by decide +kernel
theorem dX11_count_64 : decode mX11_count.2.1 64 = .ok (.ireturn, 1) := by decide +kernel
theorem dX11_count_65 : decode mX11_count.2.1 65 = .ok (.aload_n 0, 1) := by decide +kernel
theorem dX11_count_66 : decode mX11_count.2.1 66 = .ok (.getfield 136, 3) := by decide +kernel
theorem dX11_count_69 : decode mX11_count.2.1 69 = .ok (.ireturn, 1) := by decide +kernel
theorem dX11_count_70 : decode mX11_count.2.1 70 = .ok (.aload_n 0, 1) := by decide +kernel
theorem dX11_count_71 : decode mX11_count.2.1 71 = .ok (.getfield 159, 3) := by decide +kernel
theorem dX11_count_74 : decode mX11_count.2.1 74 = .ok (.ireturn, 1) := by decide +kernel
theorem dX11_count_75 : decode mX11_count.2.1 75 = .ok (.aload_n 0, 1) := by decide +kernel
theorem dX11_count_76 : decode mX11_count.2.1 76 = .ok (.getfield 165, 3) := by decide +kernel
theorem dX11_count_79 : decode mX11_count.2.1 79 = .ok (.ireturn, 1) := by decide +kernel
theorem dX11_count_80 : decode mX11_count.2.1 80 = .ok (.aload_n 0, 1) := by decide +kernel
theorem dX11_count_81 : decode mX11_count.2.1 81 = .ok (.getfield 147, 3) := by decide +kernel
theorem dX11_count_84 : decode mX11_count.2.1 84 = .ok (.ireturn, 1) := by decide +kernel
theorem dX11_count_85 : decode mX11_count.2.1 85 = .ok (.aload_n 0, 1) := by decide +kernel
theorem dX11_count_86 : decode mX11_count.2.1 86 = .ok (.getfield 313, 3) := by decide +kernel
theorem dX11_count_89 : decode mX11_count.2.1 89 = .ok (.ireturn, 1) := by decide +kernel
theorem dX11_count_90 : decode mX11_count.2.1 90 = .ok (.aload_n 0, 1) := by decide +kernel
theorem dX11_count_91 : decode mX11_count.2.1 91 = .ok (.getfield 230, 3) := by decide +kernel
theorem dX11_count_94 : decode mX11_count.2.1 94 = .ok (.ireturn, 1) := by decide +kernel
theorem dX11_count_95 : decode mX11_count.2.1 95 = .ok (.aload_n 0, 1) := by decide +kernel
theorem dX11_count_96 : decode mX11_count.2.1 96 = .ok (.iconst 0, 1) := by decide +kernel
theorem dX11_count_97 : decode mX11_count.2.1 97 = .ok (.invokevirtual 330, 3) := by decide +kernel
theorem dX11_count_100 : decode mX11_count.2.1 100 = .ok (.ireturn, 1) := by decide +kernel
theorem dX11_count_101 : decode mX11_count.2.1 101 = .ok (.aload_n 0, 1) := by decide +kernel
theorem dX11_count_102 : decode mX11_count.2.1 102 = .ok (.iconst 2, 1) := by decide +kernel
theorem dX11_count_103 : decode mX11_count.2.1 103 = .ok (.invokevirtual 330, 3) := by decide +kernel
theorem dX11_count_106 : decode mX11_count.2.1 106 = .ok (.ireturn, 1) := by decide +kernel
theorem dX11_count_107 : decode mX11_count.2.1 107 = .ok (.aload_n 0, 1) := by decide +kernel
theorem dX11_count_108 : decode mX11_count.2.1 108 = .ok (.invokevirtual 333, 3) := by decide +kernel
theorem dX11_count_111 : decode mX11_count.2.1 111 = .ok (.ireturn, 1) := by decide +kernel
theorem dX11_count_112 : decode mX11_count.2.1 112 = .ok (.iconst (-1), 1) := by decide +kernel
theorem dX11_count_113 : decode mX11_count.2.1 113 = .ok (.ireturn, 1) := by decide +kernel
theorem dX11_down_0 : decode mX11_down.2.1 0 = .ok (.aload_n 0, 1) := by decide +kernel
theorem dX11_down_1 : decode mX11_down.2.1 1 = .ok (.iconst 0, 1) := by decide +kernel
theorem dX11_down_2 : decode mX11_down.2.1 2 = .ok (.putfield 1, 3) := by decide +kernel
theorem dX11_down_5 : decode mX11_down.2.1 5 = .ok (.aload_n 0, 1) := by decide +kernel
theorem dX11_down_6 : decode mX11_down.2.1 6 = .ok (.iload_n 1, 1) := by decide +kernel
theorem dX11_down_7 : decode mX11_down.2.1 7 = .ok (.invokevirtual 175, 3) := by decide +kernel
theorem dX11_down_10 : decode mX11_down.2.1 10 = .ok (.ifCond .ne 5, 3) := by decide +kernel
theorem dX11_down_13 : decode mX11_down.2.1 13 = .ok (.iconst (-1), 1) := by decide +kernel
theorem dX11_down_14 : decode mX11_down.2.1 14 = .ok (.ireturn, 1) := by decide +kernel
theorem dX11_down_15 : decode mX11_down.2.1 15 = .ok (.aload_n 0, 1) := by decide +kernel
theorem dX11_down_16 : decode mX11_down.2.1 16 = .ok (.getfield 69, 3) := by decide +kernel
theorem dX11_down_19 : decode mX11_down.2.1 19 = .ok (.iload_n 1, 1) := by decide +kernel
theorem dX11_down_20 : decode mX11_down.2.1 20 = .ok (.iaload, 1) := by decide +kernel
theorem dX11_down_21 : decode mX11_down.2.1 21 = .ok (.iconst 1, 1) := by decide +kernel
theorem dX11_down_22 : decode mX11_down.2.1 22 = .ok (.if_icmp .eq 6, 3) := by decide +kernel
theorem dX11_down_25 : decode mX11_down.2.1 25 = .ok (.bipush (-2), 2) := by decide +kernel
theorem dX11_down_27 : decode mX11_down.2.1 27 = .ok (.ireturn, 1) := by decide +kernel
theorem dX11_down_28 : decode mX11_down.2.1 28 = .ok (.aload_n 0, 1) := by decide +kernel
theorem dX11_down_29 : decode mX11_down.2.1 29 = .ok (.getfield 75, 3) := by decide +kernel
theorem dX11_down_32 : decode mX11_down.2.1 32 = .ok (.iload_n 1, 1) := by decide +kernel
theorem dX11_down_33 : decode mX11_down.2.1 33 = .ok (.iaload, 1) := by decide +kernel
theorem dX11_down_34 : decode mX11_down.2.1 34 = .ok (.iconst 3, 1) := by decide +kernel
theorem dX11_down_35 : decode mX11_down.2.1 35 = .ok (.idiv, 1) := by decide +kernel
theorem dX11_down_36 : decode mX11_down.2.1 36 = .ok (.istore_n 2, 1) := by decide +kernel
theorem dX11_down_37 : decode mX11_down.2.1 37 = .ok (.aload_n 0, 1) := by decide +kernel
theorem dX11_down_38 : decode mX11_down.2.1 38 = .ok (.getfield 36, 3) := by decide +kernel
theorem dX11_down_41 : decode mX11_down.2.1 41 = .ok (.iload_n 2, 1) := by decide +kernel
theorem dX11_down_42 : decode mX11_down.2.1 42 = .ok (.iaload, 1) := by decide +kernel
theorem dX11_down_43 : decode mX11_down.2.1 43 = .ok (.iconst (-1), 1) := by decide +kernel
theorem dX11_down_44 : decode mX11_down.2.1 44 = .ok (.if_icmp .ne 6, 3) := by decide +kernel
theorem dX11_down_47 : decode mX11_down.2.1 47 = .ok (.bipush (-3), 2) := by decide +kernel
theorem dX11_down_49 : decode mX11_down.2.1 49 = .ok (.ireturn, 1) := by decide +kernel
theorem dX11_down_50 : decode mX11_down.2.1 50 = .ok (.aload_n 0, 1) := by decide +kernel
theorem dX11_down_51 : decode mX11_down.2.1 51 = .ok (.getfield 72, 3) := by decide +kernel
theorem dX11_down_54 : decode mX11_down.2.1 54 = .ok (.iload_n 1, 1) := by decide +kernel
theorem dX11_down_55 : decode mX11_down.2.1 55 = .ok (.aload_n 0, 1) := by decide +kernel
theorem dX11_down_56 : decode mX11_down.2.1 56 = .ok (.getfield 36, 3) := by decide +kernel
theorem dX11_down_59 : decode mX11_down.2.1 59 = .ok (.iload_n 2, 1) := by decide +kernel
theorem dX11_down_60 : decode mX11_down.2.1 60 = .ok (.iaload, 1) := by decide +kernel
theorem dX11_down_61 : decode mX11_down.2.1 61 = .ok (.iastore, 1) := by decide +kernel
theorem dX11_down_62 : decode mX11_down.2.1 62 = .ok (.aload_n 0, 1) := by decide +kernel
theorem dX11_down_63 : decode mX11_down.2.1 63 = .ok (.getfield 69, 3) := by decide +kernel
theorem dX11_down_66 : decode mX11_down.2.1 66 = .ok (.iload_n 1, 1) := by decide +kernel
theorem dX11_down_67 : decode mX11_down.2.1 67 = .ok (.aload_n 0, 1) := by decide +kernel
theorem dX11_down_68 : decode mX11_down.2.1 68 = .ok (.getfield 72, 3) := by decide +kernel
theorem dX11_down_71 : decode mX11_down.2.1 71 = .ok (.iload_n 1, 1) := by decide +kernel
theorem dX11_down_72 : decode mX11_down.2.1 72 = .ok (.iaload, 1) := by decide +kernel
theorem dX11_down_73 : decode mX11_down.2.1 73 = .ok (.aload_n 0, 1) := by decide +kernel
theorem dX11_down_74 : decode mX11_down.2.1 74 = .ok (.getfield 66, 3) := by decide +kernel
theorem dX11_down_77 : decode mX11_down.2.1 77 = .ok (.iload_n 1, 1) := by decide +kernel
theorem dX11_down_78 : decode mX11_down.2.1 78 = .ok (.iaload, 1) := by decide +kernel
theorem dX11_down_79 : decode mX11_down.2.1 79 = .ok (.if_icmp .ne 7, 3) := by decide +kernel
theorem dX11_down_82 : decode mX11_down.2.1 82 = .ok (.iconst 2, 1) := by decide +kernel
theorem dX11_down_83 : decode mX11_down.2.1 83 = .ok (.goto 4, 3) := by decide +kernel
theorem dX11_down_86 : decode mX11_down.2.1 86 = .ok (.iconst 0, 1) := by decide +kernel
theorem dX11_down_87 : decode mX11_down.2.1 87 = .ok (.iastore, 1) := by decide +kernel
theorem dX11_down_88 : decode mX11_down.2.1 88 = .ok (.aload_n 0, 1) := by decide +kernel
theorem dX11_down_89 : decode mX11_down.2.1 89 = .ok (.getfield 84, 3) := by decide +kernel
theorem dX11_down_92 : decode mX11_down.2.1 92 = .ok (.iload_n 1, 1) := by decide +kernel
theorem dX11_down_93 : decode mX11_down.2.1 93 = .ok (.aload_n 0, 1) := by decide +kernel
theorem dX11_down_94 : decode mX11_down.2.1 94 = .ok (.getfield 150, 3) := by decide +kernel
theorem dX11_down_97 : decode mX11_down.2.1 97 = .ok (.iastore, 1) := by decide +kernel
theorem dX11_down_98 : decode mX11_down.2.1 98 = .ok (.aload_n 0, 1) := by decide +kernel
theorem dX11_down_99 : decode mX11_down.2.1 99 = .ok (.iload_n 1, 1) := by decide +kernel
theorem dX11_down_100 : decode mX11_down.2.1 100 = .ok (.aload_n 0, 1) := by decide +kernel
theorem dX11_down_101 : decode mX11_down.2.1 101 = .ok (.getfield 72, 3) := by decide +kernel
theorem dX11_down_104 : decode mX11_down.2.1 104 = .ok (.iload_n 1, 1) := by decide +kernel
theorem dX11_down_105 : decode mX11_down.2.1 105 = .ok (.iaload, 1) := by decide +kernel
theorem dX11_down_106 : decode mX11_down.2.1 106 = .ok (.invokevirtual 168, 3) := by decide +kernel
theorem dX11_down_109 : decode mX11_down.2.1 109 = .ok (.aload_n 0, 1) := by decide +kernel
theorem dX11_down_110 : decode mX11_down.2.1 110 = .ok (.getfield 69, 3) := by decide +kernel
theorem dX11_down_113 : decode mX11_down.2.1 113 = .ok (.iload_n 1, 1) := by decide +kernel
theorem dX11_down_114 : decode mX11_down.2.1 114 = .ok (.iaload, 1) := by decide +kernel
theorem dX11_down_115 : decode mX11_down.2.1 115 = .ok (.iconst 2, 1) := by decide +kernel
theorem dX11_down_116 : decode mX11_down.2.1 116 = .ok (.if_icmp .ne 7, 3) := by decide +kernel
theorem dX11_down_119 : decode mX11_down.2.1 119 = .ok (.iconst 1, 1) := by decide +kernel
theorem dX11_down_120 : decode mX11_down.2.1 120 = .ok (.goto 4, 3) := by decide +kernel
theorem dX11_down_123 : decode mX11_down.2.1 123 = .ok (.iconst 0, 1) := by decide +kernel
theorem dX11_down_124 : decode mX11_down.2.1 124 = .ok (.ireturn, 1) := by decide +kernel
theorem dX11_end_0 : decode mX11_end.2.1 0 = .ok (.aload_n 0, 1) := by decide +kernel
theorem dX11_end_1 : decode mX11_end.2.1 1 = .ok (.iconst 0, 1) := by decide +kernel
theorem dX11_end_2 : decode mX11_end.2.1 2 = .ok (.putfield 1, 3) := by decide +kernel
theorem dX11_end_5 : decode mX11_end.2.1 5 = .ok (.iload_n 1, 1) := by decide +kernel
theorem dX11_end_6 : decode mX11_end.2.1 6 = .ok (.ifCond .lt 11, 3) := by decide +kernel
theorem dX11_end_9 : decode mX11_end.2.1 9 = .ok (.iload_n 1, 1) := by decide +kernel
theorem dX11_end_10 : decode mX11_end.2.1 10 = .ok (.aload_n 0, 1) := by decide +kernel
theorem dX11_end_11 : decode mX11_end.2.1 11 = .ok (.getfield 230, 3) := by decide +kernel
theorem dX11_end_14 : decode mX11_end.2.1 14 = .ok (.if_icmp .le 5, 3) := by decide +kernel
theorem dX11_end_17 : decode mX11_end.2.1 17 = .ok (.iconst (-1), 1) := by decide +kernel
theorem dX11_end_18 : decode mX11_end.2.1 18 = .ok (.ireturn, 1) := by decide +kernel
theorem dX11_end_19 : decode mX11_end.2.1 19 = .ok (.aload_n 0, 1) := by decide +kernel
theorem dX11_end_20 : decode mX11_end.2.1 20 = .ok (.iload_n 1, 1) := by decide +kernel
theorem dX11_end_21 : decode mX11_end.2.1 21 = .ok (.putfield 230, 3) := by decide +kernel
theorem dX11_end_24 : decode mX11_end.2.1 24 = .ok (.iload_n 1, 1) := by decide +kernel
theorem dX11_end_25 : decode mX11_end.2.1 25 = .ok (.ireturn, 1) := by decide +kernel
theorem dX11_fails_0 : decode mX11_fails.2.1 0 = .ok (.aload_n 0, 1) := by decide +kernel
theorem dX11_fails_1 : decode mX11_fails.2.1 1 = .ok (.getfield 264, 3) := by decide +kernel
theorem dX11_fails_4 : decode mX11_fails.2.1 4 = .ok (.ifCond .eq 4, 3) := by decide +kernel
theorem dX11_fails_7 : decode mX11_fails.2.1 7 = .ok (.return_, 1) := by decide +kernel
theorem dX11_fails_8 : decode mX11_fails.2.1 8 = .ok (.aload_n 0, 1) := by decide +kernel
theorem dX11_fails_9 : decode mX11_fails.2.1 9 = .ok (.iload_n 1, 1) := by decide +kernel
theorem dX11_fails_10 : decode mX11_fails.2.1 10 = .ok (.putfield 264, 3) := by decide +kernel
theorem dX11_fails_13 : decode mX11_fails.2.1 13 = .ok (.aload_n 0, 1) := by decide +kernel
theorem dX11_fails_14 : decode mX11_fails.2.1 14 = .ok (.aload_n 0, 1) := by decide +kernel
theorem dX11_fails_15 : decode mX11_fails.2.1 15 = .ok (.getfield 236, 3) := by decide +kernel
theorem dX11_fails_18 : decode mX11_fails.2.1 18 = .ok (.putfield 267, 3) := by decide +kernel
theorem dX11_fails_21 : decode mX11_fails.2.1 21 = .ok (.return_, 1) := by decide +kernel
theorem dX11_feed_0 : decode mX11_feed.2.1 0 = .ok (.aload_n 0, 1) := by decide +kernel
theorem dX11_feed_1 : decode mX11_feed.2.1 1 = .ok (.iconst 0, 1) := by decide +kernel
theorem dX11_feed_2 : decode mX11_feed.2.1 2 = .ok (.putfield 1, 3) := by decide +kernel
theorem dX11_feed_5 : decode mX11_feed.2.1 5 = .ok (.aload_n 0, 1) := by decide +kernel
theorem dX11_feed_6 : decode mX11_feed.2.1 6 = .ok (.getfield 230, 3) := by decide +kernel
theorem dX11_feed_9 : decode mX11_feed.2.1 9 = .ok (.bipush 20, 2) := by decide +kernel
theorem dX11_feed_11 : decode mX11_feed.2.1 11 = .ok (.iadd, 1) := by decide +kernel
theorem dX11_feed_12 : decode mX11_feed.2.1 12 = .ok (.sipush 400, 3) := by decide +kernel
theorem dX11_feed_15 : decode mX11_feed.2.1 15 = .ok (.if_icmp .le 5, 3) := by decide +kernel
theorem dX11_feed_18 : decode mX11_feed.2.1 18 = .ok (.iconst (-1), 1) := by decide +kernel
theorem dX11_feed_19 : decode mX11_feed.2.1 19 = .ok (.ireturn, 1) := by decide +kernel
theorem dX11_feed_20 : decode mX11_feed.2.1 20 = .ok (.iconst 0, 1) := by decide +kernel
theorem dX11_feed_21 : decode mX11_feed.2.1 21 = .ok (.istore 6, 2) := by decide +kernel
theorem dX11_feed_23 : decode mX11_feed.2.1 23 = .ok (.iload 6, 2) := by decide +kernel
theorem dX11_feed_25 : decode mX11_feed.2.1 25 = .ok (.bipush 20, 2) := by decide +kernel
theorem dX11_feed_27 : decode mX11_feed.2.1 27 = .ok (.if_icmp .ge 90, 3) := by decide +kernel
theorem dX11_feed_30 : decode mX11_feed.2.1 30 = .ok (.iload 6, 2) := by decide +kernel
theorem dX11_feed_32 : decode mX11_feed.2.1 32 = .ok (.iconst 4, 1) := by decide +kernel
theorem dX11_feed_33 : decode mX11_feed.2.1 33 = .ok (.if_icmp .ge 7, 3) := by decide +kernel
theorem dX11_feed_36 : decode mX11_feed.2.1 36 = .ok (.iload_n 1, 1) := by decide +kernel
theorem dX11_feed_37 : decode mX11_feed.2.1 37 = .ok (.goto 39, 3) := by decide +kernel
theorem dX11_feed_40 : decode mX11_feed.2.1 40 = .ok (.iload 6, 2) := by decide +kernel
theorem dX11_feed_42 : decode mX11_feed.2.1 42 = .ok (.bipush 8, 2) := by decide +kernel
theorem dX11_feed_44 : decode mX11_feed.2.1 44 = .ok (.if_icmp .ge 7, 3) := by decide +kernel
theorem dX11_feed_47 : decode mX11_feed.2.1 47 = .ok (.iload_n 2, 1) := by decide +kernel
theorem dX11_feed_48 : decode mX11_feed.2.1 48 = .ok (.goto 28, 3) := by decide +kernel
theorem dX11_feed_51 : decode mX11_feed.2.1 51 = .ok (.iload 6, 2) := by decide +kernel
theorem dX11_feed_53 : decode mX11_feed.2.1 53 = .ok (.bipush 12, 2) := by decide +kernel
theorem dX11_feed_55 : decode mX11_feed.2.1 55 = .ok (.if_icmp .ge 7, 3) := by decide +kernel
theorem dX11_feed_58 : decode mX11_feed.2.1 58 = .ok (.iload_n 3, 1) := by decide +kernel
theorem dX11_feed_59 : decode mX11_feed.2.1 59 = .ok (.goto 17, 3) := by decide +kernel
theorem dX11_feed_62 : decode mX11_feed.2.1 62 = .ok (.iload 6, 2) := by decide +kernel
theorem dX11_feed_64 : decode mX11_feed.2.1 64 = .ok (.bipush 16, 2) := by decide +kernel
theorem dX11_feed_66 : decode mX11_feed.2.1 66 = .ok (.if_icmp .ge 8, 3) := by decide +kernel
theorem dX11_feed_69 : decode mX11_feed.2.1 69 = .ok (.iload 4, 2) := by decide +kernel
theorem dX11_feed_71 : decode mX11_feed.2.1 71 = .ok (.goto 5, 3) := by decide +kernel
theorem dX11_feed_74 : decode mX11_feed.2.1 74 = .ok (.iload 5, 2) := by decide +kernel
theorem dX11_feed_76 : decode mX11_feed.2.1 76 = .ok (.istore 7, 2) := by decide +kernel
theorem dX11_feed_78 : decode mX11_feed.2.1 78 = .ok (.aload_n 0, 1) := by decide +kernel
theorem dX11_feed_79 : decode mX11_feed.2.1 79 = .ok (.getfield 108, 3) := by decide +kernel
theorem dX11_feed_82 : decode mX11_feed.2.1 82 = .ok (.aload_n 0, 1) := by decide +kernel
theorem dX11_feed_83 : decode mX11_feed.2.1 83 = .ok (.getfield 230, 3) := by decide +kernel
theorem dX11_feed_86 : decode mX11_feed.2.1 86 = .ok (.iload 7, 2) := by decide +kernel
theorem dX11_feed_88 : decode mX11_feed.2.1 88 = .ok (.bipush 24, 2) := by decide +kernel
theorem dX11_feed_90 : decode mX11_feed.2.1 90 = .ok (.bipush 8, 2) := by decide +kernel
theorem dX11_feed_92 : decode mX11_feed.2.1 92 = .ok (.iload 6, 2) := by decide +kernel
theorem dX11_feed_94 : decode mX11_feed.2.1 94 = .ok (.iconst 4, 1) := by decide +kernel
theorem dX11_feed_95 : decode mX11_feed.2.1 95 = .ok (.irem, 1) := by decide +kernel
theorem dX11_feed_96 : decode mX11_feed.2.1 96 = .ok (.imul, 1) := by decide +kernel
theorem dX11_feed_97 : decode mX11_feed.2.1 97 = .ok (.isub, 1) := by decide +kernel
theorem dX11_feed_98 : decode mX11_feed.2.1 98 = .ok (.ishr, 1) := by decide +kernel
theorem dX11_feed_99 : decode mX11_feed.2.1 99 = .ok (.i2b, 1) := by decide +kernel
theorem dX11_feed_100 : decode mX11_feed.2.1 100 = .ok (.bastore, 1) := by decide +kernel
theorem dX11_feed_101 : decode mX11_feed.2.1 101 = .ok (.aload_n 0, 1) := by decide +kernel
theorem dX11_feed_102 : decode mX11_feed.2.1 102 = .ok (.dup, 1) := by decide +kernel
theorem dX11_feed_103 : decode mX11_feed.2.1 103 = .ok (.getfield 230, 3) := by decide +kernel
theorem dX11_feed_106 : decode mX11_feed.2.1 106 = .ok (.iconst 1, 1) := by decide +kernel
theorem dX11_feed_107 : decode mX11_feed.2.1 107 = .ok (.iadd, 1) := by decide +kernel
theorem dX11_feed_108 : decode mX11_feed.2.1 108 = .ok (.putfield 230, 3) := by decide +kernel
theorem dX11_feed_111 : decode mX11_feed.2.1 111 = .ok (.iinc 6 1, 3) := by decide +kernel
theorem dX11_feed_114 : decode mX11_feed.2.1 114 = .ok (.goto (-91), 3) := by decide +kernel
theorem dX11_feed_117 : decode mX11_feed.2.1 117 = .ok (.aload_n 0, 1) := by decide +kernel
theorem dX11_feed_118 : decode mX11_feed.2.1 118 = .ok (.getfield 230, 3) := by decide +kernel
theorem dX11_feed_121 : decode mX11_feed.2.1 121 = .ok (.ireturn, 1) := by decide +kernel
theorem dX11_finds_0 : decode mX11_finds.2.1 0 = .ok (.aload_n 0, 1) := by decide +kernel
theorem dX11_finds_1 : decode mX11_finds.2.1 1 = .ok (.iload_n 1, 1) := by decide +kernel
theorem dX11_finds_2 : decode mX11_finds.2.1 2 = .ok (.invokevirtual 172, 3) := by decide +kernel
theorem dX11_finds_5 : decode mX11_finds.2.1 5 = .ok (.ifCond .eq 22, 3) := by decide +kernel
theorem dX11_finds_8 : decode mX11_finds.2.1 8 = .ok (.iload_n 2, 1) := by decide +kernel
theorem dX11_finds_9 : decode mX11_finds.2.1 9 = .ok (.iconst 0, 1) := by decide +kernel
theorem dX11_finds_10 : decode mX11_finds.2.1 10 = .ok (.iconst 2, 1) := by decide +kernel
theorem dX11_finds_11 : decode mX11_finds.2.1 11 = .ok (.invokestatic 139, 3) := by decide +kernel
theorem dX11_finds_14 : decode mX11_finds.2.1 14 = .ok (.ifCond .eq 13, 3) := by decide +kernel
theorem dX11_finds_17 : decode mX11_finds.2.1 17 = .ok (.aload_n 0, 1) := by decide +kernel
theorem dX11_finds_18 : decode mX11_finds.2.1 18 = .ok (.getfield 36, 3) := by decide +kernel
theorem dX11_finds_21 : decode mX11_finds.2.1 21 = .ok (.iload_n 1, 1) := by decide +kernel
theorem dX11_finds_22 : decode mX11_finds.2.1 22 = .ok (.iaload, 1) := by decide +kernel
theorem dX11_finds_23 : decode mX11_finds.2.1 23 = .ok (.iconst (-1), 1) := by decide +kernel
theorem dX11_finds_24 : decode mX11_finds.2.1 24 = .ok (.if_icmp .ne 5, 3) := by decide +kernel
theorem dX11_finds_27 : decode mX11_finds.2.1 27 = .ok (.iconst 0, 1) := by decide +kernel
theorem dX11_finds_28 : decode mX11_finds.2.1 28 = .ok (.ireturn, 1) := by decide +kernel
theorem dX11_finds_29 : decode mX11_finds.2.1 29 = .ok (.aload_n 0, 1) := by decide +kernel
theorem dX11_finds_30 : decode mX11_finds.2.1 30 = .ok (.iconst 0, 1) := by decide +kernel
theorem dX11_finds_31 : decode mX11_finds.2.1 31 = .ok (.putfield 213, 3) := by decide +kernel
theorem dX11_finds_34 : decode mX11_finds.2.1 34 = .ok (.iconst 0, 1) := by decide +kernel
theorem dX11_finds_35 : decode mX11_finds.2.1 35 = .ok (.istore_n 3, 1) := by decide +kernel
theorem dX11_finds_36 : decode mX11_finds.2.1 36 = .ok (.iload_n 3, 1) := by decide +kernel
theorem dX11_finds_37 : decode mX11_finds.2.1 37 = .ok (.aload_n 0, 1) := by decide +kernel
theorem dX11_finds_38 : decode mX11_finds.2.1 38 = .ok (.getfield 165, 3) := by decide +kernel
theorem dX11_finds_41 : decode mX11_finds.2.1 41 = .ok (.if_icmp .ge 75, 3) := by decide +kernel
theorem dX11_finds_44 : decode mX11_finds.2.1 44 = .ok (.aload_n 0, 1) := by decide +kernel
theorem dX11_finds_45 : decode mX11_finds.2.1 45 = .ok (.getfield 213, 3) := by decide +kernel
theorem dX11_finds_48 : decode mX11_finds.2.1 48 = .ok (.bipush 10, 2) := by decide +kernel
theorem dX11_finds_50 : decode mX11_finds.2.1 50 = .ok (.if_icmp .ge 66, 3) := by decide +kernel
theorem dX11_finds_53 : decode mX11_finds.2.1 53 = .ok (.aload_n 0, 1) := by decide +kernel
theorem dX11_finds_54 : decode mX11_finds.2.1 54 = .ok (.getfield 69, 3) := by decide +kernel
theorem dX11_finds_57 : decode mX11_finds.2.1 57 = .ok (.iload_n 3, 1) := by decide +kernel
theorem dX11_finds_58 : decode mX11_finds.2.1 58 = .ok (.iaload, 1) := by decide +kernel
theorem dX11_finds_59 : decode mX11_finds.2.1 59 = .ok (.ifCond .ne 51, 3) := by decide +kernel
theorem dX11_finds_62 : decode mX11_finds.2.1 62 = .ok (.aload_n 0, 1) := by decide +kernel
theorem dX11_finds_63 : decode mX11_finds.2.1 63 = .ok (.getfield 72, 3) := by decide +kernel
theorem dX11_finds_66 : decode mX11_finds.2.1 66 = .ok (.iload_n 3, 1) := by decide +kernel
theorem dX11_finds_67 : decode mX11_finds.2.1 67 = .ok (.iaload, 1) := by decide +kernel
theorem dX11_finds_68 : decode mX11_finds.2.1 68 = .ok (.aload_n 0, 1) := by decide +kernel
theorem dX11_finds_69 : decode mX11_finds.2.1 69 = .ok (.getfield 36, 3) := by decide +kernel
theorem dX11_finds_72 : decode mX11_finds.2.1 72 = .ok (.iload_n 1, 1) := by decide +kernel
theorem dX11_finds_73 : decode mX11_finds.2.1 73 = .ok (.iaload, 1) := by decide +kernel
theorem dX11_finds_74 : decode mX11_finds.2.1 74 = .ok (.if_icmp .ne 36, 3) := by decide +kernel
theorem dX11_finds_77 : decode mX11_finds.2.1 77 = .ok (.aload_n 0, 1) := by decide +kernel
theorem dX11_finds_78 : decode mX11_finds.2.1 78 = .ok (.getfield 60, 3) := by decide +kernel
theorem dX11_finds_81 : decode mX11_finds.2.1 81 = .ok (.iload_n 3, 1) := by decide +kernel
theorem dX11_finds_82 : decode mX11_finds.2.1 82 = .ok (.iaload, 1) := by decide +kernel
theorem dX11_finds_83 : decode mX11_finds.2.1 83 = .ok (.iconst 3, 1) := by decide +kernel
theorem dX11_finds_84 : decode mX11_finds.2.1 84 = .ok (.if_icmp .ne 6, 3) := by decide +kernel
theorem dX11_finds_87 : decode mX11_finds.2.1 87 = .ok (.goto 23, 3) := by decide +kernel
theorem dX11_finds_90 : decode mX11_finds.2.1 90 = .ok (.aload_n 0, 1) := by decide +kernel
theorem dX11_finds_91 : decode mX11_finds.2.1 91 = .ok (.getfield 99, 3) := by decide +kernel
theorem dX11_finds_94 : decode mX11_finds.2.1 94 = .ok (.aload_n 0, 1) := by decide +kernel
theorem dX11_finds_95 : decode mX11_finds.2.1 95 = .ok (.getfield 213, 3) := by decide +kernel
theorem dX11_finds_98 : decode mX11_finds.2.1 98 = .ok (.iload_n 3, 1) := by decide +kernel
theorem dX11_finds_99 : decode mX11_finds.2.1 99 = .ok (.iastore, 1) := by decide +kernel
theorem dX11_finds_100 : decode mX11_finds.2.1 100 = .ok (.aload_n 0, 1) := by decide +kernel
theorem dX11_finds_101 : decode mX11_finds.2.1 101 = .ok (.dup, 1) := by decide +kernel
theorem dX11_finds_102 : decode mX11_finds.2.1 102 = .ok (.getfield 213, 3) := by decide +kernel
theorem dX11_finds_105 : decode mX11_finds.2.1 105 = .ok (.iconst 1, 1) := by decide +kernel
theorem dX11_finds_106 : decode mX11_finds.2.1 106 = .ok (.iadd, 1) := by decide +kernel
theorem dX11_finds_107 : decode mX11_finds.2.1 107 = .ok (.putfield 213, 3) := by decide +kernel
theorem dX11_finds_110 : decode mX11_finds.2.1 110 = .ok (.iinc 3 1, 3) := by decide +kernel
theorem dX11_finds_113 : decode mX11_finds.2.1 113 = .ok (.goto (-77), 3) := by decide +kernel
theorem dX11_finds_116 : decode mX11_finds.2.1 116 = .ok (.aload_n 0, 1) := by decide +kernel
theorem dX11_finds_117 : decode mX11_finds.2.1 117 = .ok (.iconst (-1), 1) := by decide +kernel
theorem dX11_finds_118 : decode mX11_finds.2.1 118 = .ok (.putfield 216, 3) := by decide +kernel
theorem dX11_finds_121 : decode mX11_finds.2.1 121 = .ok (.aload_n 0, 1) := by decide +kernel
theorem dX11_finds_122 : decode mX11_finds.2.1 122 = .ok (.iconst 0, 1) := by decide +kernel
theorem dX11_finds_123 : decode mX11_finds.2.1 123 = .ok (.putfield 219, 3) := by decide +kernel
theorem dX11_finds_126 : decode mX11_finds.2.1 126 = .ok (.aload_n 0, 1) := by decide +kernel
theorem dX11_finds_127 : decode mX11_finds.2.1 127 = .ok (.iconst 0, 1) := by decide +kernel
theorem dX11_finds_128 : decode mX11_finds.2.1 128 = .ok (.iconst 0, 1) := by decide +kernel
theorem dX11_finds_129 : decode mX11_finds.2.1 129 = .ok (.iconst 0, 1) := by decide +kernel
theorem dX11_finds_130 : decode mX11_finds.2.1 130 = .ok (.iconst 0, 1) := by decide +kernel
theorem dX11_finds_131 : decode mX11_finds.2.1 131 = .ok (.aload_n 0, 1) := by decide +kernel
theorem dX11_finds_132 : decode mX11_finds.2.1 132 = .ok (.getfield 48, 3) := by decide +kernel
theorem dX11_finds_135 : decode mX11_finds.2.1 135 = .ok (.iconst 3, 1) := by decide +kernel
theorem dX11_finds_136 : decode mX11_finds.2.1 136 = .ok (.iload_n 1, 1) := by decide +kernel
theorem dX11_finds_137 : decode mX11_finds.2.1 137 = .ok (.imul, 1) := by decide +kernel
theorem dX11_finds_138 : decode mX11_finds.2.1 138 = .ok (.iload_n 2, 1) := by decide +kernel
theorem dX11_finds_139 : decode mX11_finds.2.1 139 = .ok (.iadd, 1) := by decide +kernel
theorem dX11_finds_140 : decode mX11_finds.2.1 140 = .ok (.iaload, 1) := by decide +kernel
theorem dX11_finds_141 : decode mX11_finds.2.1 141 = .ok (.invokevirtual 222, 3) := by decide +kernel
theorem dX11_finds_144 : decode mX11_finds.2.1 144 = .ok (.iconst 1, 1) := by decide +kernel
theorem dX11_finds_145 : decode mX11_finds.2.1 145 = .ok (.ireturn, 1) := by decide +kernel
theorem dX11_go_0 : decode mX11_go.2.1 0 = .ok (.aload_n 0, 1) := by decide +kernel
theorem dX11_go_1 : decode mX11_go.2.1 1 = .ok (.iconst 0, 1) := by decide +kernel
theorem dX11_go_2 : decode mX11_go.2.1 2 = .ok (.putfield 1, 3) := by decide +kernel
theorem dX11_go_5 : decode mX11_go.2.1 5 = .ok (.aload_n 0, 1) := by decide +kernel
theorem dX11_go_6 : decode mX11_go.2.1 6 = .ok (.iload_n 1, 1) := by decide +kernel
theorem dX11_go_7 : decode mX11_go.2.1 7 = .ok (.invokevirtual 172, 3) := by decide +kernel
theorem dX11_go_10 : decode mX11_go.2.1 10 = .ok (.ifCond .ne 5, 3) := by decide +kernel
theorem dX11_go_13 : decode mX11_go.2.1 13 = .ok (.iconst (-1), 1) := by decide +kernel
theorem dX11_go_14 : decode mX11_go.2.1 14 = .ok (.ireturn, 1) := by decide +kernel
theorem dX11_go_15 : decode mX11_go.2.1 15 = .ok (.aload_n 0, 1) := by decide +kernel
theorem dX11_go_16 : decode mX11_go.2.1 16 = .ok (.getfield 36, 3) := by decide +kernel
theorem dX11_go_19 : decode mX11_go.2.1 19 = .ok (.iload_n 1, 1) := by decide +kernel
theorem dX11_go_20 : decode mX11_go.2.1 20 = .ok (.iaload, 1) := by decide +kernel
theorem dX11_go_21 : decode mX11_go.2.1 21 = .ok (.iconst (-1), 1) := by decide +kernel
theorem dX11_go_22 : decode mX11_go.2.1 22 = .ok (.if_icmp .ne 6, 3) := by decide +kernel
theorem dX11_go_25 : decode mX11_go.2.1 25 = .ok (.bipush (-2), 2) := by decide +kernel
theorem dX11_go_27 : decode mX11_go.2.1 27 = .ok (.ireturn, 1) := by decide +kernel
theorem dX11_go_28 : decode mX11_go.2.1 28 = .ok (.iload_n 2, 1) := by decide +kernel
theorem dX11_go_29 : decode mX11_go.2.1 29 = .ok (.ifCond .eq 12, 3) := by decide +kernel
theorem dX11_go_32 : decode mX11_go.2.1 32 = .ok (.aload_n 0, 1) := by decide +kernel
theorem dX11_go_33 : decode mX11_go.2.1 33 = .ok (.getfield 36, 3) := by decide +kernel
theorem dX11_go_36 : decode mX11_go.2.1 36 = .ok (.iload_n 1, 1) := by decide +kernel
theorem dX11_go_37 : decode mX11_go.2.1 37 = .ok (.iaload, 1) := by decide +kernel
theorem dX11_go_38 : decode mX11_go.2.1 38 = .ok (.goto 11, 3) := by decide +kernel
theorem dX11_go_41 : decode mX11_go.2.1 41 = .ok (.aload_n 0, 1) := by decide +kernel
theorem dX11_go_42 : decode mX11_go.2.1 42 = .ok (.getfield 36, 3) := by decide +kernel
theorem dX11_go_45 : decode mX11_go.2.1 45 = .ok (.iload_n 1, 1) := by decide +kernel
theorem dX11_go_46 : decode mX11_go.2.1 46 = .ok (.iaload, 1) := by decide +kernel
theorem dX11_go_47 : decode mX11_go.2.1 47 = .ok (.iconst 1, 1) := by decide +kernel
theorem dX11_go_48 : decode mX11_go.2.1 48 = .ok (.isub, 1) := by decide +kernel
theorem dX11_go_49 : decode mX11_go.2.1 49 = .ok (.istore_n 3, 1) := by decide +kernel
theorem dX11_go_50 : decode mX11_go.2.1 50 = .ok (.aload_n 0, 1) := by decide +kernel
theorem dX11_go_51 : decode mX11_go.2.1 51 = .ok (.iload_n 3, 1) := by decide +kernel
theorem dX11_go_52 : decode mX11_go.2.1 52 = .ok (.invokevirtual 143, 3) := by decide +kernel
theorem dX11_go_55 : decode mX11_go.2.1 55 = .ok (.ifCond .ne 6, 3) := by decide +kernel
theorem dX11_go_58 : decode mX11_go.2.1 58 = .ok (.bipush (-3), 2) := by decide +kernel
theorem dX11_go_60 : decode mX11_go.2.1 60 = .ok (.ireturn, 1) := by decide +kernel
theorem dX11_go_61 : decode mX11_go.2.1 61 = .ok (.iconst 3, 1) := by decide +kernel
theorem dX11_go_62 : decode mX11_go.2.1 62 = .ok (.iload_n 1, 1) := by decide +kernel
theorem dX11_go_63 : decode mX11_go.2.1 63 = .ok (.imul, 1) := by decide +kernel
theorem dX11_go_64 : decode mX11_go.2.1 64 = .ok (.istore 4, 2) := by decide +kernel
theorem dX11_go_66 : decode mX11_go.2.1 66 = .ok (.iload 4, 2) := by decide +kernel
theorem dX11_go_68 : decode mX11_go.2.1 68 = .ok (.iconst 3, 1) := by decide +kernel
theorem dX11_go_69 : decode mX11_go.2.1 69 = .ok (.iload_n 1, 1) := by decide +kernel
theorem dX11_go_70 : decode mX11_go.2.1 70 = .ok (.imul, 1) := by decide +kernel
theorem dX11_go_71 : decode mX11_go.2.1 71 = .ok (.iconst 3, 1) := by decide +kernel
theorem dX11_go_72 : decode mX11_go.2.1 72 = .ok (.iadd, 1) := by decide +kernel
theorem dX11_go_73 : decode mX11_go.2.1 73 = .ok (.if_icmp .ge 41, 3) := by decide +kernel
theorem dX11_go_76 : decode mX11_go.2.1 76 = .ok (.aload_n 0, 1) := by decide +kernel
theorem dX11_go_77 : decode mX11_go.2.1 77 = .ok (.iload 4, 2) := by decide +kernel
theorem dX11_go_79 : decode mX11_go.2.1 79 = .ok (.invokevirtual 186, 3) := by decide +kernel
theorem dX11_go_82 : decode mX11_go.2.1 82 = .ok (.ifCond .eq 23, 3) := by decide +kernel
theorem dX11_go_85 : decode mX11_go.2.1 85 = .ok (.aload_n 0, 1) := by decide +kernel
theorem dX11_go_86 : decode mX11_go.2.1 86 = .ok (.getfield 54, 3) := by decide +kernel
theorem dX11_go_89 : decode mX11_go.2.1 89 = .ok (.iload 4, 2) := by decide +kernel
theorem dX11_go_91 : decode mX11_go.2.1 91 = .ok (.baload, 1) := by decide +kernel
theorem dX11_go_92 : decode mX11_go.2.1 92 = .ok (.ifCond .eq 16, 3) := by decide +kernel
theorem dX11_go_95 : decode mX11_go.2.1 95 = .ok (.aload_n 0, 1) := by decide +kernel
theorem dX11_go_96 : decode mX11_go.2.1 96 = .ok (.iload 4, 2) := by decide +kernel
theorem dX11_go_98 : decode mX11_go.2.1 98 = .ok (.iconst 3, 1) := by decide +kernel
theorem dX11_go_99 : decode mX11_go.2.1 99 = .ok (.invokevirtual 178, 3) := by decide +kernel
theorem dX11_go_102 : decode mX11_go.2.1 102 = .ok (.ifCond .le 6, 3) := by decide +kernel
theorem dX11_go_105 : decode mX11_go.2.1 105 = .ok (.bipush (-4), 2) := by decide +kernel
theorem dX11_go_107 : decode mX11_go.2.1 107 = .ok (.ireturn, 1) := by decide +kernel
theorem dX11_go_108 : decode mX11_go.2.1 108 = .ok (.iinc 4 1, 3) := by decide +kernel
theorem dX11_go_111 : decode mX11_go.2.1 111 = .ok (.goto (-45), 3) := by decide +kernel
theorem dX11_go_114 : decode mX11_go.2.1 114 = .ok (.aload_n 0, 1) := by decide +kernel
theorem dX11_go_115 : decode mX11_go.2.1 115 = .ok (.iload_n 3, 1) := by decide +kernel
theorem dX11_go_116 : decode mX11_go.2.1 116 = .ok (.aload_n 0, 1) := by decide +kernel
theorem dX11_go_117 : decode mX11_go.2.1 117 = .ok (.getfield 150, 3) := by decide +kernel
theorem dX11_go_120 : decode mX11_go.2.1 120 = .ok (.aload_n 0, 1) := by decide +kernel
theorem dX11_go_121 : decode mX11_go.2.1 121 = .ok (.getfield 150, 3) := by decide +kernel
theorem dX11_go_124 : decode mX11_go.2.1 124 = .ok (.invokevirtual 153, 3) := by decide +kernel
theorem dX11_go_127 : decode mX11_go.2.1 127 = .ok (.ifCond .eq 6, 3) := by decide +kernel
theorem dX11_go_130 : decode mX11_go.2.1 130 = .ok (.bipush (-5), 2) := by decide +kernel
theorem dX11_go_132 : decode mX11_go.2.1 132 = .ok (.ireturn, 1) := by decide +kernel
theorem dX11_go_133 : decode mX11_go.2.1 133 = .ok (.iconst 0, 1) := by decide +kernel
theorem dX11_go_134 : decode mX11_go.2.1 134 = .ok (.istore 4, 2) := by decide +kernel
theorem dX11_go_136 : decode mX11_go.2.1 136 = .ok (.iload 4, 2) := by decide +kernel
theorem dX11_go_138 : decode mX11_go.2.1 138 = .ok (.aload_n 0, 1) := by decide +kernel
theorem dX11_go_139 : decode mX11_go.2.1 139 = .ok (.getfield 159, 3) := by decide +kernel
theorem dX11_go_142 : decode mX11_go.2.1 142 = .ok (.if_icmp .ge 32, 3) := by decide +kernel
theorem dX11_go_145 : decode mX11_go.2.1 145 = .ok (.aload_n 0, 1) := by decide +kernel
theorem dX11_go_146 : decode mX11_go.2.1 146 = .ok (.getfield 20, 3) := by decide +kernel
theorem dX11_go_149 : decode mX11_go.2.1 149 = .ok (.iload_n 3, 1) := by decide +kernel
theorem dX11_go_150 : decode mX11_go.2.1 150 = .ok (.baload, 1) := by decide +kernel
theorem dX11_go_151 : decode mX11_go.2.1 151 = .ok (.ifCond .eq 17, 3) := by decide +kernel
theorem dX11_go_154 : decode mX11_go.2.1 154 = .ok (.aload_n 0, 1) := by decide +kernel
theorem dX11_go_155 : decode mX11_go.2.1 155 = .ok (.getfield 39, 3) := by decide +kernel
theorem dX11_go_158 : decode mX11_go.2.1 158 = .ok (.iload 4, 2) := by decide +kernel
theorem dX11_go_160 : decode mX11_go.2.1 160 = .ok (.iaload, 1) := by decide +kernel
theorem dX11_go_161 : decode mX11_go.2.1 161 = .ok (.iload_n 3, 1) := by decide +kernel
theorem dX11_go_162 : decode mX11_go.2.1 162 = .ok (.if_icmp .ne 6, 3) := by decide +kernel
theorem dX11_go_165 : decode mX11_go.2.1 165 = .ok (.bipush (-6), 2) := by decide +kernel
theorem dX11_go_167 : decode mX11_go.2.1 167 = .ok (.ireturn, 1) := by decide +kernel
theorem dX11_go_168 : decode mX11_go.2.1 168 = .ok (.iinc 4 1, 3) := by decide +kernel
theorem dX11_go_171 : decode mX11_go.2.1 171 = .ok (.goto (-35), 3) := by decide +kernel
theorem dX11_go_174 : decode mX11_go.2.1 174 = .ok (.aload_n 0, 1) := by decide +kernel
theorem dX11_go_175 : decode mX11_go.2.1 175 = .ok (.getfield 36, 3) := by decide +kernel
theorem dX11_go_178 : decode mX11_go.2.1 178 = .ok (.iload_n 1, 1) := by decide +kernel
theorem dX11_go_179 : decode mX11_go.2.1 179 = .ok (.iconst (-1), 1) := by decide +kernel
theorem dX11_go_180 : decode mX11_go.2.1 180 = .ok (.iastore, 1) := by decide +kernel
theorem dX11_go_181 : decode mX11_go.2.1 181 = .ok (.aload_n 0, 1) := by decide +kernel
theorem dX11_go_182 : decode mX11_go.2.1 182 = .ok (.getfield 39, 3) := by decide +kernel
theorem dX11_go_185 : decode mX11_go.2.1 185 = .ok (.iload_n 1, 1) := by decide +kernel
theorem dX11_go_186 : decode mX11_go.2.1 186 = .ok (.iload_n 3, 1) := by decide +kernel
theorem dX11_go_187 : decode mX11_go.2.1 187 = .ok (.iastore, 1) := by decide +kernel
theorem dX11_go_188 : decode mX11_go.2.1 188 = .ok (.aload_n 0, 1) := by decide +kernel
theorem dX11_go_189 : decode mX11_go.2.1 189 = .ok (.getfield 42, 3) := by decide +kernel
theorem dX11_go_192 : decode mX11_go.2.1 192 = .ok (.iload_n 1, 1) := by decide +kernel
theorem dX11_go_193 : decode mX11_go.2.1 193 = .ok (.iload_n 2, 1) := by decide +kernel
theorem dX11_go_194 : decode mX11_go.2.1 194 = .ok (.bastore, 1) := by decide +kernel
theorem dX11_go_195 : decode mX11_go.2.1 195 = .ok (.aload_n 0, 1) := by decide +kernel
theorem dX11_go_196 : decode mX11_go.2.1 196 = .ok (.getfield 45, 3) := by decide +kernel
theorem dX11_go_199 : decode mX11_go.2.1 199 = .ok (.iload_n 1, 1) := by decide +kernel
theorem dX11_go_200 : decode mX11_go.2.1 200 = .ok (.aload_n 0, 1) := by decide +kernel
theorem dX11_go_201 : decode mX11_go.2.1 201 = .ok (.getfield 150, 3) := by decide +kernel
theorem dX11_go_204 : decode mX11_go.2.1 204 = .ok (.aload_n 0, 1) := by decide +kernel
theorem dX11_go_205 : decode mX11_go.2.1 205 = .ok (.getfield 13, 3) := by decide +kernel
theorem dX11_go_208 : decode mX11_go.2.1 208 = .ok (.iload_n 3, 1) := by decide +kernel
theorem dX11_go_209 : decode mX11_go.2.1 209 = .ok (.iaload, 1) := by decide +kernel
theorem dX11_go_210 : decode mX11_go.2.1 210 = .ok (.iadd, 1) := by decide +kernel
theorem dX11_go_211 : decode mX11_go.2.1 211 = .ok (.iastore, 1) := by decide +kernel
theorem dX11_go_212 : decode mX11_go.2.1 212 = .ok (.aload_n 0, 1) := by decide +kernel
theorem dX11_go_213 : decode mX11_go.2.1 213 = .ok (.getfield 45, 3) := by decide +kernel
theorem dX11_go_216 : decode mX11_go.2.1 216 = .ok (.iload_n 1, 1) := by decide +kernel
theorem dX11_go_217 : decode mX11_go.2.1 217 = .ok (.iaload, 1) := by decide +kernel
theorem dX11_go_218 : decode mX11_go.2.1 218 = .ok (.ireturn, 1) := by decide +kernel
theorem dX11_goes_0 : decode mX11_goes.2.1 0 = .ok (.aload_n 0, 1) := by decide +kernel
theorem dX11_goes_1 : decode mX11_goes.2.1 1 = .ok (.invokevirtual 200, 3) := by decide +kernel
theorem dX11_goes_4 : decode mX11_goes.2.1 4 = .ok (.iconst 0, 1) := by decide +kernel
theorem dX11_goes_5 : decode mX11_goes.2.1 5 = .ok (.istore_n 1, 1) := by decide +kernel
theorem dX11_goes_6 : decode mX11_goes.2.1 6 = .ok (.iload_n 1, 1) := by decide +kernel
theorem dX11_goes_7 : decode mX11_goes.2.1 7 = .ok (.aload_n 0, 1) := by decide +kernel
theorem dX11_goes_8 : decode mX11_goes.2.1 8 = .ok (.getfield 159, 3) := by decide +kernel
theorem dX11_goes_11 : decode mX11_goes.2.1 11 = .ok (.if_icmp .ge 32, 3) := by decide +kernel
theorem dX11_goes_14 : decode mX11_goes.2.1 14 = .ok (.aload_n 0, 1) := by decide +kernel
theorem dX11_goes_15 : decode mX11_goes.2.1 15 = .ok (.getfield 36, 3) := by decide +kernel
theorem dX11_goes_18 : decode mX11_goes.2.1 18 = .ok (.iload_n 1, 1) := by decide +kernel
theorem dX11_goes_19 : decode mX11_goes.2.1 19 = .ok (.iaload, 1) := by decide +kernel
theorem dX11_goes_20 : decode mX11_goes.2.1 20 = .ok (.iconst (-1), 1) := by decide +kernel
theorem dX11_goes_21 : decode mX11_goes.2.1 21 = .ok (.if_icmp .ne 11, 3) := by decide +kernel
theorem dX11_goes_24 : decode mX11_goes.2.1 24 = .ok (.aload_n 0, 1) := by decide +kernel
theorem dX11_goes_25 : decode mX11_goes.2.1 25 = .ok (.iload_n 1, 1) := by decide +kernel
theorem dX11_goes_26 : decode mX11_goes.2.1 26 = .ok (.invokevirtual 203, 3) := by decide +kernel
theorem dX11_goes_29 : decode mX11_goes.2.1 29 = .ok (.goto 8, 3) := by decide +kernel
theorem dX11_goes_32 : decode mX11_goes.2.1 32 = .ok (.aload_n 0, 1) := by decide +kernel
theorem dX11_goes_33 : decode mX11_goes.2.1 33 = .ok (.iload_n 1, 1) := by decide +kernel
theorem dX11_goes_34 : decode mX11_goes.2.1 34 = .ok (.invokevirtual 207, 3) := by decide +kernel
theorem dX11_goes_37 : decode mX11_goes.2.1 37 = .ok (.iinc 1 1, 3) := by decide +kernel
theorem dX11_goes_40 : decode mX11_goes.2.1 40 = .ok (.goto (-34), 3) := by decide +kernel
theorem dX11_goes_43 : decode mX11_goes.2.1 43 = .ok (.aload_n 0, 1) := by decide +kernel
theorem dX11_goes_44 : decode mX11_goes.2.1 44 = .ok (.dup, 1) := by decide +kernel
theorem dX11_goes_45 : decode mX11_goes.2.1 45 = .ok (.getfield 150, 3) := by decide +kernel
theorem dX11_goes_48 : decode mX11_goes.2.1 48 = .ok (.iconst 1, 1) := by decide +kernel
theorem dX11_goes_49 : decode mX11_goes.2.1 49 = .ok (.iadd, 1) := by decide +kernel
theorem dX11_goes_50 : decode mX11_goes.2.1 50 = .ok (.putfield 150, 3) := by decide +kernel
theorem dX11_goes_53 : decode mX11_goes.2.1 53 = .ok (.iconst 0, 1) := by decide +kernel
theorem dX11_goes_54 : decode mX11_goes.2.1 54 = .ok (.istore_n 1, 1) := by decide +kernel
theorem dX11_goes_55 : decode mX11_goes.2.1 55 = .ok (.iload_n 1, 1) := by decide +kernel
theorem dX11_goes_56 : decode mX11_goes.2.1 56 = .ok (.aload_n 0, 1) := by decide +kernel
theorem dX11_goes_57 : decode mX11_goes.2.1 57 = .ok (.getfield 159, 3) := by decide +kernel
theorem dX11_goes_60 : decode mX11_goes.2.1 60 = .ok (.if_icmp .ge 74, 3) := by decide +kernel
theorem dX11_goes_63 : decode mX11_goes.2.1 63 = .ok (.aload_n 0, 1) := by decide +kernel
theorem dX11_goes_64 : decode mX11_goes.2.1 64 = .ok (.getfield 36, 3) := by decide +kernel
theorem dX11_goes_67 : decode mX11_goes.2.1 67 = .ok (.iload_n 1, 1) := by decide +kernel
theorem dX11_goes_68 : decode mX11_goes.2.1 68 = .ok (.iaload, 1) := by decide +kernel
theorem dX11_goes_69 : decode mX11_goes.2.1 69 = .ok (.iconst (-1), 1) := by decide +kernel
theorem dX11_goes_70 : decode mX11_goes.2.1 70 = .ok (.if_icmp .ne 58, 3) := by decide +kernel
theorem dX11_goes_73 : decode mX11_goes.2.1 73 = .ok (.aload_n 0, 1) := by decide +kernel
theorem dX11_goes_74 : decode mX11_goes.2.1 74 = .ok (.getfield 45, 3) := by decide +kernel
theorem dX11_goes_77 : decode mX11_goes.2.1 77 = .ok (.iload_n 1, 1) := by decide +kernel
theorem dX11_goes_78 : decode mX11_goes.2.1 78 = .ok (.iaload, 1) := by decide +kernel
theorem dX11_goes_79 : decode mX11_goes.2.1 79 = .ok (.aload_n 0, 1) := by decide +kernel
theorem dX11_goes_80 : decode mX11_goes.2.1 80 = .ok (.getfield 150, 3) := by decide +kernel
theorem dX11_goes_83 : decode mX11_goes.2.1 83 = .ok (.if_icmp .eq 6, 3) := by decide +kernel
theorem dX11_goes_86 : decode mX11_goes.2.1 86 = .ok (.goto 42, 3) := by decide +kernel
theorem dX11_goes_89 : decode mX11_goes.2.1 89 = .ok (.aload_n 0, 1) := by decide +kernel
theorem dX11_goes_90 : decode mX11_goes.2.1 90 = .ok (.getfield 36, 3) := by decide +kernel
theorem dX11_goes_93 : decode mX11_goes.2.1 93 = .ok (.iload_n 1, 1) := by decide +kernel
theorem dX11_goes_94 : decode mX11_goes.2.1 94 = .ok (.aload_n 0, 1) := by decide +kernel
theorem dX11_goes_95 : decode mX11_goes.2.1 95 = .ok (.getfield 42, 3) := by decide +kernel
theorem dX11_goes_98 : decode mX11_goes.2.1 98 = .ok (.iload_n 1, 1) := by decide +kernel
theorem dX11_goes_99 : decode mX11_goes.2.1 99 = .ok (.baload, 1) := by decide +kernel
theorem dX11_goes_100 : decode mX11_goes.2.1 100 = .ok (.ifCond .eq 14, 3) := by decide +kernel
theorem dX11_goes_103 : decode mX11_goes.2.1 103 = .ok (.aload_n 0, 1) := by decide +kernel
theorem dX11_goes_104 : decode mX11_goes.2.1 104 = .ok (.getfield 39, 3) := by decide +kernel
theorem dX11_goes_107 : decode mX11_goes.2.1 107 = .ok (.iload_n 1, 1) := by decide +kernel
theorem dX11_goes_108 : decode mX11_goes.2.1 108 = .ok (.iaload, 1) := by decide +kernel
theorem dX11_goes_109 : decode mX11_goes.2.1 109 = .ok (.iconst 1, 1) := by decide +kernel
theorem dX11_goes_110 : decode mX11_goes.2.1 110 = .ok (.iadd, 1) := by decide +kernel
theorem dX11_goes_111 : decode mX11_goes.2.1 111 = .ok (.goto 9, 3) := by decide +kernel
theorem dX11_goes_114 : decode mX11_goes.2.1 114 = .ok (.aload_n 0, 1) := by decide +kernel
theorem dX11_goes_115 : decode mX11_goes.2.1 115 = .ok (.getfield 39, 3) := by decide +kernel
theorem dX11_goes_118 : decode mX11_goes.2.1 118 = .ok (.iload_n 1, 1) := by decide +kernel
theorem dX11_goes_119 : decode mX11_goes.2.1 119 = .ok (.iaload, 1) := by decide +kernel
theorem dX11_goes_120 : decode mX11_goes.2.1 120 = .ok (.iastore, 1) := by decide +kernel
theorem dX11_goes_121 : decode mX11_goes.2.1 121 = .ok (.aload_n 0, 1) := by decide +kernel
theorem dX11_goes_122 : decode mX11_goes.2.1 122 = .ok (.getfield 39, 3) := by decide +kernel
theorem dX11_goes_125 : decode mX11_goes.2.1 125 = .ok (.iload_n 1, 1) := by decide +kernel
theorem dX11_goes_126 : decode mX11_goes.2.1 126 = .ok (.iconst (-1), 1) := by decide +kernel
theorem dX11_goes_127 : decode mX11_goes.2.1 127 = .ok (.iastore, 1) := by decide +kernel
theorem dX11_goes_128 : decode mX11_goes.2.1 128 = .ok (.iinc 1 1, 3) := by decide +kernel
theorem dX11_goes_131 : decode mX11_goes.2.1 131 = .ok (.goto (-76), 3) := by decide +kernel
theorem dX11_goes_134 : decode mX11_goes.2.1 134 = .ok (.return_, 1) := by decide +kernel
theorem dX11_holds_0 : decode mX11_holds.2.1 0 = .ok (.iconst 0, 1) := by decide +kernel
theorem dX11_holds_1 : decode mX11_holds.2.1 1 = .ok (.istore_n 1, 1) := by decide +kernel
theorem dX11_holds_2 : decode mX11_holds.2.1 2 = .ok (.iload_n 1, 1) := by decide +kernel
theorem dX11_holds_3 : decode mX11_holds.2.1 3 = .ok (.aload_n 0, 1) := by decide +kernel
theorem dX11_holds_4 : decode mX11_holds.2.1 4 = .ok (.getfield 165, 3) := by decide +kernel
theorem dX11_holds_7 : decode mX11_holds.2.1 7 = .ok (.if_icmp .ge 90, 3) := by decide +kernel
theorem dX11_holds_10 : decode mX11_holds.2.1 10 = .ok (.aload_n 0, 1) := by decide +kernel
theorem dX11_holds_11 : decode mX11_holds.2.1 11 = .ok (.getfield 69, 3) := by decide +kernel
theorem dX11_holds_14 : decode mX11_holds.2.1 14 = .ok (.iload_n 1, 1) := by decide +kernel
theorem dX11_holds_15 : decode mX11_holds.2.1 15 = .ok (.iaload, 1) := by decide +kernel
theorem dX11_holds_16 : decode mX11_holds.2.1 16 = .ok (.iconst 2, 1) := by decide +kernel
theorem dX11_holds_17 : decode mX11_holds.2.1 17 = .ok (.if_icmp .ne 6, 3) := by decide +kernel
theorem dX11_holds_20 : decode mX11_holds.2.1 20 = .ok (.goto 71, 3) := by decide +kernel
theorem dX11_holds_23 : decode mX11_holds.2.1 23 = .ok (.aload_n 0, 1) := by decide +kernel
theorem dX11_holds_24 : decode mX11_holds.2.1 24 = .ok (.iload_n 1, 1) := by decide +kernel
theorem dX11_holds_25 : decode mX11_holds.2.1 25 = .ok (.invokevirtual 197, 3) := by decide +kernel
theorem dX11_holds_28 : decode mX11_holds.2.1 28 = .ok (.istore_n 2, 1) := by decide +kernel
theorem dX11_holds_29 : decode mX11_holds.2.1 29 = .ok (.iload_n 2, 1) := by decide +kernel
theorem dX11_holds_30 : decode mX11_holds.2.1 30 = .ok (.iconst (-1), 1) := by decide +kernel
theorem dX11_holds_31 : decode mX11_holds.2.1 31 = .ok (.if_icmp .eq 60, 3) := by decide +kernel
theorem dX11_holds_34 : decode mX11_holds.2.1 34 = .ok (.iload_n 2, 1) := by decide +kernel
theorem dX11_holds_35 : decode mX11_holds.2.1 35 = .ok (.aload_n 0, 1) := by decide +kernel
theorem dX11_holds_36 : decode mX11_holds.2.1 36 = .ok (.getfield 66, 3) := by decide +kernel
theorem dX11_holds_39 : decode mX11_holds.2.1 39 = .ok (.iload_n 1, 1) := by decide +kernel
theorem dX11_holds_40 : decode mX11_holds.2.1 40 = .ok (.iaload, 1) := by decide +kernel
theorem dX11_holds_41 : decode mX11_holds.2.1 41 = .ok (.if_icmp .ne 6, 3) := by decide +kernel
theorem dX11_holds_44 : decode mX11_holds.2.1 44 = .ok (.goto 47, 3) := by decide +kernel
theorem dX11_holds_47 : decode mX11_holds.2.1 47 = .ok (.aload_n 0, 1) := by decide +kernel
theorem dX11_holds_48 : decode mX11_holds.2.1 48 = .ok (.getfield 66, 3) := by decide +kernel
theorem dX11_holds_51 : decode mX11_holds.2.1 51 = .ok (.iload_n 1, 1) := by decide +kernel
theorem dX11_holds_52 : decode mX11_holds.2.1 52 = .ok (.iaload, 1) := by decide +kernel
theorem dX11_holds_53 : decode mX11_holds.2.1 53 = .ok (.iload_n 2, 1) := by decide +kernel
theorem dX11_holds_54 : decode mX11_holds.2.1 54 = .ok (.if_icmp .le 7, 3) := by decide +kernel
theorem dX11_holds_57 : decode mX11_holds.2.1 57 = .ok (.iload_n 2, 1) := by decide +kernel
theorem dX11_holds_58 : decode mX11_holds.2.1 58 = .ok (.goto 6, 3) := by decide +kernel
theorem dX11_holds_61 : decode mX11_holds.2.1 61 = .ok (.iload_n 2, 1) := by decide +kernel
theorem dX11_holds_62 : decode mX11_holds.2.1 62 = .ok (.iconst 1, 1) := by decide +kernel
theorem dX11_holds_63 : decode mX11_holds.2.1 63 = .ok (.isub, 1) := by decide +kernel
theorem dX11_holds_64 : decode mX11_holds.2.1 64 = .ok (.istore_n 3, 1) := by decide +kernel
theorem dX11_holds_65 : decode mX11_holds.2.1 65 = .ok (.aload_n 0, 1) := by decide +kernel
theorem dX11_holds_66 : decode mX11_holds.2.1 66 = .ok (.iload_n 3, 1) := by decide +kernel
theorem dX11_holds_67 : decode mX11_holds.2.1 67 = .ok (.aload_n 0, 1) := by decide +kernel
theorem dX11_holds_68 : decode mX11_holds.2.1 68 = .ok (.getfield 150, 3) := by decide +kernel
theorem dX11_holds_71 : decode mX11_holds.2.1 71 = .ok (.aload_n 0, 1) := by decide +kernel
theorem dX11_holds_72 : decode mX11_holds.2.1 72 = .ok (.getfield 150, 3) := by decide +kernel
theorem dX11_holds_75 : decode mX11_holds.2.1 75 = .ok (.invokevirtual 153, 3) := by decide +kernel
theorem dX11_holds_78 : decode mX11_holds.2.1 78 = .ok (.ifCond .eq 13, 3) := by decide +kernel
theorem dX11_holds_81 : decode mX11_holds.2.1 81 = .ok (.aload_n 0, 1) := by decide +kernel
theorem dX11_holds_82 : decode mX11_holds.2.1 82 = .ok (.getfield 87, 3) := by decide +kernel
theorem dX11_holds_85 : decode mX11_holds.2.1 85 = .ok (.iload_n 1, 1) := by decide +kernel
theorem dX11_holds_86 : decode mX11_holds.2.1 86 = .ok (.dup2, 1) := by decide +kernel
theorem dX11_holds_87 : decode mX11_holds.2.1 87 = .ok (.iaload, 1) := by decide +kernel
theorem dX11_holds_88 : decode mX11_holds.2.1 88 = .ok (.iconst 1, 1) := by decide +kernel
theorem dX11_holds_89 : decode mX11_holds.2.1 89 = .ok (.iadd, 1) := by decide +kernel
theorem dX11_holds_90 : decode mX11_holds.2.1 90 = .ok (.iastore, 1) := by decide +kernel
theorem dX11_holds_91 : decode mX11_holds.2.1 91 = .ok (.iinc 1 1, 3) := by decide +kernel
theorem dX11_holds_94 : decode mX11_holds.2.1 94 = .ok (.goto (-92), 3) := by decide +kernel
theorem dX11_holds_97 : decode mX11_holds.2.1 97 = .ok (.return_, 1) := by decide +kernel
theorem dX11_holds__0 : decode mX11_holds_.2.1 0 = .ok (.aload_n 0, 1) := by decide +kernel
theorem dX11_holds__1 : decode mX11_holds_.2.1 1 = .ok (.getfield 127, 3) := by decide +kernel
theorem dX11_holds__4 : decode mX11_holds_.2.1 4 = .ok (.iload_n 1, 1) := by decide +kernel
theorem dX11_holds__5 : decode mX11_holds_.2.1 5 = .ok (.iaload, 1) := by decide +kernel
theorem dX11_holds__6 : decode mX11_holds_.2.1 6 = .ok (.istore_n 3, 1) := by decide +kernel
theorem dX11_holds__7 : decode mX11_holds_.2.1 7 = .ok (.iload_n 3, 1) := by decide +kernel
theorem dX11_holds__8 : decode mX11_holds_.2.1 8 = .ok (.iconst 4, 1) := by decide +kernel
theorem dX11_holds__9 : decode mX11_holds_.2.1 9 = .ok (.if_icmp .ge 19, 3) := by decide +kernel
theorem dX11_holds__12 : decode mX11_holds_.2.1 12 = .ok (.aload_n 0, 1) := by decide +kernel
theorem dX11_holds__13 : decode mX11_holds_.2.1 13 = .ok (.getfield 60, 3) := by decide +kernel
theorem dX11_holds__16 : decode mX11_holds_.2.1 16 = .ok (.iload_n 2, 1) := by decide +kernel
theorem dX11_holds__17 : decode mX11_holds_.2.1 17 = .ok (.iaload, 1) := by decide +kernel
theorem dX11_holds__18 : decode mX11_holds_.2.1 18 = .ok (.iload_n 3, 1) := by decide +kernel
theorem dX11_holds__19 : decode mX11_holds_.2.1 19 = .ok (.if_icmp .ne 7, 3) := by decide +kernel
theorem dX11_holds__22 : decode mX11_holds_.2.1 22 = .ok (.iconst 1, 1) := by decide +kernel
theorem dX11_holds__23 : decode mX11_holds_.2.1 23 = .ok (.goto 4, 3) := by decide +kernel
theorem dX11_holds__26 : decode mX11_holds_.2.1 26 = .ok (.iconst 0, 1) := by decide +kernel
theorem dX11_holds__27 : decode mX11_holds_.2.1 27 = .ok (.ireturn, 1) := by decide +kernel
theorem dX11_holds__28 : decode mX11_holds_.2.1 28 = .ok (.iload_n 3, 1) := by decide +kernel
theorem dX11_holds__29 : decode mX11_holds_.2.1 29 = .ok (.iconst 4, 1) := by decide +kernel
theorem dX11_holds__30 : decode mX11_holds_.2.1 30 = .ok (.if_icmp .ne 12, 3) := by decide +kernel
theorem dX11_holds__33 : decode mX11_holds_.2.1 33 = .ok (.aload_n 0, 1) := by decide +kernel
theorem dX11_holds__34 : decode mX11_holds_.2.1 34 = .ok (.getfield 63, 3) := by decide +kernel
theorem dX11_holds__37 : decode mX11_holds_.2.1 37 = .ok (.iload_n 2, 1) := by decide +kernel
theorem dX11_holds__38 : decode mX11_holds_.2.1 38 = .ok (.iaload, 1) := by decide +kernel
theorem dX11_holds__39 : decode mX11_holds_.2.1 39 = .ok (.goto 30, 3) := by decide +kernel
theorem dX11_holds__42 : decode mX11_holds_.2.1 42 = .ok (.iload_n 3, 1) := by decide +kernel
theorem dX11_holds__43 : decode mX11_holds_.2.1 43 = .ok (.iconst 5, 1) := by decide +kernel
theorem dX11_holds__44 : decode mX11_holds_.2.1 44 = .ok (.if_icmp .ne 19, 3) := by decide +kernel
theorem dX11_holds__47 : decode mX11_holds_.2.1 47 = .ok (.aload_n 0, 1) := by decide +kernel
theorem dX11_holds__48 : decode mX11_holds_.2.1 48 = .ok (.getfield 84, 3) := by decide +kernel
theorem dX11_holds__51 : decode mX11_holds_.2.1 51 = .ok (.iload_n 2, 1) := by decide +kernel
theorem dX11_holds__52 : decode mX11_holds_.2.1 52 = .ok (.iaload, 1) := by decide +kernel
theorem dX11_holds__53 : decode mX11_holds_.2.1 53 = .ok (.aload_n 0, 1) := by decide +kernel
theorem dX11_holds__54 : decode mX11_holds_.2.1 54 = .ok (.getfield 81, 3) := by decide +kernel
theorem dX11_holds__57 : decode mX11_holds_.2.1 57 = .ok (.iload_n 2, 1) := by decide +kernel
theorem dX11_holds__58 : decode mX11_holds_.2.1 58 = .ok (.iaload, 1) := by decide +kernel
theorem dX11_holds__59 : decode mX11_holds_.2.1 59 = .ok (.isub, 1) := by decide +kernel
theorem dX11_holds__60 : decode mX11_holds_.2.1 60 = .ok (.goto 9, 3) := by decide +kernel
theorem dX11_holds__63 : decode mX11_holds_.2.1 63 = .ok (.aload_n 0, 1) := by decide +kernel
theorem dX11_holds__64 : decode mX11_holds_.2.1 64 = .ok (.getfield 87, 3) := by decide +kernel
theorem dX11_holds__67 : decode mX11_holds_.2.1 67 = .ok (.iload_n 2, 1) := by decide +kernel
theorem dX11_holds__68 : decode mX11_holds_.2.1 68 = .ok (.iaload, 1) := by decide +kernel
theorem dX11_holds__69 : decode mX11_holds_.2.1 69 = .ok (.istore 4, 2) := by decide +kernel
theorem dX11_holds__71 : decode mX11_holds_.2.1 71 = .ok (.aload_n 0, 1) := by decide +kernel
theorem dX11_holds__72 : decode mX11_holds_.2.1 72 = .ok (.getfield 130, 3) := by decide +kernel
theorem dX11_holds__75 : decode mX11_holds_.2.1 75 = .ok (.iload_n 1, 1) := by decide +kernel
theorem dX11_holds__76 : decode mX11_holds_.2.1 76 = .ok (.iaload, 1) := by decide +kernel
theorem dX11_holds__77 : decode mX11_holds_.2.1 77 = .ok (.bipush 60, 2) := by decide +kernel
theorem dX11_holds__79 : decode mX11_holds_.2.1 79 = .ok (.if_icmp .ne 22, 3) := by decide +kernel
theorem dX11_holds__82 : decode mX11_holds_.2.1 82 = .ok (.iload 4, 2) := by decide +kernel
theorem dX11_holds__84 : decode mX11_holds_.2.1 84 = .ok (.aload_n 0, 1) := by decide +kernel
theorem dX11_holds__85 : decode mX11_holds_.2.1 85 = .ok (.getfield 133, 3) := by decide +kernel
theorem dX11_holds__88 : decode mX11_holds_.2.1 88 = .ok (.iload_n 1, 1) := by decide +kernel
theorem dX11_holds__89 : decode mX11_holds_.2.1 89 = .ok (.iaload, 1) := by decide +kernel
theorem dX11_holds__90 : decode mX11_holds_.2.1 90 = .ok (.if_icmp .ge 7, 3) := by decide +kernel
theorem dX11_holds__93 : decode mX11_holds_.2.1 93 = .ok (.iconst 1, 1) := by decide +kernel
theorem dX11_holds__94 : decode mX11_holds_.2.1 94 = .ok (.goto 53, 3) := by decide +kernel
theorem dX11_holds__97 : decode mX11_holds_.2.1 97 = .ok (.iconst 0, 1) := by decide +kernel
theorem dX11_holds__98 : decode mX11_holds_.2.1 98 = .ok (.goto 49, 3) := by decide +kernel
theorem dX11_holds__101 : decode mX11_holds_.2.1 101 = .ok (.aload_n 0, 1) := by decide +kernel
theorem dX11_holds__102 : decode mX11_holds_.2.1 102 = .ok (.getfield 130, 3) := by decide +kernel
theorem dX11_holds__105 : decode mX11_holds_.2.1 105 = .ok (.iload_n 1, 1) := by decide +kernel
theorem dX11_holds__106 : decode mX11_holds_.2.1 106 = .ok (.iaload, 1) := by decide +kernel
theorem dX11_holds__107 : decode mX11_holds_.2.1 107 = .ok (.bipush 62, 2) := by decide +kernel
theorem dX11_holds__109 : decode mX11_holds_.2.1 109 = .ok (.if_icmp .ne 22, 3) := by decide +kernel
theorem dX11_holds__112 : decode mX11_holds_.2.1 112 = .ok (.iload 4, 2) := by decide +kernel
theorem dX11_holds__114 : decode mX11_holds_.2.1 114 = .ok (.aload_n 0, 1) := by decide +kernel
theorem dX11_holds__115 : decode mX11_holds_.2.1 115 = .ok (.getfield 133, 3) := by decide +kernel
theorem dX11_holds__118 : decode mX11_holds_.2.1 118 = .ok (.iload_n 1, 1) := by decide +kernel
theorem dX11_holds__119 : decode mX11_holds_.2.1 119 = .ok (.iaload, 1) := by decide +kernel
theorem dX11_holds__120 : decode mX11_holds_.2.1 120 = .ok (.if_icmp .le 7, 3) := by decide +kernel
theorem dX11_holds__123 : decode mX11_holds_.2.1 123 = .ok (.iconst 1, 1) := by decide +kernel
theorem dX11_holds__124 : decode mX11_holds_.2.1 124 = .ok (.goto 23, 3) := by decide +kernel
theorem dX11_holds__127 : decode mX11_holds_.2.1 127 = .ok (.iconst 0, 1) := by decide +kernel
theorem dX11_holds__128 : decode mX11_holds_.2.1 128 = .ok (.goto 19, 3) := by decide +kernel
theorem dX11_holds__131 : decode mX11_holds_.2.1 131 = .ok (.iload 4, 2) := by decide +kernel
theorem dX11_holds__133 : decode mX11_holds_.2.1 133 = .ok (.aload_n 0, 1) := by decide +kernel
theorem dX11_holds__134 : decode mX11_holds_.2.1 134 = .ok (.getfield 133, 3) := by decide +kernel
theorem dX11_holds__137 : decode mX11_holds_.2.1 137 = .ok (.iload_n 1, 1) := by decide +kernel
theorem dX11_holds__138 : decode mX11_holds_.2.1 138 = .ok (.iaload, 1) := by decide +kernel
theorem dX11_holds__139 : decode mX11_holds_.2.1 139 = .ok (.if_icmp .ne 7, 3) := by decide +kernel
theorem dX11_holds__142 : decode mX11_holds_.2.1 142 = .ok (.iconst 1, 1) := by decide +kernel
theorem dX11_holds__143 : decode mX11_holds_.2.1 143 = .ok (.goto 4, 3) := by decide +kernel
theorem dX11_holds__146 : decode mX11_holds_.2.1 146 = .ok (.iconst 0, 1) := by decide +kernel
theorem dX11_holds__147 : decode mX11_holds_.2.1 147 = .ok (.ireturn, 1) := by decide +kernel
theorem dX11_hours_0 : decode mX11_hours.2.1 0 = .ok (.aload_n 0, 1) := by decide +kernel
theorem dX11_hours_1 : decode mX11_hours.2.1 1 = .ok (.iconst 0, 1) := by decide +kernel
theorem dX11_hours_2 : decode mX11_hours.2.1 2 = .ok (.putfield 1, 3) := by decide +kernel
theorem dX11_hours_5 : decode mX11_hours.2.1 5 = .ok (.iload_n 1, 1) := by decide +kernel
theorem dX11_hours_6 : decode mX11_hours.2.1 6 = .ok (.iconst 1, 1) := by decide +kernel
theorem dX11_hours_7 : decode mX11_hours.2.1 7 = .ok (.bipush 100, 2) := by decide +kernel
theorem dX11_hours_9 : decode mX11_hours.2.1 9 = .ok (.invokestatic 139, 3) := by decide +kernel
theorem dX11_hours_12 : decode mX11_hours.2.1 12 = .ok (.ifCond .eq 15, 3) := by decide +kernel
theorem dX11_hours_15 : decode mX11_hours.2.1 15 = .ok (.aload_n 0, 1) := by decide +kernel
theorem dX11_hours_16 : decode mX11_hours.2.1 16 = .ok (.getfield 150, 3) := by decide +kernel
theorem dX11_hours_19 : decode mX11_hours.2.1 19 = .ok (.iload_n 1, 1) := by decide +kernel
theorem dX11_hours_20 : decode mX11_hours.2.1 20 = .ok (.iadd, 1) := by decide +kernel
theorem dX11_hours_21 : decode mX11_hours.2.1 21 = .ok (.sipush 9999, 3) := by decide +kernel
theorem dX11_hours_24 : decode mX11_hours.2.1 24 = .ok (.if_icmp .le 5, 3) := by decide +kernel
theorem dX11_hours_27 : decode mX11_hours.2.1 27 = .ok (.iconst (-1), 1) := by decide +kernel
theorem dX11_hours_28 : decode mX11_hours.2.1 28 = .ok (.ireturn, 1) := by decide +kernel
theorem dX11_hours_29 : decode mX11_hours.2.1 29 = .ok (.iconst 0, 1) := by decide +kernel
theorem dX11_hours_30 : decode mX11_hours.2.1 30 = .ok (.istore_n 2, 1) := by decide +kernel
theorem dX11_hours_31 : decode mX11_hours.2.1 31 = .ok (.iload_n 2, 1) := by decide +kernel
theorem dX11_hours_32 : decode mX11_hours.2.1 32 = .ok (.iload_n 1, 1) := by decide +kernel
theorem dX11_hours_33 : decode mX11_hours.2.1 33 = .ok (.if_icmp .ge 13, 3) := by decide +kernel
theorem dX11_hours_36 : decode mX11_hours.2.1 36 = .ok (.aload_n 0, 1) := by decide +kernel
theorem dX11_hours_37 : decode mX11_hours.2.1 37 = .ok (.invokevirtual 210, 3) := by decide +kernel
theorem dX11_hours_40 : decode mX11_hours.2.1 40 = .ok (.iinc 2 1, 3) := by decide +kernel
theorem dX11_hours_43 : decode mX11_hours.2.1 43 = .ok (.goto (-12), 3) := by decide +kernel
theorem dX11_hours_46 : decode mX11_hours.2.1 46 = .ok (.aload_n 0, 1) := by decide +kernel
theorem dX11_hours_47 : decode mX11_hours.2.1 47 = .ok (.getfield 150, 3) := by decide +kernel
theorem dX11_hours_50 : decode mX11_hours.2.1 50 = .ok (.ireturn, 1) := by decide +kernel
theorem dX11_init_0 : decode mX11_init.2.1 0 = .ok (.aload_n 0, 1) := by decide +kernel
theorem dX11_init_1 : decode mX11_init.2.1 1 = .ok (.invokespecial 7, 3) := by decide +kernel
theorem dX11_init_4 : decode mX11_init.2.1 4 = .ok (.aload_n 0, 1) := by decide +kernel
theorem dX11_init_5 : decode mX11_init.2.1 5 = .ok (.bipush 6, 2) := by decide +kernel
theorem dX11_init_7 : decode mX11_init.2.1 7 = .ok (.newarray .int, 2) := by decide +kernel
theorem dX11_init_9 : decode mX11_init.2.1 9 = .ok (.putfield 13, 3) := by decide +kernel
theorem dX11_init_12 : decode mX11_init.2.1 12 = .ok (.aload_n 0, 1) := by decide +kernel
theorem dX11_init_13 : decode mX11_init.2.1 13 = .ok (.bipush 6, 2) := by decide +kernel
theorem dX11_init_15 : decode mX11_init.2.1 15 = .ok (.newarray .int, 2) := by decide +kernel
theorem dX11_init_17 : decode mX11_init.2.1 17 = .ok (.putfield 17, 3) := by decide +kernel
theorem dX11_init_20 : decode mX11_init.2.1 20 = .ok (.aload_n 0, 1) := by decide +kernel
theorem dX11_init_21 : decode mX11_init.2.1 21 = .ok (.bipush 6, 2) := by decide +kernel
theorem dX11_init_23 : decode mX11_init.2.1 23 = .ok (.newarray .boolean, 2) := by decide +kernel
theorem dX11_init_25 : decode mX11_init.2.1 25 = .ok (.putfield 20, 3) := by decide +kernel
theorem dX11_init_28 : decode mX11_init.2.1 28 = .ok (.aload_n 0, 1) := by decide +kernel
theorem dX11_init_29 : decode mX11_init.2.1 29 = .ok (.bipush 60, 2) := by decide +kernel
theorem dX11_init_31 : decode mX11_init.2.1 31 = .ok (.newarray .int, 2) := by decide +kernel
theorem dX11_init_33 : decode mX11_init.2.1 33 = .ok (.putfield 24, 3) := by decide +kernel
theorem dX11_init_36 : decode mX11_init.2.1 36 = .ok (.aload_n 0, 1) := by decide +kernel
theorem dX11_init_37 : decode mX11_init.2.1 37 = .ok (.bipush 60, 2) := by decide +kernel
theorem dX11_init_39 : decode mX11_init.2.1 39 = .ok (.newarray .int, 2) := by decide +kernel
theorem dX11_init_41 : decode mX11_init.2.1 41 = .ok (.putfield 27, 3) := by decide +kernel
theorem dX11_init_44 : decode mX11_init.2.1 44 = .ok (.aload_n 0, 1) := by decide +kernel
theorem dX11_init_45 : decode mX11_init.2.1 45 = .ok (.bipush 60, 2) := by decide +kernel
theorem dX11_init_47 : decode mX11_init.2.1 47 = .ok (.newarray .int, 2) := by decide +kernel
theorem dX11_init_49 : decode mX11_init.2.1 49 = .ok (.putfield 30, 3) := by decide +kernel
theorem dX11_init_52 : decode mX11_init.2.1 52 = .ok (.aload_n 0, 1) := by decide +kernel
theorem dX11_init_53 : decode mX11_init.2.1 53 = .ok (.bipush 60, 2) := by decide +kernel
theorem dX11_init_55 : decode mX11_init.2.1 55 = .ok (.newarray .int, 2) := by decide +kernel
theorem dX11_init_57 : decode mX11_init.2.1 57 = .ok (.putfield 33, 3) := by decide +kernel
theorem dX11_init_60 : decode mX11_init.2.1 60 = .ok (.aload_n 0, 1) := by decide +kernel
theorem dX11_init_61 : decode mX11_init.2.1 61 = .ok (.iconst 4, 1) := by decide +kernel
theorem dX11_init_62 : decode mX11_init.2.1 62 = .ok (.newarray .int, 2) := by decide +kernel
theorem dX11_init_64 : decode mX11_init.2.1 64 = .ok (.putfield 36, 3) := by decide +kernel
theorem dX11_init_67 : decode mX11_init.2.1 67 = .ok (.aload_n 0, 1) := by decide +kernel
theorem dX11_init_68 : decode mX11_init.2.1 68 = .ok (.iconst 4, 1) := by decide +kernel
theorem dX11_init_69 : decode mX11_init.2.1 69 = .ok (.newarray .int, 2) := by decide +kernel
theorem dX11_init_71 : decode mX11_init.2.1 71 = .ok (.putfield 39, 3) := by decide +kernel
theorem dX11_init_74 : decode mX11_init.2.1 74 = .ok (.aload_n 0, 1) := by decide +kernel
theorem dX11_init_75 : decode mX11_init.2.1 75 = .ok (.iconst 4, 1) := by decide +kernel
theorem dX11_init_76 : decode mX11_init.2.1 76 = .ok (.newarray .boolean, 2) := by decide +kernel
theorem dX11_init_78 : decode mX11_init.2.1 78 = .ok (.putfield 42, 3) := by decide +kernel
theorem dX11_init_81 : decode mX11_init.2.1 81 = .ok (.aload_n 0, 1) := by decide +kernel
theorem dX11_init_82 : decode mX11_init.2.1 82 = .ok (.iconst 4, 1) := by decide +kernel
theorem dX11_init_83 : decode mX11_init.2.1 83 = .ok (.newarray .int, 2) := by decide +kernel
theorem dX11_init_85 : decode mX11_init.2.1 85 = .ok (.putfield 45, 3) := by decide +kernel
theorem dX11_init_88 : decode mX11_init.2.1 88 = .ok (.aload_n 0, 1) := by decide +kernel
theorem dX11_init_89 : decode mX11_init.2.1 89 = .ok (.bipush 12, 2) := by decide +kernel
theorem dX11_init_91 : decode mX11_init.2.1 91 = .ok (.newarray .int, 2) := by decide +kernel
theorem dX11_init_93 : decode mX11_init.2.1 93 = .ok (.putfield 48, 3) := by decide +kernel
theorem dX11_init_96 : decode mX11_init.2.1 96 = .ok (.aload_n 0, 1) := by decide +kernel
theorem dX11_init_97 : decode mX11_init.2.1 97 = .ok (.bipush 12, 2) := by decide +kernel
theorem dX11_init_99 : decode mX11_init.2.1 99 = .ok (.newarray .int, 2) := by decide +kernel
theorem dX11_init_101 : decode mX11_init.2.1 101 = .ok (.putfield 51, 3) := by decide +kernel
theorem dX11_init_104 : decode mX11_init.2.1 104 = .ok (.aload_n 0, 1) := by decide +kernel
theorem dX11_init_105 : decode mX11_init.2.1 105 = .ok (.bipush 12, 2) := by decide +kernel
theorem dX11_init_107 : decode mX11_init.2.1 107 = .ok (.newarray .boolean, 2) := by decide +kernel
theorem dX11_init_109 : decode mX11_init.2.1 109 = .ok (.putfield 54, 3) := by decide +kernel
theorem dX11_init_112 : decode mX11_init.2.1 112 = .ok (.aload_n 0, 1) := by decide +kernel
theorem dX11_init_113 : decode mX11_init.2.1 113 = .ok (.bipush 12, 2) := by decide +kernel
theorem dX11_init_115 : decode mX11_init.2.1 115 = .ok (.newarray .int, 2) := by decide +kernel
theorem dX11_init_117 : decode mX11_init.2.1 117 = .ok (.putfield 57, 3) := by decide +kernel
theorem dX11_init_120 : decode mX11_init.2.1 120 = .ok (.aload_n 0, 1) := by decide +kernel
theorem dX11_init_121 : decode mX11_init.2.1 121 = .ok (.bipush 100, 2) := by decide +kernel
theorem dX11_init_123 : decode mX11_init.2.1 123 = .ok (.newarray .int, 2) := by decide +kernel
theorem dX11_init_125 : decode mX11_init.2.1 125 = .ok (.putfield 60, 3) := by decide +kernel
theorem dX11_init_128 : decode mX11_init.2.1 128 = .ok (.aload_n 0, 1) := by decide +kernel
theorem dX11_init_129 : decode mX11_init.2.1 129 = .ok (.bipush 100, 2) := by decide +kernel
theorem dX11_init_131 : decode mX11_init.2.1 131 = .ok (.newarray .int, 2) := by decide +kernel
theorem dX11_init_133 : decode mX11_init.2.1 133 = .ok (.putfield 63, 3) := by decide +kernel
theorem dX11_init_136 : decode mX11_init.2.1 136 = .ok (.aload_n 0, 1) := by decide +kernel
theorem dX11_init_137 : decode mX11_init.2.1 137 = .ok (.bipush 100, 2) := by decide +kernel
theorem dX11_init_139 : decode mX11_init.2.1 139 = .ok (.newarray .int, 2) := by decide +kernel
theorem dX11_init_141 : decode mX11_init.2.1 141 = .ok (.putfield 66, 3) := by decide +kernel
theorem dX11_init_144 : decode mX11_init.2.1 144 = .ok (.aload_n 0, 1) := by decide +kernel
theorem dX11_init_145 : decode mX11_init.2.1 145 = .ok (.bipush 100, 2) := by decide +kernel
theorem dX11_init_147 : decode mX11_init.2.1 147 = .ok (.newarray .int, 2) := by decide +kernel
theorem dX11_init_149 : decode mX11_init.2.1 149 = .ok (.putfield 69, 3) := by decide +kernel
theorem dX11_init_152 : decode mX11_init.2.1 152 = .ok (.aload_n 0, 1) := by decide +kernel
theorem dX11_init_153 : decode mX11_init.2.1 153 = .ok (.bipush 100, 2) := by decide +kernel
theorem dX11_init_155 : decode mX11_init.2.1 155 = .ok (.newarray .int, 2) := by decide +kernel
theorem dX11_init_157 : decode mX11_init.2.1 157 = .ok (.putfield 72, 3) := by decide +kernel
theorem dX11_init_160 : decode mX11_init.2.1 160 = .ok (.aload_n 0, 1) := by decide +kernel
theorem dX11_init_161 : decode mX11_init.2.1 161 = .ok (.bipush 100, 2) := by decide +kernel
theorem dX11_init_163 : decode mX11_init.2.1 163 = .ok (.newarray .int, 2) := by decide +kernel
theorem dX11_init_165 : decode mX11_init.2.1 165 = .ok (.putfield 75, 3) := by decide +kernel
theorem dX11_init_168 : decode mX11_init.2.1 168 = .ok (.aload_n 0, 1) := by decide +kernel
theorem dX11_init_169 : decode mX11_init.2.1 169 = .ok (.bipush 100, 2) := by decide +kernel
theorem dX11_init_171 : decode mX11_init.2.1 171 = .ok (.newarray .int, 2) := by decide +kernel
theorem dX11_init_173 : decode mX11_init.2.1 173 = .ok (.putfield 78, 3) := by decide +kernel
theorem dX11_init_176 : decode mX11_init.2.1 176 = .ok (.aload_n 0, 1) := by decide +kernel
theorem dX11_init_177 : decode mX11_init.2.1 177 = .ok (.bipush 100, 2) := by decide +kernel
theorem dX11_init_179 : decode mX11_init.2.1 179 = .ok (.newarray .int, 2) := by decide +kernel
theorem dX11_init_181 : decode mX11_init.2.1 181 = .ok (.putfield 81, 3) := by decide +kernel
theorem dX11_init_184 : decode mX11_init.2.1 184 = .ok (.aload_n 0, 1) := by decide +kernel
theorem dX11_init_185 : decode mX11_init.2.1 185 = .ok (.bipush 100, 2) := by decide +kernel
theorem dX11_init_187 : decode mX11_init.2.1 187 = .ok (.newarray .int, 2) := by decide +kernel
theorem dX11_init_189 : decode mX11_init.2.1 189 = .ok (.putfield 84, 3) := by decide +kernel
theorem dX11_init_192 : decode mX11_init.2.1 192 = .ok (.aload_n 0, 1) := by decide +kernel
theorem dX11_init_193 : decode mX11_init.2.1 193 = .ok (.bipush 100, 2) := by decide +kernel
theorem dX11_init_195 : decode mX11_init.2.1 195 = .ok (.newarray .int, 2) := by decide +kernel
theorem dX11_init_197 : decode mX11_init.2.1 197 = .ok (.putfield 87, 3) := by decide +kernel
theorem dX11_init_200 : decode mX11_init.2.1 200 = .ok (.aload_n 0, 1) := by decide +kernel
theorem dX11_init_201 : decode mX11_init.2.1 201 = .ok (.sipush 700, 3) := by decide +kernel
theorem dX11_init_204 : decode mX11_init.2.1 204 = .ok (.newarray .int, 2) := by decide +kernel
theorem dX11_init_206 : decode mX11_init.2.1 206 = .ok (.putfield 90, 3) := by decide +kernel
theorem dX11_init_209 : decode mX11_init.2.1 209 = .ok (.aload_n 0, 1) := by decide +kernel
theorem dX11_init_210 : decode mX11_init.2.1 210 = .ok (.sipush 700, 3) := by decide +kernel
theorem dX11_init_213 : decode mX11_init.2.1 213 = .ok (.newarray .int, 2) := by decide +kernel
theorem dX11_init_215 : decode mX11_init.2.1 215 = .ok (.putfield 93, 3) := by decide +kernel
theorem dX11_init_218 : decode mX11_init.2.1 218 = .ok (.aload_n 0, 1) := by decide +kernel
theorem dX11_init_219 : decode mX11_init.2.1 219 = .ok (.sipush 700, 3) := by decide +kernel
theorem dX11_init_222 : decode mX11_init.2.1 222 = .ok (.newarray .int, 2) := by decide +kernel
theorem dX11_init_224 : decode mX11_init.2.1 224 = .ok (.putfield 96, 3) := by decide +kernel
theorem dX11_init_227 : decode mX11_init.2.1 227 = .ok (.aload_n 0, 1) := by decide +kernel
theorem dX11_init_228 : decode mX11_init.2.1 228 = .ok (.bipush 10, 2) := by decide +kernel
theorem dX11_init_230 : decode mX11_init.2.1 230 = .ok (.newarray .int, 2) := by decide +kernel
theorem dX11_init_232 : decode mX11_init.2.1 232 = .ok (.putfield 99, 3) := by decide +kernel
theorem dX11_init_235 : decode mX11_init.2.1 235 = .ok (.aload_n 0, 1) := by decide +kernel
theorem dX11_init_236 : decode mX11_init.2.1 236 = .ok (.bipush 10, 2) := by decide +kernel
theorem dX11_init_238 : decode mX11_init.2.1 238 = .ok (.newarray .int, 2) := by decide +kernel
theorem dX11_init_240 : decode mX11_init.2.1 240 = .ok (.putfield 102, 3) := by decide +kernel
theorem dX11_init_243 : decode mX11_init.2.1 243 = .ok (.aload_n 0, 1) := by decide +kernel
theorem dX11_init_244 : decode mX11_init.2.1 244 = .ok (.bipush 10, 2) := by decide +kernel
theorem dX11_init_246 : decode mX11_init.2.1 246 = .ok (.newarray .int, 2) := by decide +kernel
theorem dX11_init_248 : decode mX11_init.2.1 248 = .ok (.putfield 105, 3) := by decide +kernel
theorem dX11_init_251 : decode mX11_init.2.1 251 = .ok (.aload_n 0, 1) := by decide +kernel
theorem dX11_init_252 : decode mX11_init.2.1 252 = .ok (.sipush 400, 3) := by decide +kernel
theorem dX11_init_255 : decode mX11_init.2.1 255 = .ok (.newarray .byte, 2) := by decide +kernel
theorem dX11_init_257 : decode mX11_init.2.1 257 = .ok (.putfield 108, 3) := by decide +kernel
theorem dX11_init_260 : decode mX11_init.2.1 260 = .ok (.aload_n 0, 1) := by decide +kernel
theorem dX11_init_261 : decode mX11_init.2.1 261 = .ok (.iconst (-1), 1) := by decide +kernel
theorem dX11_init_262 : decode mX11_init.2.1 262 = .ok (.putfield 112, 3) := by decide +kernel
theorem dX11_init_265 : decode mX11_init.2.1 265 = .ok (.aload_n 0, 1) := by decide +kernel
theorem dX11_init_266 : decode mX11_init.2.1 266 = .ok (.bipush 11, 2) := by decide +kernel
theorem dX11_init_268 : decode mX11_init.2.1 268 = .ok (.newarray .int, 2) := by decide +kernel
theorem dX11_init_270 : decode mX11_init.2.1 270 = .ok (.putfield 115, 3) := by decide +kernel
theorem dX11_init_273 : decode mX11_init.2.1 273 = .ok (.aload_n 0, 1) := by decide +kernel
theorem dX11_init_274 : decode mX11_init.2.1 274 = .ok (.bipush 11, 2) := by decide +kernel
theorem dX11_init_276 : decode mX11_init.2.1 276 = .ok (.newarray .int, 2) := by decide +kernel
theorem dX11_init_278 : decode mX11_init.2.1 278 = .ok (.putfield 118, 3) := by decide +kernel
theorem dX11_init_281 : decode mX11_init.2.1 281 = .ok (.aload_n 0, 1) := by decide +kernel
theorem dX11_init_282 : decode mX11_init.2.1 282 = .ok (.sipush 220, 3) := by decide +kernel
theorem dX11_init_285 : decode mX11_init.2.1 285 = .ok (.newarray .int, 2) := by decide +kernel
theorem dX11_init_287 : decode mX11_init.2.1 287 = .ok (.putfield 121, 3) := by decide +kernel
theorem dX11_init_290 : decode mX11_init.2.1 290 = .ok (.aload_n 0, 1) := by decide +kernel
theorem dX11_init_291 : decode mX11_init.2.1 291 = .ok (.sipush 220, 3) := by decide +kernel
theorem dX11_init_294 : decode mX11_init.2.1 294 = .ok (.newarray .int, 2) := by decide +kernel
theorem dX11_init_296 : decode mX11_init.2.1 296 = .ok (.putfield 124, 3) := by decide +kernel
theorem dX11_init_299 : decode mX11_init.2.1 299 = .ok (.aload_n 0, 1) := by decide +kernel
theorem dX11_init_300 : decode mX11_init.2.1 300 = .ok (.sipush 880, 3) := by decide +kernel
theorem dX11_init_303 : decode mX11_init.2.1 303 = .ok (.newarray .int, 2) := by decide +kernel
theorem dX11_init_305 : decode mX11_init.2.1 305 = .ok (.putfield 127, 3) := by decide +kernel
theorem dX11_init_308 : decode mX11_init.2.1 308 = .ok (.aload_n 0, 1) := by decide +kernel
theorem dX11_init_309 : decode mX11_init.2.1 309 = .ok (.sipush 880, 3) := by decide +kernel
theorem dX11_init_312 : decode mX11_init.2.1 312 = .ok (.newarray .int, 2) := by decide +kernel
theorem dX11_init_314 : decode mX11_init.2.1 314 = .ok (.putfield 130, 3) := by decide +kernel
theorem dX11_init_317 : decode mX11_init.2.1 317 = .ok (.aload_n 0, 1) := by decide +kernel
theorem dX11_init_318 : decode mX11_init.2.1 318 = .ok (.sipush 880, 3) := by decide +kernel
theorem dX11_init_321 : decode mX11_init.2.1 321 = .ok (.newarray .int, 2) := by decide +kernel
theorem dX11_init_323 : decode mX11_init.2.1 323 = .ok (.putfield 133, 3) := by decide +kernel
theorem dX11_init_326 : decode mX11_init.2.1 326 = .ok (.return_, 1) := by decide +kernel
theorem dX11_inn_0 : decode mX11_inn.2.1 0 = .ok (.aload_n 0, 1) := by decide +kernel
theorem dX11_inn_1 : decode mX11_inn.2.1 1 = .ok (.iconst 0, 1) := by decide +kernel
theorem dX11_inn_2 : decode mX11_inn.2.1 2 = .ok (.putfield 1, 3) := by decide +kernel
theorem dX11_inn_5 : decode mX11_inn.2.1 5 = .ok (.aload_n 0, 1) := by decide +kernel
theorem dX11_inn_6 : decode mX11_inn.2.1 6 = .ok (.getfield 136, 3) := by decide +kernel
theorem dX11_inn_9 : decode mX11_inn.2.1 9 = .ok (.bipush 6, 2) := by decide +kernel
theorem dX11_inn_11 : decode mX11_inn.2.1 11 = .ok (.if_icmp .ne 5, 3) := by decide +kernel
theorem dX11_inn_14 : decode mX11_inn.2.1 14 = .ok (.iconst (-1), 1) := by decide +kernel
theorem dX11_inn_15 : decode mX11_inn.2.1 15 = .ok (.ireturn, 1) := by decide +kernel
theorem dX11_inn_16 : decode mX11_inn.2.1 16 = .ok (.aload_n 0, 1) := by decide +kernel
theorem dX11_inn_17 : decode mX11_inn.2.1 17 = .ok (.getfield 136, 3) := by decide +kernel
theorem dX11_inn_20 : decode mX11_inn.2.1 20 = .ok (.ifCond .ne 23, 3) := by decide +kernel
theorem dX11_inn_23 : decode mX11_inn.2.1 23 = .ok (.iload_n 1, 1) := by decide +kernel
theorem dX11_inn_24 : decode mX11_inn.2.1 24 = .ok (.ifCond .ne 15, 3) := by decide +kernel
theorem dX11_inn_27 : decode mX11_inn.2.1 27 = .ok (.iload_n 2, 1) := by decide +kernel
theorem dX11_inn_28 : decode mX11_inn.2.1 28 = .ok (.ifCond .ne 11, 3) := by decide +kernel
theorem dX11_inn_31 : decode mX11_inn.2.1 31 = .ok (.iload_n 3, 1) := by decide +kernel
theorem dX11_inn_32 : decode mX11_inn.2.1 32 = .ok (.ifCond .ne 7, 3) := by decide +kernel
theorem dX11_inn_35 : decode mX11_inn.2.1 35 = .ok (.iconst 1, 1) := by decide +kernel
theorem dX11_inn_36 : decode mX11_inn.2.1 36 = .ok (.goto 32, 3) := by decide +kernel
theorem dX11_inn_39 : decode mX11_inn.2.1 39 = .ok (.iconst 0, 1) := by decide +kernel
theorem dX11_inn_40 : decode mX11_inn.2.1 40 = .ok (.goto 28, 3) := by decide +kernel
theorem dX11_inn_43 : decode mX11_inn.2.1 43 = .ok (.iload_n 1, 1) := by decide +kernel
theorem dX11_inn_44 : decode mX11_inn.2.1 44 = .ok (.iconst 1, 1) := by decide +kernel
theorem dX11_inn_45 : decode mX11_inn.2.1 45 = .ok (.bipush 9, 2) := by decide +kernel
theorem dX11_inn_47 : decode mX11_inn.2.1 47 = .ok (.invokestatic 139, 3) := by decide +kernel
theorem dX11_inn_50 : decode mX11_inn.2.1 50 = .ok (.ifCond .eq 17, 3) := by decide +kernel
theorem dX11_inn_53 : decode mX11_inn.2.1 53 = .ok (.iload_n 2, 1) := by decide +kernel
theorem dX11_inn_54 : decode mX11_inn.2.1 54 = .ok (.iconst 0, 1) := by decide +kernel
theorem dX11_inn_55 : decode mX11_inn.2.1 55 = .ok (.bipush 9, 2) := by decide +kernel
theorem dX11_inn_57 : decode mX11_inn.2.1 57 = .ok (.invokestatic 139, 3) := by decide +kernel
theorem dX11_inn_60 : decode mX11_inn.2.1 60 = .ok (.ifCond .eq 7, 3) := by decide +kernel
theorem dX11_inn_63 : decode mX11_inn.2.1 63 = .ok (.iconst 1, 1) := by decide +kernel
theorem dX11_inn_64 : decode mX11_inn.2.1 64 = .ok (.goto 4, 3) := by decide +kernel
theorem dX11_inn_67 : decode mX11_inn.2.1 67 = .ok (.iconst 0, 1) := by decide +kernel
theorem dX11_inn_68 : decode mX11_inn.2.1 68 = .ok (.istore 4, 2) := by decide +kernel
theorem dX11_inn_70 : decode mX11_inn.2.1 70 = .ok (.iload 4, 2) := by decide +kernel
theorem dX11_inn_72 : decode mX11_inn.2.1 72 = .ok (.ifCond .ne 5, 3) := by decide +kernel
theorem dX11_inn_75 : decode mX11_inn.2.1 75 = .ok (.iconst (-1), 1) := by decide +kernel
theorem dX11_inn_76 : decode mX11_inn.2.1 76 = .ok (.ireturn, 1) := by decide +kernel
theorem dX11_inn_77 : decode mX11_inn.2.1 77 = .ok (.aload_n 0, 1) := by decide +kernel
theorem dX11_inn_78 : decode mX11_inn.2.1 78 = .ok (.getfield 136, 3) := by decide +kernel
theorem dX11_inn_81 : decode mX11_inn.2.1 81 = .ok (.ifCond .le 39, 3) := by decide +kernel
theorem dX11_inn_84 : decode mX11_inn.2.1 84 = .ok (.aload_n 0, 1) := by decide +kernel
theorem dX11_inn_85 : decode mX11_inn.2.1 85 = .ok (.getfield 13, 3) := by decide +kernel
theorem dX11_inn_88 : decode mX11_inn.2.1 88 = .ok (.aload_n 0, 1) := by decide +kernel
theorem dX11_inn_89 : decode mX11_inn.2.1 89 = .ok (.getfield 136, 3) := by decide +kernel
theorem dX11_inn_92 : decode mX11_inn.2.1 92 = .ok (.iconst 1, 1) := by decide +kernel
theorem dX11_inn_93 : decode mX11_inn.2.1 93 = .ok (.isub, 1) := by decide +kernel
theorem dX11_inn_94 : decode mX11_inn.2.1 94 = .ok (.iload_n 1, 1) := by decide +kernel
theorem dX11_inn_95 : decode mX11_inn.2.1 95 = .ok (.iastore, 1) := by decide +kernel
theorem dX11_inn_96 : decode mX11_inn.2.1 96 = .ok (.aload_n 0, 1) := by decide +kernel
theorem dX11_inn_97 : decode mX11_inn.2.1 97 = .ok (.getfield 17, 3) := by decide +kernel
theorem dX11_inn_100 : decode mX11_inn.2.1 100 = .ok (.aload_n 0, 1) := by decide +kernel
theorem dX11_inn_101 : decode mX11_inn.2.1 101 = .ok (.getfield 136, 3) := by decide +kernel
theorem dX11_inn_104 : decode mX11_inn.2.1 104 = .ok (.iconst 1, 1) := by decide +kernel
theorem dX11_inn_105 : decode mX11_inn.2.1 105 = .ok (.isub, 1) := by decide +kernel
theorem dX11_inn_106 : decode mX11_inn.2.1 106 = .ok (.iload_n 2, 1) := by decide +kernel
theorem dX11_inn_107 : decode mX11_inn.2.1 107 = .ok (.iastore, 1) := by decide +kernel
theorem dX11_inn_108 : decode mX11_inn.2.1 108 = .ok (.aload_n 0, 1) := by decide +kernel
theorem dX11_inn_109 : decode mX11_inn.2.1 109 = .ok (.getfield 20, 3) := by decide +kernel
theorem dX11_inn_112 : decode mX11_inn.2.1 112 = .ok (.aload_n 0, 1) := by decide +kernel
theorem dX11_inn_113 : decode mX11_inn.2.1 113 = .ok (.getfield 136, 3) := by decide +kernel
theorem dX11_inn_116 : decode mX11_inn.2.1 116 = .ok (.iconst 1, 1) := by decide +kernel
theorem dX11_inn_117 : decode mX11_inn.2.1 117 = .ok (.isub, 1) := by decide +kernel
theorem dX11_inn_118 : decode mX11_inn.2.1 118 = .ok (.iload_n 3, 1) := by decide +kernel
theorem dX11_inn_119 : decode mX11_inn.2.1 119 = .ok (.bastore, 1) := by decide +kernel
theorem dX11_inn_120 : decode mX11_inn.2.1 120 = .ok (.aload_n 0, 1) := by decide +kernel
theorem dX11_inn_121 : decode mX11_inn.2.1 121 = .ok (.dup, 1) := by decide +kernel
theorem dX11_inn_122 : decode mX11_inn.2.1 122 = .ok (.getfield 136, 3) := by decide +kernel
theorem dX11_inn_125 : decode mX11_inn.2.1 125 = .ok (.iconst 1, 1) := by decide +kernel
theorem dX11_inn_126 : decode mX11_inn.2.1 126 = .ok (.iadd, 1) := by decide +kernel
theorem dX11_inn_127 : decode mX11_inn.2.1 127 = .ok (.putfield 136, 3) := by decide +kernel
theorem dX11_inn_130 : decode mX11_inn.2.1 130 = .ok (.aload_n 0, 1) := by decide +kernel
theorem dX11_inn_131 : decode mX11_inn.2.1 131 = .ok (.getfield 136, 3) := by decide +kernel
theorem dX11_inn_134 : decode mX11_inn.2.1 134 = .ok (.iconst 1, 1) := by decide +kernel
theorem dX11_inn_135 : decode mX11_inn.2.1 135 = .ok (.isub, 1) := by decide +kernel
theorem dX11_inn_136 : decode mX11_inn.2.1 136 = .ok (.ireturn, 1) := by decide +kernel
theorem dX11_innOf_0 : decode mX11_innOf.2.1 0 = .ok (.aload_n 0, 1) := by decide +kernel
theorem dX11_innOf_1 : decode mX11_innOf.2.1 1 = .ok (.getfield 69, 3) := by decide +kernel
theorem dX11_innOf_4 : decode mX11_innOf.2.1 4 = .ok (.iload_n 1, 1) := by decide +kernel
theorem dX11_innOf_5 : decode mX11_innOf.2.1 5 = .ok (.iaload, 1) := by decide +kernel
theorem dX11_innOf_6 : decode mX11_innOf.2.1 6 = .ok (.ifCond .ne 12, 3) := by decide +kernel
theorem dX11_innOf_9 : decode mX11_innOf.2.1 9 = .ok (.aload_n 0, 1) := by decide +kernel
theorem dX11_innOf_10 : decode mX11_innOf.2.1 10 = .ok (.getfield 72, 3) := by decide +kernel
theorem dX11_innOf_13 : decode mX11_innOf.2.1 13 = .ok (.iload_n 1, 1) := by decide +kernel
theorem dX11_innOf_14 : decode mX11_innOf.2.1 14 = .ok (.iaload, 1) := by decide +kernel
theorem dX11_innOf_15 : decode mX11_innOf.2.1 15 = .ok (.goto 16, 3) := by decide +kernel
theorem dX11_innOf_18 : decode mX11_innOf.2.1 18 = .ok (.aload_n 0, 1) := by decide +kernel
theorem dX11_innOf_19 : decode mX11_innOf.2.1 19 = .ok (.getfield 36, 3) := by decide +kernel
theorem dX11_innOf_22 : decode mX11_innOf.2.1 22 = .ok (.aload_n 0, 1) := by decide +kernel
theorem dX11_innOf_23 : decode mX11_innOf.2.1 23 = .ok (.getfield 75, 3) := by decide +kernel
theorem dX11_innOf_26 : decode mX11_innOf.2.1 26 = .ok (.iload_n 1, 1) := by decide +kernel
theorem dX11_innOf_27 : decode mX11_innOf.2.1 27 = .ok (.iaload, 1) := by decide +kernel
theorem dX11_innOf_28 : decode mX11_innOf.2.1 28 = .ok (.iconst 3, 1) := by decide +kernel
theorem dX11_innOf_29 : decode mX11_innOf.2.1 29 = .ok (.idiv, 1) := by decide +kernel
theorem dX11_innOf_30 : decode mX11_innOf.2.1 30 = .ok (.iaload, 1) := by decide +kernel
theorem dX11_innOf_31 : decode mX11_innOf.2.1 31 = .ok (.ireturn, 1) := by decide +kernel
theorem dX11_is_0 : decode mX11_is.2.1 0 = .ok (.aload_n 0, 1) := by decide +kernel
theorem dX11_is_1 : decode mX11_is.2.1 1 = .ok (.getfield 239, 3) := by decide +kernel
theorem dX11_is_4 : decode mX11_is.2.1 4 = .ok (.iconst 4, 1) := by decide +kernel
theorem dX11_is_5 : decode mX11_is.2.1 5 = .ok (.if_icmp .ne 15, 3) := by decide +kernel
theorem dX11_is_8 : decode mX11_is.2.1 8 = .ok (.aload_n 0, 1) := by decide +kernel
theorem dX11_is_9 : decode mX11_is.2.1 9 = .ok (.getfield 251, 3) := by decide +kernel
theorem dX11_is_12 : decode mX11_is.2.1 12 = .ok (.iload_n 1, 1) := by decide +kernel
theorem dX11_is_13 : decode mX11_is.2.1 13 = .ok (.if_icmp .ne 7, 3) := by decide +kernel
theorem dX11_is_16 : decode mX11_is.2.1 16 = .ok (.iconst 1, 1) := by decide +kernel
theorem dX11_is_17 : decode mX11_is.2.1 17 = .ok (.goto 4, 3) := by decide +kernel
theorem dX11_is_20 : decode mX11_is.2.1 20 = .ok (.iconst 0, 1) := by decide +kernel
theorem dX11_is_21 : decode mX11_is.2.1 21 = .ok (.ireturn, 1) := by decide +kernel
theorem dX11_isDigit_0 : decode mX11_isDigit.2.1 0 = .ok (.iload_n 0, 1) := by decide +kernel
theorem dX11_isDigit_1 : decode mX11_isDigit.2.1 1 = .ok (.bipush 48, 2) := by decide +kernel
theorem dX11_isDigit_3 : decode mX11_isDigit.2.1 3 = .ok (.if_icmp .lt 13, 3) := by decide +kernel
theorem dX11_isDigit_6 : decode mX11_isDigit.2.1 6 = .ok (.iload_n 0, 1) := by decide +kernel
theorem dX11_isDigit_7 : decode mX11_isDigit.2.1 7 = .ok (.bipush 57, 2) := by decide +kernel
theorem dX11_isDigit_9 : decode mX11_isDigit.2.1 9 = .ok (.if_icmp .gt 7, 3) := by decide +kernel
theorem dX11_isDigit_12 : decode mX11_isDigit.2.1 12 = .ok (.iconst 1, 1) := by decide +kernel
theorem dX11_isDigit_13 : decode mX11_isDigit.2.1 13 = .ok (.goto 4, 3) := by decide +kernel
theorem dX11_isDigit_16 : decode mX11_isDigit.2.1 16 = .ok (.iconst 0, 1) := by decide +kernel
theorem dX11_isDigit_17 : decode mX11_isDigit.2.1 17 = .ok (.ireturn, 1) := by decide +kernel
theorem dX11_isEven_0 : decode mX11_isEven.2.1 0 = .ok (.aload_n 0, 1) := by decide +kernel
theorem dX11_isEven_1 : decode mX11_isEven.2.1 1 = .ok (.iload_n 1, 1) := by decide +kernel
theorem dX11_isEven_2 : decode mX11_isEven.2.1 2 = .ok (.iconst 0, 1) := by decide +kernel
theorem dX11_isEven_3 : decode mX11_isEven.2.1 3 = .ok (.invokevirtual 178, 3) := by decide +kernel
theorem dX11_isEven_6 : decode mX11_isEven.2.1 6 = .ok (.aload_n 0, 1) := by decide +kernel
theorem dX11_isEven_7 : decode mX11_isEven.2.1 7 = .ok (.iload_n 1, 1) := by decide +kernel
theorem dX11_isEven_8 : decode mX11_isEven.2.1 8 = .ok (.iconst 1, 1) := by decide +kernel
theorem dX11_isEven_9 : decode mX11_isEven.2.1 9 = .ok (.invokevirtual 178, 3) := by decide +kernel
theorem dX11_isEven_12 : decode mX11_isEven.2.1 12 = .ok (.isub, 1) := by decide +kernel
theorem dX11_isEven_13 : decode mX11_isEven.2.1 13 = .ok (.istore_n 2, 1) := by decide +kernel
theorem dX11_isEven_14 : decode mX11_isEven.2.1 14 = .ok (.iload_n 2, 1) := by decide +kernel
theorem dX11_isEven_15 : decode mX11_isEven.2.1 15 = .ok (.bipush (-10), 2) := by decide +kernel
theorem dX11_isEven_17 : decode mX11_isEven.2.1 17 = .ok (.if_icmp .lt 13, 3) := by decide +kernel
theorem dX11_isEven_20 : decode mX11_isEven.2.1 20 = .ok (.iload_n 2, 1) := by decide +kernel
theorem dX11_isEven_21 : decode mX11_isEven.2.1 21 = .ok (.bipush 10, 2) := by decide +kernel
theorem dX11_isEven_23 : decode mX11_isEven.2.1 23 = .ok (.if_icmp .gt 7, 3) := by decide +kernel
theorem dX11_isEven_26 : decode mX11_isEven.2.1 26 = .ok (.iconst 1, 1) := by decide +kernel
theorem dX11_isEven_27 : decode mX11_isEven.2.1 27 = .ok (.goto 4, 3) := by decide +kernel
theorem dX11_isEven_30 : decode mX11_isEven.2.1 30 = .ok (.iconst 0, 1) := by decide +kernel
theorem dX11_isEven_31 : decode mX11_isEven.2.1 31 = .ok (.ireturn, 1) := by decide +kernel
theorem dX11_isInn_0 : decode mX11_isInn.2.1 0 = .ok (.iload_n 1, 1) := by decide +kernel
theorem dX11_isInn_1 : decode mX11_isInn.2.1 1 = .ok (.ifCond .lt 15, 3) := by decide +kernel
theorem dX11_isInn_4 : decode mX11_isInn.2.1 4 = .ok (.iload_n 1, 1) := by decide +kernel
theorem dX11_isInn_5 : decode mX11_isInn.2.1 5 = .ok (.aload_n 0, 1) := by decide +kernel
theorem dX11_isInn_6 : decode mX11_isInn.2.1 6 = .ok (.getfield 136, 3) := by decide +kernel
theorem dX11_isInn_9 : decode mX11_isInn.2.1 9 = .ok (.if_icmp .ge 7, 3) := by decide +kernel
theorem dX11_isInn_12 : decode mX11_isInn.2.1 12 = .ok (.iconst 1, 1) := by decide +kernel
theorem dX11_isInn_13 : decode mX11_isInn.2.1 13 = .ok (.goto 4, 3) := by decide +kernel
theorem dX11_isInn_16 : decode mX11_isInn.2.1 16 = .ok (.iconst 0, 1) := by decide +kernel
theorem dX11_isInn_17 : decode mX11_isInn.2.1 17 = .ok (.ireturn, 1) := by decide +kernel
theorem dX11_isLeg_0 : decode mX11_isLeg.2.1 0 = .ok (.iload_n 1, 1) := by decide +kernel
theorem dX11_isLeg_1 : decode mX11_isLeg.2.1 1 = .ok (.ifCond .lt 17, 3) := by decide +kernel
theorem dX11_isLeg_4 : decode mX11_isLeg.2.1 4 = .ok (.iload_n 1, 1) := by decide +kernel
theorem dX11_isLeg_5 : decode mX11_isLeg.2.1 5 = .ok (.aload_n 0, 1) := by decide +kernel
theorem dX11_isLeg_6 : decode mX11_isLeg.2.1 6 = .ok (.getfield 136, 3) := by decide +kernel
theorem dX11_isLeg_9 : decode mX11_isLeg.2.1 9 = .ok (.iconst 1, 1) := by decide +kernel
theorem dX11_isLeg_10 : decode mX11_isLeg.2.1 10 = .ok (.isub, 1) := by decide +kernel
theorem dX11_isLeg_11 : decode mX11_isLeg.2.1 11 = .ok (.if_icmp .ge 7, 3) := by decide +kernel
theorem dX11_isLeg_14 : decode mX11_isLeg.2.1 14 = .ok (.iconst 1, 1) := by decide +kernel
theorem dX11_isLeg_15 : decode mX11_isLeg.2.1 15 = .ok (.goto 4, 3) := by decide +kernel
theorem dX11_isLeg_18 : decode mX11_isLeg.2.1 18 = .ok (.iconst 0, 1) := by decide +kernel
theorem dX11_isLeg_19 : decode mX11_isLeg.2.1 19 = .ok (.ireturn, 1) := by decide +kernel
theorem dX11_isPack_0 : decode mX11_isPack.2.1 0 = .ok (.iload_n 1, 1) := by decide +kernel
theorem dX11_isPack_1 : decode mX11_isPack.2.1 1 = .ok (.ifCond .lt 15, 3) := by decide +kernel
theorem dX11_isPack_4 : decode mX11_isPack.2.1 4 = .ok (.iload_n 1, 1) := by decide +kernel
theorem dX11_isPack_5 : decode mX11_isPack.2.1 5 = .ok (.aload_n 0, 1) := by decide +kernel
theorem dX11_isPack_6 : decode mX11_isPack.2.1 6 = .ok (.getfield 165, 3) := by decide +kernel
theorem dX11_isPack_9 : decode mX11_isPack.2.1 9 = .ok (.if_icmp .ge 7, 3) := by decide +kernel
theorem dX11_isPack_12 : decode mX11_isPack.2.1 12 = .ok (.iconst 1, 1) := by decide +kernel
theorem dX11_isPack_13 : decode mX11_isPack.2.1 13 = .ok (.goto 4, 3) := by decide +kernel
theorem dX11_isPack_16 : decode mX11_isPack.2.1 16 = .ok (.iconst 0, 1) := by decide +kernel
theorem dX11_isPack_17 : decode mX11_isPack.2.1 17 = .ok (.ireturn, 1) := by decide +kernel
theorem dX11_isShut_0 : decode mX11_isShut.2.1 0 = .ok (.iconst 0, 1) := by decide +kernel
theorem dX11_isShut_1 : decode mX11_isShut.2.1 1 = .ok (.istore 4, 2) := by decide +kernel
theorem dX11_isShut_3 : decode mX11_isShut.2.1 3 = .ok (.iload 4, 2) := by decide +kernel
theorem dX11_isShut_5 : decode mX11_isShut.2.1 5 = .ok (.aload_n 0, 1) := by decide +kernel
theorem dX11_isShut_6 : decode mX11_isShut.2.1 6 = .ok (.getfield 147, 3) := by decide +kernel
theorem dX11_isShut_9 : decode mX11_isShut.2.1 9 = .ok (.if_icmp .ge 54, 3) := by decide +kernel
theorem dX11_isShut_12 : decode mX11_isShut.2.1 12 = .ok (.aload_n 0, 1) := by decide +kernel
theorem dX11_isShut_13 : decode mX11_isShut.2.1 13 = .ok (.getfield 24, 3) := by decide +kernel
theorem dX11_isShut_16 : decode mX11_isShut.2.1 16 = .ok (.iload 4, 2) := by decide +kernel
theorem dX11_isShut_18 : decode mX11_isShut.2.1 18 = .ok (.iaload, 1) := by decide +kernel
theorem dX11_isShut_19 : decode mX11_isShut.2.1 19 = .ok (.iload_n 1, 1) := by decide +kernel
theorem dX11_isShut_20 : decode mX11_isShut.2.1 20 = .ok (.if_icmp .ne 37, 3) := by decide +kernel
theorem dX11_isShut_23 : decode mX11_isShut.2.1 23 = .ok (.aload_n 0, 1) := by decide +kernel
theorem dX11_isShut_24 : decode mX11_isShut.2.1 24 = .ok (.getfield 33, 3) := by decide +kernel
theorem dX11_isShut_27 : decode mX11_isShut.2.1 27 = .ok (.iload 4, 2) := by decide +kernel
theorem dX11_isShut_29 : decode mX11_isShut.2.1 29 = .ok (.iaload, 1) := by decide +kernel
theorem dX11_isShut_30 : decode mX11_isShut.2.1 30 = .ok (.iload_n 3, 1) := by decide +kernel
theorem dX11_isShut_31 : decode mX11_isShut.2.1 31 = .ok (.if_icmp .gt 26, 3) := by decide +kernel
theorem dX11_isShut_34 : decode mX11_isShut.2.1 34 = .ok (.iload_n 2, 1) := by decide +kernel
theorem dX11_isShut_35 : decode mX11_isShut.2.1 35 = .ok (.aload_n 0, 1) := by decide +kernel
theorem dX11_isShut_36 : decode mX11_isShut.2.1 36 = .ok (.getfield 27, 3) := by decide +kernel
theorem dX11_isShut_39 : decode mX11_isShut.2.1 39 = .ok (.iload 4, 2) := by decide +kernel
theorem dX11_isShut_41 : decode mX11_isShut.2.1 41 = .ok (.iaload, 1) := by decide +kernel
theorem dX11_isShut_42 : decode mX11_isShut.2.1 42 = .ok (.aload_n 0, 1) := by decide +kernel
theorem dX11_isShut_43 : decode mX11_isShut.2.1 43 = .ok (.getfield 30, 3) := by decide +kernel
theorem dX11_isShut_46 : decode mX11_isShut.2.1 46 = .ok (.iload 4, 2) := by decide +kernel
theorem dX11_isShut_48 : decode mX11_isShut.2.1 48 = .ok (.iaload, 1) := by decide +kernel
theorem dX11_isShut_49 : decode mX11_isShut.2.1 49 = .ok (.invokestatic 139, 3) := by decide +kernel
theorem dX11_isShut_52 : decode mX11_isShut.2.1 52 = .ok (.ifCond .eq 5, 3) := by decide +kernel
theorem dX11_isShut_55 : decode mX11_isShut.2.1 55 = .ok (.iconst 1, 1) := by decide +kernel
theorem dX11_isShut_56 : decode mX11_isShut.2.1 56 = .ok (.ireturn, 1) := by decide +kernel
theorem dX11_isShut_57 : decode mX11_isShut.2.1 57 = .ok (.iinc 4 1, 3) := by decide +kernel
theorem dX11_isShut_60 : decode mX11_isShut.2.1 60 = .ok (.goto (-57), 3) := by decide +kernel
theorem dX11_isShut_63 : decode mX11_isShut.2.1 63 = .ok (.iconst 0, 1) := by decide +kernel
theorem dX11_isShut_64 : decode mX11_isShut.2.1 64 = .ok (.ireturn, 1) := by decide +kernel
theorem dX11_isSmall_0 : decode mX11_isSmall.2.1 0 = .ok (.iload_n 0, 1) := by decide +kernel
theorem dX11_isSmall_1 : decode mX11_isSmall.2.1 1 = .ok (.bipush 97, 2) := by decide +kernel
theorem dX11_isSmall_3 : decode mX11_isSmall.2.1 3 = .ok (.if_icmp .lt 13, 3) := by decide +kernel
theorem dX11_isSmall_6 : decode mX11_isSmall.2.1 6 = .ok (.iload_n 0, 1) := by decide +kernel
theorem dX11_isSmall_7 : decode mX11_isSmall.2.1 7 = .ok (.bipush 122, 2) := by decide +kernel
theorem dX11_isSmall_9 : decode mX11_isSmall.2.1 9 = .ok (.if_icmp .gt 7, 3) := by decide +kernel
theorem dX11_isSmall_12 : decode mX11_isSmall.2.1 12 = .ok (.iconst 1, 1) := by decide +kernel
theorem dX11_isSmall_13 : decode mX11_isSmall.2.1 13 = .ok (.goto 4, 3) := by decide +kernel
theorem dX11_isSmall_16 : decode mX11_isSmall.2.1 16 = .ok (.iconst 0, 1) := by decide +kernel
theorem dX11_isSmall_17 : decode mX11_isSmall.2.1 17 = .ok (.ireturn, 1) := by decide +kernel
theorem dX11_isString_0 : decode mX11_isString.2.1 0 = .ok (.iload_n 1, 1) := by decide +kernel
theorem dX11_isString_1 : decode mX11_isString.2.1 1 = .ok (.ifCond .lt 15, 3) := by decide +kernel
theorem dX11_isString_4 : decode mX11_isString.2.1 4 = .ok (.iload_n 1, 1) := by decide +kernel
theorem dX11_isString_5 : decode mX11_isString.2.1 5 = .ok (.aload_n 0, 1) := by decide +kernel
theorem dX11_isString_6 : decode mX11_isString.2.1 6 = .ok (.getfield 159, 3) := by decide +kernel
theorem dX11_isString_9 : decode mX11_isString.2.1 9 = .ok (.if_icmp .ge 7, 3) := by decide +kernel
theorem dX11_isString_12 : decode mX11_isString.2.1 12 = .ok (.iconst 1, 1) := by decide +kernel
theorem dX11_isString_13 : decode mX11_isString.2.1 13 = .ok (.goto 4, 3) := by decide +kernel
theorem dX11_isString_16 : decode mX11_isString.2.1 16 = .ok (.iconst 0, 1) := by decide +kernel
theorem dX11_isString_17 : decode mX11_isString.2.1 17 = .ok (.ireturn, 1) := by decide +kernel
theorem dX11_isWell_0 : decode mX11_isWell.2.1 0 = .ok (.aload_n 0, 1) := by decide +kernel
theorem dX11_isWell_1 : decode mX11_isWell.2.1 1 = .ok (.getfield 264, 3) := by decide +kernel
theorem dX11_isWell_4 : decode mX11_isWell.2.1 4 = .ok (.ifCond .ne 7, 3) := by decide +kernel
theorem dX11_isWell_7 : decode mX11_isWell.2.1 7 = .ok (.iconst 1, 1) := by decide +kernel
theorem dX11_isWell_8 : decode mX11_isWell.2.1 8 = .ok (.goto 4, 3) := by decide +kernel
theorem dX11_isWell_11 : decode mX11_isWell.2.1 11 = .ok (.iconst 0, 1) := by decide +kernel
theorem dX11_isWell_12 : decode mX11_isWell.2.1 12 = .ok (.ireturn, 1) := by decide +kernel
theorem dX11_isWord_0 : decode mX11_isWord.2.1 0 = .ok (.aload_n 0, 1) := by decide +kernel
theorem dX11_isWord_1 : decode mX11_isWord.2.1 1 = .ok (.getfield 239, 3) := by decide +kernel
theorem dX11_isWord_4 : decode mX11_isWord.2.1 4 = .ok (.iconst 3, 1) := by decide +kernel
theorem dX11_isWord_5 : decode mX11_isWord.2.1 5 = .ok (.if_icmp .ne 19, 3) := by decide +kernel
theorem dX11_isWord_8 : decode mX11_isWord.2.1 8 = .ok (.aload_n 0, 1) := by decide +kernel
theorem dX11_isWord_9 : decode mX11_isWord.2.1 9 = .ok (.getfield 233, 3) := by decide +kernel
theorem dX11_isWord_12 : decode mX11_isWord.2.1 12 = .ok (.aload_n 0, 1) := by decide +kernel
theorem dX11_isWord_13 : decode mX11_isWord.2.1 13 = .ok (.getfield 236, 3) := by decide +kernel
theorem dX11_isWord_16 : decode mX11_isWord.2.1 16 = .ok (.isub, 1) := by decide +kernel
theorem dX11_isWord_17 : decode mX11_isWord.2.1 17 = .ok (.aload_n 1, 1) := by decide +kernel
theorem dX11_isWord_18 : decode mX11_isWord.2.1 18 = .ok (.invokevirtual 254, 3) := by decide +kernel
theorem dX11_isWord_21 : decode mX11_isWord.2.1 21 = .ok (.if_icmp .eq 5, 3) := by decide +kernel
theorem dX11_isWord_24 : decode mX11_isWord.2.1 24 = .ok (.iconst 0, 1) := by decide +kernel
theorem dX11_isWord_25 : decode mX11_isWord.2.1 25 = .ok (.ireturn, 1) := by decide +kernel
theorem dX11_isWord_26 : decode mX11_isWord.2.1 26 = .ok (.iconst 0, 1) := by decide +kernel
theorem dX11_isWord_27 : decode mX11_isWord.2.1 27 = .ok (.istore_n 2, 1) := by decide +kernel
theorem dX11_isWord_28 : decode mX11_isWord.2.1 28 = .ok (.iload_n 2, 1) := by decide +kernel
theorem dX11_isWord_29 : decode mX11_isWord.2.1 29 = .ok (.aload_n 1, 1) := by decide +kernel
theorem dX11_isWord_30 : decode mX11_isWord.2.1 30 = .ok (.invokevirtual 254, 3) := by decide +kernel
theorem dX11_isWord_33 : decode mX11_isWord.2.1 33 = .ok (.if_icmp .ge 30, 3) := by decide +kernel
theorem dX11_isWord_36 : decode mX11_isWord.2.1 36 = .ok (.aload_n 0, 1) := by decide +kernel
theorem dX11_isWord_37 : decode mX11_isWord.2.1 37 = .ok (.getfield 108, 3) := by decide +kernel
theorem dX11_isWord_40 : decode mX11_isWord.2.1 40 = .ok (.aload_n 0, 1) := by decide +kernel
theorem dX11_isWord_41 : decode mX11_isWord.2.1 41 = .ok (.getfield 236, 3) := by decide +kernel
theorem dX11_isWord_44 : decode mX11_isWord.2.1 44 = .ok (.iload_n 2, 1) := by decide +kernel
theorem dX11_isWord_45 : decode mX11_isWord.2.1 45 = .ok (.iadd, 1) := by decide +kernel
theorem dX11_isWord_46 : decode mX11_isWord.2.1 46 = .ok (.baload, 1) := by decide +kernel
theorem dX11_isWord_47 : decode mX11_isWord.2.1 47 = .ok (.aload_n 1, 1) := by decide +kernel
theorem dX11_isWord_48 : decode mX11_isWord.2.1 48 = .ok (.iload_n 2, 1) := by decide +kernel
theorem dX11_isWord_49 : decode mX11_isWord.2.1 49 = .ok (.invokevirtual 260, 3) := by decide +kernel
theorem dX11_isWord_52 : decode mX11_isWord.2.1 52 = .ok (.if_icmp .eq 5, 3) := by decide +kernel
theorem dX11_isWord_55 : decode mX11_isWord.2.1 55 = .ok (.iconst 0, 1) := by decide +kernel
theorem dX11_isWord_56 : decode mX11_isWord.2.1 56 = .ok (.ireturn, 1) := by decide +kernel
theorem dX11_isWord_57 : decode mX11_isWord.2.1 57 = .ok (.iinc 2 1, 3) := by decide +kernel
theorem dX11_isWord_60 : decode mX11_isWord.2.1 60 = .ok (.goto (-32), 3) := by decide +kernel
theorem dX11_isWord_63 : decode mX11_isWord.2.1 63 = .ok (.iconst 1, 1) := by decide +kernel
theorem dX11_isWord_64 : decode mX11_isWord.2.1 64 = .ok (.ireturn, 1) := by decide +kernel
theorem dX11_lay_0 : decode mX11_lay.2.1 0 = .ok (.aload_n 0, 1) := by decide +kernel
theorem dX11_lay_1 : decode mX11_lay.2.1 1 = .ok (.iconst 0, 1) := by decide +kernel
