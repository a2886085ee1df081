theorem dX10_down_22 : decode mX10_down.2.1 22 = .ok (.ireturn, 1) := by decide +kernel
theorem dX10_down_23 : decode mX10_down.2.1 23 = .ok (.aload_n 0, 1) := by decide +kernel
theorem dX10_down_24 : decode mX10_down.2.1 24 = .ok (.aload_n 2, 1) := by decide +kernel
theorem dX10_down_25 : decode mX10_down.2.1 25 = .ok (.getfield 134, 3) := by decide +kernel
theorem dX10_down_28 : decode mX10_down.2.1 28 = .ok (.invokevirtual 116, 3) := by decide +kernel
theorem dX10_down_31 : decode mX10_down.2.1 31 = .ok (.astore_n 3, 1) := by decide +kernel
theorem dX10_down_32 : decode mX10_down.2.1 32 = .ok (.aload_n 3, 1) := by decide +kernel
theorem dX10_down_33 : decode mX10_down.2.1 33 = .ok (.ifnull 11, 3) := by decide +kernel
theorem dX10_down_36 : decode mX10_down.2.1 36 = .ok (.aload_n 3, 1) := by decide +kernel
theorem dX10_down_37 : decode mX10_down.2.1 37 = .ok (.getfield 131, 3) := by decide +kernel
theorem dX10_down_40 : decode mX10_down.2.1 40 = .ok (.iconst (-1), 1) := by decide +kernel
theorem dX10_down_41 : decode mX10_down.2.1 41 = .ok (.if_icmp .ne 6, 3) := by decide +kernel
theorem dX10_down_44 : decode mX10_down.2.1 44 = .ok (.bipush (-3), 2) := by decide +kernel
theorem dX10_down_46 : decode mX10_down.2.1 46 = .ok (.ireturn, 1) := by decide +kernel
theorem dX10_down_47 : decode mX10_down.2.1 47 = .ok (.aload_n 3, 1) := by decide +kernel
theorem dX10_down_48 : decode mX10_down.2.1 48 = .ok (.aload_n 2, 1) := by decide +kernel
theorem dX10_down_49 : decode mX10_down.2.1 49 = .ok (.getfield 167, 3) := by decide +kernel
theorem dX10_down_52 : decode mX10_down.2.1 52 = .ok (.invokevirtual 124, 3) := by decide +kernel
theorem dX10_down_55 : decode mX10_down.2.1 55 = .ok (.astore 4, 2) := by decide +kernel
theorem dX10_down_57 : decode mX10_down.2.1 57 = .ok (.aload 4, 2) := by decide +kernel
theorem dX10_down_59 : decode mX10_down.2.1 59 = .ok (.ifnull 16, 3) := by decide +kernel
theorem dX10_down_62 : decode mX10_down.2.1 62 = .ok (.aload 4, 2) := by decide +kernel
theorem dX10_down_64 : decode mX10_down.2.1 64 = .ok (.aload_n 2, 1) := by decide +kernel
theorem dX10_down_65 : decode mX10_down.2.1 65 = .ok (.getfield 170, 3) := by decide +kernel
theorem dX10_down_68 : decode mX10_down.2.1 68 = .ok (.aload_n 2, 1) := by decide +kernel
theorem dX10_down_69 : decode mX10_down.2.1 69 = .ok (.getfield 147, 3) := by decide +kernel
theorem dX10_down_72 : decode mX10_down.2.1 72 = .ok (.invokevirtual 173, 3) := by decide +kernel
theorem dX10_down_75 : decode mX10_down.2.1 75 = .ok (.aload_n 3, 1) := by decide +kernel
theorem dX10_down_76 : decode mX10_down.2.1 76 = .ok (.dup, 1) := by decide +kernel
theorem dX10_down_77 : decode mX10_down.2.1 77 = .ok (.getfield 162, 3) := by decide +kernel
theorem dX10_down_80 : decode mX10_down.2.1 80 = .ok (.iconst 1, 1) := by decide +kernel
theorem dX10_down_81 : decode mX10_down.2.1 81 = .ok (.isub, 1) := by decide +kernel
theorem dX10_down_82 : decode mX10_down.2.1 82 = .ok (.putfield 162, 3) := by decide +kernel
theorem dX10_down_85 : decode mX10_down.2.1 85 = .ok (.aload_n 2, 1) := by decide +kernel
theorem dX10_down_86 : decode mX10_down.2.1 86 = .ok (.aload_n 3, 1) := by decide +kernel
theorem dX10_down_87 : decode mX10_down.2.1 87 = .ok (.getfield 131, 3) := by decide +kernel
theorem dX10_down_90 : decode mX10_down.2.1 90 = .ok (.invokevirtual 177, 3) := by decide +kernel
theorem dX10_down_93 : decode mX10_down.2.1 93 = .ok (.aload_n 0, 1) := by decide +kernel
theorem dX10_down_94 : decode mX10_down.2.1 94 = .ok (.getfield 37, 3) := by decide +kernel
theorem dX10_down_97 : decode mX10_down.2.1 97 = .ok (.iload_n 1, 1) := by decide +kernel
theorem dX10_down_98 : decode mX10_down.2.1 98 = .ok (.aload_n 0, 1) := by decide +kernel
theorem dX10_down_99 : decode mX10_down.2.1 99 = .ok (.getfield 77, 3) := by decide +kernel
theorem dX10_down_102 : decode mX10_down.2.1 102 = .ok (.aload_n 3, 1) := by decide +kernel
theorem dX10_down_103 : decode mX10_down.2.1 103 = .ok (.getfield 131, 3) := by decide +kernel
theorem dX10_down_106 : decode mX10_down.2.1 106 = .ok (.invokevirtual 112, 3) := by decide +kernel
theorem dX10_down_109 : decode mX10_down.2.1 109 = .ok (.aload_n 3, 1) := by decide +kernel
theorem dX10_down_110 : decode mX10_down.2.1 110 = .ok (.getfield 131, 3) := by decide +kernel
theorem dX10_down_113 : decode mX10_down.2.1 113 = .ok (.aload_n 2, 1) := by decide +kernel
theorem dX10_down_114 : decode mX10_down.2.1 114 = .ok (.getfield 181, 3) := by decide +kernel
theorem dX10_down_117 : decode mX10_down.2.1 117 = .ok (.if_icmp .eq 5, 3) := by decide +kernel
theorem dX10_down_120 : decode mX10_down.2.1 120 = .ok (.iconst 0, 1) := by decide +kernel
theorem dX10_down_121 : decode mX10_down.2.1 121 = .ok (.ireturn, 1) := by decide +kernel
theorem dX10_down_122 : decode mX10_down.2.1 122 = .ok (.aload_n 2, 1) := by decide +kernel
theorem dX10_down_123 : decode mX10_down.2.1 123 = .ok (.aload_n 0, 1) := by decide +kernel
theorem dX10_down_124 : decode mX10_down.2.1 124 = .ok (.aload_n 2, 1) := by decide +kernel
theorem dX10_down_125 : decode mX10_down.2.1 125 = .ok (.invokevirtual 184, 3) := by decide +kernel
theorem dX10_down_128 : decode mX10_down.2.1 128 = .ok (.invokevirtual 188, 3) := by decide +kernel
theorem dX10_down_131 : decode mX10_down.2.1 131 = .ok (.iconst 1, 1) := by decide +kernel
theorem dX10_down_132 : decode mX10_down.2.1 132 = .ok (.ireturn, 1) := by decide +kernel
theorem dX10_end_0 : decode mX10_end.2.1 0 = .ok (.iload_n 1, 1) := by decide +kernel
theorem dX10_end_1 : decode mX10_end.2.1 1 = .ok (.ifCond .lt 14, 3) := by decide +kernel
theorem dX10_end_4 : decode mX10_end.2.1 4 = .ok (.iload_n 1, 1) := by decide +kernel
theorem dX10_end_5 : decode mX10_end.2.1 5 = .ok (.aload_n 0, 1) := by decide +kernel
theorem dX10_end_6 : decode mX10_end.2.1 6 = .ok (.getfield 44, 3) := by decide +kernel
theorem dX10_end_9 : decode mX10_end.2.1 9 = .ok (.getfield 224, 3) := by decide +kernel
theorem dX10_end_12 : decode mX10_end.2.1 12 = .ok (.if_icmp .le 5, 3) := by decide +kernel
theorem dX10_end_15 : decode mX10_end.2.1 15 = .ok (.iconst (-1), 1) := by decide +kernel
theorem dX10_end_16 : decode mX10_end.2.1 16 = .ok (.ireturn, 1) := by decide +kernel
theorem dX10_end_17 : decode mX10_end.2.1 17 = .ok (.aload_n 0, 1) := by decide +kernel
theorem dX10_end_18 : decode mX10_end.2.1 18 = .ok (.getfield 44, 3) := by decide +kernel
theorem dX10_end_21 : decode mX10_end.2.1 21 = .ok (.iload_n 1, 1) := by decide +kernel
theorem dX10_end_22 : decode mX10_end.2.1 22 = .ok (.putfield 224, 3) := by decide +kernel
theorem dX10_end_25 : decode mX10_end.2.1 25 = .ok (.iload_n 1, 1) := by decide +kernel
theorem dX10_end_26 : decode mX10_end.2.1 26 = .ok (.ireturn, 1) := by decide +kernel
theorem dX10_feed_0 : decode mX10_feed.2.1 0 = .ok (.aload_n 0, 1) := by decide +kernel
theorem dX10_feed_1 : decode mX10_feed.2.1 1 = .ok (.getfield 44, 3) := by decide +kernel
theorem dX10_feed_4 : decode mX10_feed.2.1 4 = .ok (.getfield 224, 3) := by decide +kernel
theorem dX10_feed_7 : decode mX10_feed.2.1 7 = .ok (.bipush 20, 2) := by decide +kernel
theorem dX10_feed_9 : decode mX10_feed.2.1 9 = .ok (.iadd, 1) := by decide +kernel
theorem dX10_feed_10 : decode mX10_feed.2.1 10 = .ok (.sipush 400, 3) := by decide +kernel
theorem dX10_feed_13 : decode mX10_feed.2.1 13 = .ok (.if_icmp .le 5, 3) := by decide +kernel
theorem dX10_feed_16 : decode mX10_feed.2.1 16 = .ok (.iconst (-1), 1) := by decide +kernel
theorem dX10_feed_17 : decode mX10_feed.2.1 17 = .ok (.ireturn, 1) := by decide +kernel
theorem dX10_feed_18 : decode mX10_feed.2.1 18 = .ok (.aload_n 0, 1) := by decide +kernel
theorem dX10_feed_19 : decode mX10_feed.2.1 19 = .ok (.getfield 44, 3) := by decide +kernel
theorem dX10_feed_22 : decode mX10_feed.2.1 22 = .ok (.iload_n 1, 1) := by decide +kernel
theorem dX10_feed_23 : decode mX10_feed.2.1 23 = .ok (.invokevirtual 227, 3) := by decide +kernel
theorem dX10_feed_26 : decode mX10_feed.2.1 26 = .ok (.aload_n 0, 1) := by decide +kernel
theorem dX10_feed_27 : decode mX10_feed.2.1 27 = .ok (.getfield 44, 3) := by decide +kernel
theorem dX10_feed_30 : decode mX10_feed.2.1 30 = .ok (.iload_n 2, 1) := by decide +kernel
theorem dX10_feed_31 : decode mX10_feed.2.1 31 = .ok (.invokevirtual 227, 3) := by decide +kernel
theorem dX10_feed_34 : decode mX10_feed.2.1 34 = .ok (.aload_n 0, 1) := by decide +kernel
theorem dX10_feed_35 : decode mX10_feed.2.1 35 = .ok (.getfield 44, 3) := by decide +kernel
theorem dX10_feed_38 : decode mX10_feed.2.1 38 = .ok (.iload_n 3, 1) := by decide +kernel
theorem dX10_feed_39 : decode mX10_feed.2.1 39 = .ok (.invokevirtual 227, 3) := by decide +kernel
theorem dX10_feed_42 : decode mX10_feed.2.1 42 = .ok (.aload_n 0, 1) := by decide +kernel
theorem dX10_feed_43 : decode mX10_feed.2.1 43 = .ok (.getfield 44, 3) := by decide +kernel
theorem dX10_feed_46 : decode mX10_feed.2.1 46 = .ok (.iload 4, 2) := by decide +kernel
theorem dX10_feed_48 : decode mX10_feed.2.1 48 = .ok (.invokevirtual 227, 3) := by decide +kernel
theorem dX10_feed_51 : decode mX10_feed.2.1 51 = .ok (.aload_n 0, 1) := by decide +kernel
theorem dX10_feed_52 : decode mX10_feed.2.1 52 = .ok (.getfield 44, 3) := by decide +kernel
theorem dX10_feed_55 : decode mX10_feed.2.1 55 = .ok (.iload 5, 2) := by decide +kernel
theorem dX10_feed_57 : decode mX10_feed.2.1 57 = .ok (.invokevirtual 227, 3) := by decide +kernel
theorem dX10_feed_60 : decode mX10_feed.2.1 60 = .ok (.aload_n 0, 1) := by decide +kernel
theorem dX10_feed_61 : decode mX10_feed.2.1 61 = .ok (.getfield 44, 3) := by decide +kernel
theorem dX10_feed_64 : decode mX10_feed.2.1 64 = .ok (.getfield 224, 3) := by decide +kernel
theorem dX10_feed_67 : decode mX10_feed.2.1 67 = .ok (.ireturn, 1) := by decide +kernel
theorem dX10_findBest_0 : decode mX10_findBest.2.1 0 = .ok (.aload_n 0, 1) := by decide +kernel
theorem dX10_findBest_1 : decode mX10_findBest.2.1 1 = .ok (.iload_n 1, 1) := by decide +kernel
theorem dX10_findBest_2 : decode mX10_findBest.2.1 2 = .ok (.invokevirtual 116, 3) := by decide +kernel
theorem dX10_findBest_5 : decode mX10_findBest.2.1 5 = .ok (.astore_n 3, 1) := by decide +kernel
theorem dX10_findBest_6 : decode mX10_findBest.2.1 6 = .ok (.aload_n 3, 1) := by decide +kernel
theorem dX10_findBest_7 : decode mX10_findBest.2.1 7 = .ok (.ifnull 11, 3) := by decide +kernel
theorem dX10_findBest_10 : decode mX10_findBest.2.1 10 = .ok (.aload_n 3, 1) := by decide +kernel
theorem dX10_findBest_11 : decode mX10_findBest.2.1 11 = .ok (.getfield 131, 3) := by decide +kernel
theorem dX10_findBest_14 : decode mX10_findBest.2.1 14 = .ok (.iconst (-1), 1) := by decide +kernel
theorem dX10_findBest_15 : decode mX10_findBest.2.1 15 = .ok (.if_icmp .ne 5, 3) := by decide +kernel
theorem dX10_findBest_18 : decode mX10_findBest.2.1 18 = .ok (.iconst 0, 1) := by decide +kernel
theorem dX10_findBest_19 : decode mX10_findBest.2.1 19 = .ok (.ireturn, 1) := by decide +kernel
theorem dX10_findBest_20 : decode mX10_findBest.2.1 20 = .ok (.aload_n 3, 1) := by decide +kernel
theorem dX10_findBest_21 : decode mX10_findBest.2.1 21 = .ok (.iload_n 2, 1) := by decide +kernel
theorem dX10_findBest_22 : decode mX10_findBest.2.1 22 = .ok (.invokevirtual 124, 3) := by decide +kernel
theorem dX10_findBest_25 : decode mX10_findBest.2.1 25 = .ok (.astore 4, 2) := by decide +kernel
theorem dX10_findBest_27 : decode mX10_findBest.2.1 27 = .ok (.aload 4, 2) := by decide +kernel
theorem dX10_findBest_29 : decode mX10_findBest.2.1 29 = .ok (.ifnonnull 5, 3) := by decide +kernel
theorem dX10_findBest_32 : decode mX10_findBest.2.1 32 = .ok (.iconst 0, 1) := by decide +kernel
theorem dX10_findBest_33 : decode mX10_findBest.2.1 33 = .ok (.ireturn, 1) := by decide +kernel
theorem dX10_findBest_34 : decode mX10_findBest.2.1 34 = .ok (.aload_n 0, 1) := by decide +kernel
theorem dX10_findBest_35 : decode mX10_findBest.2.1 35 = .ok (.getfield 60, 3) := by decide +kernel
theorem dX10_findBest_38 : decode mX10_findBest.2.1 38 = .ok (.invokevirtual 309, 3) := by decide +kernel
theorem dX10_findBest_41 : decode mX10_findBest.2.1 41 = .ok (.iconst 0, 1) := by decide +kernel
theorem dX10_findBest_42 : decode mX10_findBest.2.1 42 = .ok (.istore 5, 2) := by decide +kernel
theorem dX10_findBest_44 : decode mX10_findBest.2.1 44 = .ok (.iload 5, 2) := by decide +kernel
theorem dX10_findBest_46 : decode mX10_findBest.2.1 46 = .ok (.aload_n 0, 1) := by decide +kernel
theorem dX10_findBest_47 : decode mX10_findBest.2.1 47 = .ok (.getfield 68, 3) := by decide +kernel
theorem dX10_findBest_50 : decode mX10_findBest.2.1 50 = .ok (.if_icmp .ge 65, 3) := by decide +kernel
theorem dX10_findBest_53 : decode mX10_findBest.2.1 53 = .ok (.aload_n 0, 1) := by decide +kernel
theorem dX10_findBest_54 : decode mX10_findBest.2.1 54 = .ok (.iload 5, 2) := by decide +kernel
theorem dX10_findBest_56 : decode mX10_findBest.2.1 56 = .ok (.invokevirtual 120, 3) := by decide +kernel
theorem dX10_findBest_59 : decode mX10_findBest.2.1 59 = .ok (.astore 6, 2) := by decide +kernel
theorem dX10_findBest_61 : decode mX10_findBest.2.1 61 = .ok (.aload 6, 2) := by decide +kernel
theorem dX10_findBest_63 : decode mX10_findBest.2.1 63 = .ok (.ifnull 46, 3) := by decide +kernel
theorem dX10_findBest_66 : decode mX10_findBest.2.1 66 = .ok (.aload 6, 2) := by decide +kernel
theorem dX10_findBest_68 : decode mX10_findBest.2.1 68 = .ok (.getfield 128, 3) := by decide +kernel
theorem dX10_findBest_71 : decode mX10_findBest.2.1 71 = .ok (.ifCond .ne 38, 3) := by decide +kernel
theorem dX10_findBest_74 : decode mX10_findBest.2.1 74 = .ok (.aload 6, 2) := by decide +kernel
theorem dX10_findBest_76 : decode mX10_findBest.2.1 76 = .ok (.getfield 134, 3) := by decide +kernel
theorem dX10_findBest_79 : decode mX10_findBest.2.1 79 = .ok (.aload_n 3, 1) := by decide +kernel
theorem dX10_findBest_80 : decode mX10_findBest.2.1 80 = .ok (.getfield 131, 3) := by decide +kernel
theorem dX10_findBest_83 : decode mX10_findBest.2.1 83 = .ok (.if_icmp .ne 26, 3) := by decide +kernel
theorem dX10_findBest_86 : decode mX10_findBest.2.1 86 = .ok (.aload 6, 2) := by decide +kernel
theorem dX10_findBest_88 : decode mX10_findBest.2.1 88 = .ok (.getfield 153, 3) := by decide +kernel
theorem dX10_findBest_91 : decode mX10_findBest.2.1 91 = .ok (.iconst 3, 1) := by decide +kernel
theorem dX10_findBest_92 : decode mX10_findBest.2.1 92 = .ok (.if_icmp .eq 17, 3) := by decide +kernel
theorem dX10_findBest_95 : decode mX10_findBest.2.1 95 = .ok (.aload_n 0, 1) := by decide +kernel
theorem dX10_findBest_96 : decode mX10_findBest.2.1 96 = .ok (.getfield 60, 3) := by decide +kernel
theorem dX10_findBest_99 : decode mX10_findBest.2.1 99 = .ok (.iload 5, 2) := by decide +kernel
theorem dX10_findBest_101 : decode mX10_findBest.2.1 101 = .ok (.aload 6, 2) := by decide +kernel
theorem dX10_findBest_103 : decode mX10_findBest.2.1 103 = .ok (.getfield 147, 3) := by decide +kernel
theorem dX10_findBest_106 : decode mX10_findBest.2.1 106 = .ok (.invokevirtual 312, 3) := by decide +kernel
theorem dX10_findBest_109 : decode mX10_findBest.2.1 109 = .ok (.iinc 5 1, 3) := by decide +kernel
theorem dX10_findBest_112 : decode mX10_findBest.2.1 112 = .ok (.goto (-68), 3) := by decide +kernel
theorem dX10_findBest_115 : decode mX10_findBest.2.1 115 = .ok (.aload_n 0, 1) := by decide +kernel
theorem dX10_findBest_116 : decode mX10_findBest.2.1 116 = .ok (.getfield 60, 3) := by decide +kernel
theorem dX10_findBest_119 : decode mX10_findBest.2.1 119 = .ok (.aload 4, 2) := by decide +kernel
theorem dX10_findBest_121 : decode mX10_findBest.2.1 121 = .ok (.getfield 150, 3) := by decide +kernel
theorem dX10_findBest_124 : decode mX10_findBest.2.1 124 = .ok (.invokevirtual 314, 3) := by decide +kernel
theorem dX10_findBest_127 : decode mX10_findBest.2.1 127 = .ok (.iconst 1, 1) := by decide +kernel
theorem dX10_findBest_128 : decode mX10_findBest.2.1 128 = .ok (.ireturn, 1) := by decide +kernel
theorem dX10_go_0 : decode mX10_go.2.1 0 = .ok (.aload_n 0, 1) := by decide +kernel
theorem dX10_go_1 : decode mX10_go.2.1 1 = .ok (.iload_n 1, 1) := by decide +kernel
theorem dX10_go_2 : decode mX10_go.2.1 2 = .ok (.invokevirtual 116, 3) := by decide +kernel
theorem dX10_go_5 : decode mX10_go.2.1 5 = .ok (.astore_n 3, 1) := by decide +kernel
theorem dX10_go_6 : decode mX10_go.2.1 6 = .ok (.aload_n 3, 1) := by decide +kernel
theorem dX10_go_7 : decode mX10_go.2.1 7 = .ok (.ifnonnull 5, 3) := by decide +kernel
theorem dX10_go_10 : decode mX10_go.2.1 10 = .ok (.iconst (-1), 1) := by decide +kernel
theorem dX10_go_11 : decode mX10_go.2.1 11 = .ok (.ireturn, 1) := by decide +kernel
theorem dX10_go_12 : decode mX10_go.2.1 12 = .ok (.aload_n 3, 1) := by decide +kernel
theorem dX10_go_13 : decode mX10_go.2.1 13 = .ok (.getfield 131, 3) := by decide +kernel
theorem dX10_go_16 : decode mX10_go.2.1 16 = .ok (.iconst (-1), 1) := by decide +kernel
theorem dX10_go_17 : decode mX10_go.2.1 17 = .ok (.if_icmp .ne 6, 3) := by decide +kernel
theorem dX10_go_20 : decode mX10_go.2.1 20 = .ok (.bipush (-2), 2) := by decide +kernel
theorem dX10_go_22 : decode mX10_go.2.1 22 = .ok (.ireturn, 1) := by decide +kernel
theorem dX10_go_23 : decode mX10_go.2.1 23 = .ok (.iload_n 2, 1) := by decide +kernel
theorem dX10_go_24 : decode mX10_go.2.1 24 = .ok (.ifCond .eq 10, 3) := by decide +kernel
theorem dX10_go_27 : decode mX10_go.2.1 27 = .ok (.aload_n 3, 1) := by decide +kernel
theorem dX10_go_28 : decode mX10_go.2.1 28 = .ok (.getfield 131, 3) := by decide +kernel
theorem dX10_go_31 : decode mX10_go.2.1 31 = .ok (.goto 9, 3) := by decide +kernel
theorem dX10_go_34 : decode mX10_go.2.1 34 = .ok (.aload_n 3, 1) := by decide +kernel
theorem dX10_go_35 : decode mX10_go.2.1 35 = .ok (.getfield 131, 3) := by decide +kernel
theorem dX10_go_38 : decode mX10_go.2.1 38 = .ok (.iconst 1, 1) := by decide +kernel
theorem dX10_go_39 : decode mX10_go.2.1 39 = .ok (.isub, 1) := by decide +kernel
theorem dX10_go_40 : decode mX10_go.2.1 40 = .ok (.istore 4, 2) := by decide +kernel
theorem dX10_go_42 : decode mX10_go.2.1 42 = .ok (.aload_n 0, 1) := by decide +kernel
theorem dX10_go_43 : decode mX10_go.2.1 43 = .ok (.getfield 10, 3) := by decide +kernel
theorem dX10_go_46 : decode mX10_go.2.1 46 = .ok (.iload 4, 2) := by decide +kernel
theorem dX10_go_48 : decode mX10_go.2.1 48 = .ok (.invokevirtual 99, 3) := by decide +kernel
theorem dX10_go_51 : decode mX10_go.2.1 51 = .ok (.ifCond .ne 6, 3) := by decide +kernel
theorem dX10_go_54 : decode mX10_go.2.1 54 = .ok (.bipush (-3), 2) := by decide +kernel
theorem dX10_go_56 : decode mX10_go.2.1 56 = .ok (.ireturn, 1) := by decide +kernel
theorem dX10_go_57 : decode mX10_go.2.1 57 = .ok (.aload_n 3, 1) := by decide +kernel
theorem dX10_go_58 : decode mX10_go.2.1 58 = .ok (.invokevirtual 191, 3) := by decide +kernel
theorem dX10_go_61 : decode mX10_go.2.1 61 = .ok (.ifCond .ne 6, 3) := by decide +kernel
theorem dX10_go_64 : decode mX10_go.2.1 64 = .ok (.bipush (-4), 2) := by decide +kernel
theorem dX10_go_66 : decode mX10_go.2.1 66 = .ok (.ireturn, 1) := by decide +kernel
theorem dX10_go_67 : decode mX10_go.2.1 67 = .ok (.aload_n 0, 1) := by decide +kernel
theorem dX10_go_68 : decode mX10_go.2.1 68 = .ok (.getfield 10, 3) := by decide +kernel
theorem dX10_go_71 : decode mX10_go.2.1 71 = .ok (.iload 4, 2) := by decide +kernel
theorem dX10_go_73 : decode mX10_go.2.1 73 = .ok (.aload_n 0, 1) := by decide +kernel
theorem dX10_go_74 : decode mX10_go.2.1 74 = .ok (.getfield 77, 3) := by decide +kernel
theorem dX10_go_77 : decode mX10_go.2.1 77 = .ok (.aload_n 0, 1) := by decide +kernel
theorem dX10_go_78 : decode mX10_go.2.1 78 = .ok (.getfield 77, 3) := by decide +kernel
theorem dX10_go_81 : decode mX10_go.2.1 81 = .ok (.invokevirtual 105, 3) := by decide +kernel
theorem dX10_go_84 : decode mX10_go.2.1 84 = .ok (.ifCond .eq 6, 3) := by decide +kernel
theorem dX10_go_87 : decode mX10_go.2.1 87 = .ok (.bipush (-5), 2) := by decide +kernel
theorem dX10_go_89 : decode mX10_go.2.1 89 = .ok (.ireturn, 1) := by decide +kernel
theorem dX10_go_90 : decode mX10_go.2.1 90 = .ok (.aload_n 0, 1) := by decide +kernel
theorem dX10_go_91 : decode mX10_go.2.1 91 = .ok (.getfield 10, 3) := by decide +kernel
theorem dX10_go_94 : decode mX10_go.2.1 94 = .ok (.iload 4, 2) := by decide +kernel
theorem dX10_go_96 : decode mX10_go.2.1 96 = .ok (.invokevirtual 195, 3) := by decide +kernel
theorem dX10_go_99 : decode mX10_go.2.1 99 = .ok (.ifCond .eq 15, 3) := by decide +kernel
theorem dX10_go_102 : decode mX10_go.2.1 102 = .ok (.aload_n 0, 1) := by decide +kernel
theorem dX10_go_103 : decode mX10_go.2.1 103 = .ok (.iload 4, 2) := by decide +kernel
theorem dX10_go_105 : decode mX10_go.2.1 105 = .ok (.invokevirtual 198, 3) := by decide +kernel
theorem dX10_go_108 : decode mX10_go.2.1 108 = .ok (.ifCond .eq 6, 3) := by decide +kernel
theorem dX10_go_111 : decode mX10_go.2.1 111 = .ok (.bipush (-6), 2) := by decide +kernel
theorem dX10_go_113 : decode mX10_go.2.1 113 = .ok (.ireturn, 1) := by decide +kernel
theorem dX10_go_114 : decode mX10_go.2.1 114 = .ok (.aload_n 3, 1) := by decide +kernel
theorem dX10_go_115 : decode mX10_go.2.1 115 = .ok (.iload 4, 2) := by decide +kernel
theorem dX10_go_117 : decode mX10_go.2.1 117 = .ok (.iload_n 2, 1) := by decide +kernel
theorem dX10_go_118 : decode mX10_go.2.1 118 = .ok (.aload_n 0, 1) := by decide +kernel
theorem dX10_go_119 : decode mX10_go.2.1 119 = .ok (.getfield 77, 3) := by decide +kernel
theorem dX10_go_122 : decode mX10_go.2.1 122 = .ok (.aload_n 0, 1) := by decide +kernel
theorem dX10_go_123 : decode mX10_go.2.1 123 = .ok (.getfield 10, 3) := by decide +kernel
theorem dX10_go_126 : decode mX10_go.2.1 126 = .ok (.iload 4, 2) := by decide +kernel
theorem dX10_go_128 : decode mX10_go.2.1 128 = .ok (.invokevirtual 201, 3) := by decide +kernel
theorem dX10_go_131 : decode mX10_go.2.1 131 = .ok (.iadd, 1) := by decide +kernel
theorem dX10_go_132 : decode mX10_go.2.1 132 = .ok (.invokevirtual 205, 3) := by decide +kernel
theorem dX10_go_135 : decode mX10_go.2.1 135 = .ok (.aload_n 3, 1) := by decide +kernel
theorem dX10_go_136 : decode mX10_go.2.1 136 = .ok (.getfield 209, 3) := by decide +kernel
theorem dX10_go_139 : decode mX10_go.2.1 139 = .ok (.ireturn, 1) := by decide +kernel
theorem dX10_holdPacks_0 : decode mX10_holdPacks.2.1 0 = .ok (.iconst 0, 1) := by decide +kernel
theorem dX10_holdPacks_1 : decode mX10_holdPacks.2.1 1 = .ok (.istore_n 2, 1) := by decide +kernel
theorem dX10_holdPacks_2 : decode mX10_holdPacks.2.1 2 = .ok (.iload_n 2, 1) := by decide +kernel
theorem dX10_holdPacks_3 : decode mX10_holdPacks.2.1 3 = .ok (.aload_n 0, 1) := by decide +kernel
theorem dX10_holdPacks_4 : decode mX10_holdPacks.2.1 4 = .ok (.getfield 68, 3) := by decide +kernel
theorem dX10_holdPacks_7 : decode mX10_holdPacks.2.1 7 = .ok (.if_icmp .ge 56, 3) := by decide +kernel
theorem dX10_holdPacks_10 : decode mX10_holdPacks.2.1 10 = .ok (.aload_n 0, 1) := by decide +kernel
theorem dX10_holdPacks_11 : decode mX10_holdPacks.2.1 11 = .ok (.iload_n 2, 1) := by decide +kernel
theorem dX10_holdPacks_12 : decode mX10_holdPacks.2.1 12 = .ok (.invokevirtual 120, 3) := by decide +kernel
theorem dX10_holdPacks_15 : decode mX10_holdPacks.2.1 15 = .ok (.astore_n 3, 1) := by decide +kernel
theorem dX10_holdPacks_16 : decode mX10_holdPacks.2.1 16 = .ok (.aload_n 3, 1) := by decide +kernel
theorem dX10_holdPacks_17 : decode mX10_holdPacks.2.1 17 = .ok (.ifnull 40, 3) := by decide +kernel
theorem dX10_holdPacks_20 : decode mX10_holdPacks.2.1 20 = .ok (.aload_n 3, 1) := by decide +kernel
theorem dX10_holdPacks_21 : decode mX10_holdPacks.2.1 21 = .ok (.aload_n 0, 1) := by decide +kernel
theorem dX10_holdPacks_22 : decode mX10_holdPacks.2.1 22 = .ok (.aload_n 3, 1) := by decide +kernel
theorem dX10_holdPacks_23 : decode mX10_holdPacks.2.1 23 = .ok (.invokevirtual 303, 3) := by decide +kernel
theorem dX10_holdPacks_26 : decode mX10_holdPacks.2.1 26 = .ok (.invokevirtual 306, 3) := by decide +kernel
theorem dX10_holdPacks_29 : decode mX10_holdPacks.2.1 29 = .ok (.istore 4, 2) := by decide +kernel
theorem dX10_holdPacks_31 : decode mX10_holdPacks.2.1 31 = .ok (.iload 4, 2) := by decide +kernel
theorem dX10_holdPacks_33 : decode mX10_holdPacks.2.1 33 = .ok (.iconst (-1), 1) := by decide +kernel
theorem dX10_holdPacks_34 : decode mX10_holdPacks.2.1 34 = .ok (.if_icmp .eq 23, 3) := by decide +kernel
theorem dX10_holdPacks_37 : decode mX10_holdPacks.2.1 37 = .ok (.iload_n 1, 1) := by decide +kernel
theorem dX10_holdPacks_38 : decode mX10_holdPacks.2.1 38 = .ok (.iload 4, 2) := by decide +kernel
theorem dX10_holdPacks_40 : decode mX10_holdPacks.2.1 40 = .ok (.ishr, 1) := by decide +kernel
theorem dX10_holdPacks_41 : decode mX10_holdPacks.2.1 41 = .ok (.iconst 1, 1) := by decide +kernel
theorem dX10_holdPacks_42 : decode mX10_holdPacks.2.1 42 = .ok (.iand, 1) := by decide +kernel
theorem dX10_holdPacks_43 : decode mX10_holdPacks.2.1 43 = .ok (.iconst 1, 1) := by decide +kernel
theorem dX10_holdPacks_44 : decode mX10_holdPacks.2.1 44 = .ok (.if_icmp .ne 13, 3) := by decide +kernel
theorem dX10_holdPacks_47 : decode mX10_holdPacks.2.1 47 = .ok (.aload_n 3, 1) := by decide +kernel
theorem dX10_holdPacks_48 : decode mX10_holdPacks.2.1 48 = .ok (.dup, 1) := by decide +kernel
theorem dX10_holdPacks_49 : decode mX10_holdPacks.2.1 49 = .ok (.getfield 259, 3) := by decide +kernel
theorem dX10_holdPacks_52 : decode mX10_holdPacks.2.1 52 = .ok (.iconst 1, 1) := by decide +kernel
theorem dX10_holdPacks_53 : decode mX10_holdPacks.2.1 53 = .ok (.iadd, 1) := by decide +kernel
theorem dX10_holdPacks_54 : decode mX10_holdPacks.2.1 54 = .ok (.putfield 259, 3) := by decide +kernel
theorem dX10_holdPacks_57 : decode mX10_holdPacks.2.1 57 = .ok (.iinc 2 1, 3) := by decide +kernel
theorem dX10_holdPacks_60 : decode mX10_holdPacks.2.1 60 = .ok (.goto (-58), 3) := by decide +kernel
theorem dX10_holdPacks_63 : decode mX10_holdPacks.2.1 63 = .ok (.return_, 1) := by decide +kernel
theorem dX10_hours_0 : decode mX10_hours.2.1 0 = .ok (.iload_n 1, 1) := by decide +kernel
theorem dX10_hours_1 : decode mX10_hours.2.1 1 = .ok (.iconst 1, 1) := by decide +kernel
theorem dX10_hours_2 : decode mX10_hours.2.1 2 = .ok (.if_icmp .lt 21, 3) := by decide +kernel
theorem dX10_hours_5 : decode mX10_hours.2.1 5 = .ok (.iload_n 1, 1) := by decide +kernel
theorem dX10_hours_6 : decode mX10_hours.2.1 6 = .ok (.bipush 100, 2) := by decide +kernel
theorem dX10_hours_8 : decode mX10_hours.2.1 8 = .ok (.if_icmp .gt 15, 3) := by decide +kernel
theorem dX10_hours_11 : decode mX10_hours.2.1 11 = .ok (.aload_n 0, 1) := by decide +kernel
theorem dX10_hours_12 : decode mX10_hours.2.1 12 = .ok (.getfield 77, 3) := by decide +kernel
theorem dX10_hours_15 : decode mX10_hours.2.1 15 = .ok (.iload_n 1, 1) := by decide +kernel
theorem dX10_hours_16 : decode mX10_hours.2.1 16 = .ok (.iadd, 1) := by decide +kernel
theorem dX10_hours_17 : decode mX10_hours.2.1 17 = .ok (.sipush 9999, 3) := by decide +kernel
theorem dX10_hours_20 : decode mX10_hours.2.1 20 = .ok (.if_icmp .le 5, 3) := by decide +kernel
theorem dX10_hours_23 : decode mX10_hours.2.1 23 = .ok (.iconst (-1), 1) := by decide +kernel
theorem dX10_hours_24 : decode mX10_hours.2.1 24 = .ok (.ireturn, 1) := by decide +kernel
theorem dX10_hours_25 : decode mX10_hours.2.1 25 = .ok (.iconst 0, 1) := by decide +kernel
theorem dX10_hours_26 : decode mX10_hours.2.1 26 = .ok (.istore_n 2, 1) := by decide +kernel
theorem dX10_hours_27 : decode mX10_hours.2.1 27 = .ok (.iload_n 2, 1) := by decide +kernel
theorem dX10_hours_28 : decode mX10_hours.2.1 28 = .ok (.iload_n 1, 1) := by decide +kernel
theorem dX10_hours_29 : decode mX10_hours.2.1 29 = .ok (.if_icmp .ge 13, 3) := by decide +kernel
theorem dX10_hours_32 : decode mX10_hours.2.1 32 = .ok (.aload_n 0, 1) := by decide +kernel
theorem dX10_hours_33 : decode mX10_hours.2.1 33 = .ok (.invokevirtual 212, 3) := by decide +kernel
theorem dX10_hours_36 : decode mX10_hours.2.1 36 = .ok (.iinc 2 1, 3) := by decide +kernel
theorem dX10_hours_39 : decode mX10_hours.2.1 39 = .ok (.goto (-12), 3) := by decide +kernel
theorem dX10_hours_42 : decode mX10_hours.2.1 42 = .ok (.aload_n 0, 1) := by decide +kernel
theorem dX10_hours_43 : decode mX10_hours.2.1 43 = .ok (.getfield 77, 3) := by decide +kernel
theorem dX10_hours_46 : decode mX10_hours.2.1 46 = .ok (.ireturn, 1) := by decide +kernel
theorem dX10_init_0 : decode mX10_init.2.1 0 = .ok (.aload_n 0, 1) := by decide +kernel
theorem dX10_init_1 : decode mX10_init.2.1 1 = .ok (.invokespecial 1, 3) := by decide +kernel
theorem dX10_init_4 : decode mX10_init.2.1 4 = .ok (.aload_n 0, 1) := by decide +kernel
theorem dX10_init_5 : decode mX10_init.2.1 5 = .ok (.new 7, 3) := by decide +kernel
theorem dX10_init_8 : decode mX10_init.2.1 8 = .ok (.dup, 1) := by decide +kernel
theorem dX10_init_9 : decode mX10_init.2.1 9 = .ok (.invokespecial 9, 3) := by decide +kernel
theorem dX10_init_12 : decode mX10_init.2.1 12 = .ok (.putfield 10, 3) := by decide +kernel
theorem dX10_init_15 : decode mX10_init.2.1 15 = .ok (.aload_n 0, 1) := by decide +kernel
theorem dX10_init_16 : decode mX10_init.2.1 16 = .ok (.iconst 4, 1) := by decide +kernel
theorem dX10_init_17 : decode mX10_init.2.1 17 = .ok (.anewarray 16, 3) := by decide +kernel
theorem dX10_init_20 : decode mX10_init.2.1 20 = .ok (.putfield 18, 3) := by decide +kernel
theorem dX10_init_23 : decode mX10_init.2.1 23 = .ok (.aload_n 0, 1) := by decide +kernel
theorem dX10_init_24 : decode mX10_init.2.1 24 = .ok (.bipush 100, 2) := by decide +kernel
theorem dX10_init_26 : decode mX10_init.2.1 26 = .ok (.anewarray 22, 3) := by decide +kernel
theorem dX10_init_29 : decode mX10_init.2.1 29 = .ok (.putfield 24, 3) := by decide +kernel
theorem dX10_init_32 : decode mX10_init.2.1 32 = .ok (.aload_n 0, 1) := by decide +kernel
theorem dX10_init_33 : decode mX10_init.2.1 33 = .ok (.bipush 10, 2) := by decide +kernel
theorem dX10_init_35 : decode mX10_init.2.1 35 = .ok (.anewarray 28, 3) := by decide +kernel
theorem dX10_init_38 : decode mX10_init.2.1 38 = .ok (.putfield 30, 3) := by decide +kernel
theorem dX10_init_41 : decode mX10_init.2.1 41 = .ok (.aload_n 0, 1) := by decide +kernel
theorem dX10_init_42 : decode mX10_init.2.1 42 = .ok (.new 34, 3) := by decide +kernel
theorem dX10_init_45 : decode mX10_init.2.1 45 = .ok (.dup, 1) := by decide +kernel
theorem dX10_init_46 : decode mX10_init.2.1 46 = .ok (.invokespecial 36, 3) := by decide +kernel
theorem dX10_init_49 : decode mX10_init.2.1 49 = .ok (.putfield 37, 3) := by decide +kernel
theorem dX10_init_52 : decode mX10_init.2.1 52 = .ok (.aload_n 0, 1) := by decide +kernel
theorem dX10_init_53 : decode mX10_init.2.1 53 = .ok (.new 41, 3) := by decide +kernel
theorem dX10_init_56 : decode mX10_init.2.1 56 = .ok (.dup, 1) := by decide +kernel
theorem dX10_init_57 : decode mX10_init.2.1 57 = .ok (.invokespecial 43, 3) := by decide +kernel
theorem dX10_init_60 : decode mX10_init.2.1 60 = .ok (.putfield 44, 3) := by decide +kernel
theorem dX10_init_63 : decode mX10_init.2.1 63 = .ok (.aload_n 0, 1) := by decide +kernel
theorem dX10_init_64 : decode mX10_init.2.1 64 = .ok (.new 48, 3) := by decide +kernel
theorem dX10_init_67 : decode mX10_init.2.1 67 = .ok (.dup, 1) := by decide +kernel
theorem dX10_init_68 : decode mX10_init.2.1 68 = .ok (.aload_n 0, 1) := by decide +kernel
theorem dX10_init_69 : decode mX10_init.2.1 69 = .ok (.getfield 44, 3) := by decide +kernel
theorem dX10_init_72 : decode mX10_init.2.1 72 = .ok (.invokespecial 50, 3) := by decide +kernel
theorem dX10_init_75 : decode mX10_init.2.1 75 = .ok (.putfield 53, 3) := by decide +kernel
theorem dX10_init_78 : decode mX10_init.2.1 78 = .ok (.aload_n 0, 1) := by decide +kernel
theorem dX10_init_79 : decode mX10_init.2.1 79 = .ok (.new 57, 3) := by decide +kernel
theorem dX10_init_82 : decode mX10_init.2.1 82 = .ok (.dup, 1) := by decide +kernel
theorem dX10_init_83 : decode mX10_init.2.1 83 = .ok (.invokespecial 59, 3) := by decide +kernel
theorem dX10_init_86 : decode mX10_init.2.1 86 = .ok (.putfield 60, 3) := by decide +kernel
theorem dX10_init_89 : decode mX10_init.2.1 89 = .ok (.aload_n 0, 1) := by decide +kernel
theorem dX10_init_90 : decode mX10_init.2.1 90 = .ok (.iconst 0, 1) := by decide +kernel
theorem dX10_init_91 : decode mX10_init.2.1 91 = .ok (.putfield 64, 3) := by decide +kernel
theorem dX10_init_94 : decode mX10_init.2.1 94 = .ok (.aload_n 0, 1) := by decide +kernel
theorem dX10_init_95 : decode mX10_init.2.1 95 = .ok (.iconst 0, 1) := by decide +kernel
theorem dX10_init_96 : decode mX10_init.2.1 96 = .ok (.putfield 68, 3) := by decide +kernel
theorem dX10_init_99 : decode mX10_init.2.1 99 = .ok (.aload_n 0, 1) := by decide +kernel
theorem dX10_init_100 : decode mX10_init.2.1 100 = .ok (.iconst 0, 1) := by decide +kernel
theorem dX10_init_101 : decode mX10_init.2.1 101 = .ok (.putfield 71, 3) := by decide +kernel
theorem dX10_init_104 : decode mX10_init.2.1 104 = .ok (.aload_n 0, 1) := by decide +kernel
theorem dX10_init_105 : decode mX10_init.2.1 105 = .ok (.iconst (-1), 1) := by decide +kernel
theorem dX10_init_106 : decode mX10_init.2.1 106 = .ok (.putfield 74, 3) := by decide +kernel
theorem dX10_init_109 : decode mX10_init.2.1 109 = .ok (.aload_n 0, 1) := by decide +kernel
theorem dX10_init_110 : decode mX10_init.2.1 110 = .ok (.iconst 0, 1) := by decide +kernel
theorem dX10_init_111 : decode mX10_init.2.1 111 = .ok (.putfield 77, 3) := by decide +kernel
theorem dX10_init_114 : decode mX10_init.2.1 114 = .ok (.iconst 0, 1) := by decide +kernel
theorem dX10_init_115 : decode mX10_init.2.1 115 = .ok (.istore_n 1, 1) := by decide +kernel
theorem dX10_init_116 : decode mX10_init.2.1 116 = .ok (.iload_n 1, 1) := by decide +kernel
theorem dX10_init_117 : decode mX10_init.2.1 117 = .ok (.bipush 10, 2) := by decide +kernel
theorem dX10_init_119 : decode mX10_init.2.1 119 = .ok (.if_icmp .ge 22, 3) := by decide +kernel
theorem dX10_init_122 : decode mX10_init.2.1 122 = .ok (.aload_n 0, 1) := by decide +kernel
theorem dX10_init_123 : decode mX10_init.2.1 123 = .ok (.getfield 30, 3) := by decide +kernel
theorem dX10_init_126 : decode mX10_init.2.1 126 = .ok (.iload_n 1, 1) := by decide +kernel
theorem dX10_init_127 : decode mX10_init.2.1 127 = .ok (.new 28, 3) := by decide +kernel
theorem dX10_init_130 : decode mX10_init.2.1 130 = .ok (.dup, 1) := by decide +kernel
theorem dX10_init_131 : decode mX10_init.2.1 131 = .ok (.invokespecial 80, 3) := by decide +kernel
theorem dX10_init_134 : decode mX10_init.2.1 134 = .ok (.aastore, 1) := by decide +kernel
theorem dX10_init_135 : decode mX10_init.2.1 135 = .ok (.iinc 1 1, 3) := by decide +kernel
theorem dX10_init_138 : decode mX10_init.2.1 138 = .ok (.goto (-22), 3) := by decide +kernel
theorem dX10_init_141 : decode mX10_init.2.1 141 = .ok (.return_, 1) := by decide +kernel
theorem dX10_inn_0 : decode mX10_inn.2.1 0 = .ok (.aload_n 0, 1) := by decide +kernel
theorem dX10_inn_1 : decode mX10_inn.2.1 1 = .ok (.getfield 10, 3) := by decide +kernel
theorem dX10_inn_4 : decode mX10_inn.2.1 4 = .ok (.iload_n 1, 1) := by decide +kernel
theorem dX10_inn_5 : decode mX10_inn.2.1 5 = .ok (.iload_n 2, 1) := by decide +kernel
theorem dX10_inn_6 : decode mX10_inn.2.1 6 = .ok (.iload_n 3, 1) := by decide +kernel
theorem dX10_inn_7 : decode mX10_inn.2.1 7 = .ok (.invokevirtual 81, 3) := by decide +kernel
theorem dX10_inn_10 : decode mX10_inn.2.1 10 = .ok (.ireturn, 1) := by decide +kernel
theorem dX10_innOf_0 : decode mX10_innOf.2.1 0 = .ok (.aload_n 1, 1) := by decide +kernel
theorem dX10_innOf_1 : decode mX10_innOf.2.1 1 = .ok (.getfield 128, 3) := by decide +kernel
theorem dX10_innOf_4 : decode mX10_innOf.2.1 4 = .ok (.ifCond .ne 8, 3) := by decide +kernel
theorem dX10_innOf_7 : decode mX10_innOf.2.1 7 = .ok (.aload_n 1, 1) := by decide +kernel
theorem dX10_innOf_8 : decode mX10_innOf.2.1 8 = .ok (.getfield 134, 3) := by decide +kernel
theorem dX10_innOf_11 : decode mX10_innOf.2.1 11 = .ok (.ireturn, 1) := by decide +kernel
theorem dX10_innOf_12 : decode mX10_innOf.2.1 12 = .ok (.aload_n 1, 1) := by decide +kernel
theorem dX10_innOf_13 : decode mX10_innOf.2.1 13 = .ok (.getfield 128, 3) := by decide +kernel
theorem dX10_innOf_16 : decode mX10_innOf.2.1 16 = .ok (.iconst 1, 1) := by decide +kernel
theorem dX10_innOf_17 : decode mX10_innOf.2.1 17 = .ok (.if_icmp .ne 14, 3) := by decide +kernel
theorem dX10_innOf_20 : decode mX10_innOf.2.1 20 = .ok (.aload_n 0, 1) := by decide +kernel
theorem dX10_innOf_21 : decode mX10_innOf.2.1 21 = .ok (.aload_n 1, 1) := by decide +kernel
theorem dX10_innOf_22 : decode mX10_innOf.2.1 22 = .ok (.getfield 134, 3) := by decide +kernel
theorem dX10_innOf_25 : decode mX10_innOf.2.1 25 = .ok (.invokevirtual 116, 3) := by decide +kernel
theorem dX10_innOf_28 : decode mX10_innOf.2.1 28 = .ok (.goto 4, 3) := by decide +kernel
theorem dX10_innOf_31 : decode mX10_innOf.2.1 31 = .ok (.aconst_null, 1) := by decide +kernel
theorem dX10_innOf_32 : decode mX10_innOf.2.1 32 = .ok (.astore_n 2, 1) := by decide +kernel
theorem dX10_innOf_33 : decode mX10_innOf.2.1 33 = .ok (.aload_n 2, 1) := by decide +kernel
theorem dX10_innOf_34 : decode mX10_innOf.2.1 34 = .ok (.ifnonnull 7, 3) := by decide +kernel
theorem dX10_innOf_37 : decode mX10_innOf.2.1 37 = .ok (.iconst (-1), 1) := by decide +kernel
theorem dX10_innOf_38 : decode mX10_innOf.2.1 38 = .ok (.goto 7, 3) := by decide +kernel
theorem dX10_innOf_41 : decode mX10_innOf.2.1 41 = .ok (.aload_n 2, 1) := by decide +kernel
theorem dX10_innOf_42 : decode mX10_innOf.2.1 42 = .ok (.getfield 131, 3) := by decide +kernel
theorem dX10_innOf_45 : decode mX10_innOf.2.1 45 = .ok (.ireturn, 1) := by decide +kernel
theorem dX10_isHour_0 : decode mX10_isHour.2.1 0 = .ok (.iload_n 0, 1) := by decide +kernel
theorem dX10_isHour_1 : decode mX10_isHour.2.1 1 = .ok (.ifCond .lt 14, 3) := by decide +kernel
theorem dX10_isHour_4 : decode mX10_isHour.2.1 4 = .ok (.iload_n 0, 1) := by decide +kernel
theorem dX10_isHour_5 : decode mX10_isHour.2.1 5 = .ok (.sipush 9999, 3) := by decide +kernel
theorem dX10_isHour_8 : decode mX10_isHour.2.1 8 = .ok (.if_icmp .gt 7, 3) := by decide +kernel
theorem dX10_isHour_11 : decode mX10_isHour.2.1 11 = .ok (.iconst 1, 1) := by decide +kernel
theorem dX10_isHour_12 : decode mX10_isHour.2.1 12 = .ok (.goto 4, 3) := by decide +kernel
theorem dX10_isHour_15 : decode mX10_isHour.2.1 15 = .ok (.iconst 0, 1) := by decide +kernel
theorem dX10_isHour_16 : decode mX10_isHour.2.1 16 = .ok (.ireturn, 1) := by decide +kernel
theorem dX10_isStrength_0 : decode mX10_isStrength.2.1 0 = .ok (.iload_n 0, 1) := by decide +kernel
theorem dX10_isStrength_1 : decode mX10_isStrength.2.1 1 = .ok (.bipush 20, 2) := by decide +kernel
theorem dX10_isStrength_3 : decode mX10_isStrength.2.1 3 = .ok (.if_icmp .lt 13, 3) := by decide +kernel
theorem dX10_isStrength_6 : decode mX10_isStrength.2.1 6 = .ok (.iload_n 0, 1) := by decide +kernel
theorem dX10_isStrength_7 : decode mX10_isStrength.2.1 7 = .ok (.bipush 120, 2) := by decide +kernel
theorem dX10_isStrength_9 : decode mX10_isStrength.2.1 9 = .ok (.if_icmp .gt 7, 3) := by decide +kernel
theorem dX10_isStrength_12 : decode mX10_isStrength.2.1 12 = .ok (.iconst 1, 1) := by decide +kernel
theorem dX10_isStrength_13 : decode mX10_isStrength.2.1 13 = .ok (.goto 4, 3) := by decide +kernel
theorem dX10_isStrength_16 : decode mX10_isStrength.2.1 16 = .ok (.iconst 0, 1) := by decide +kernel
theorem dX10_isStrength_17 : decode mX10_isStrength.2.1 17 = .ok (.ireturn, 1) := by decide +kernel
theorem dX10_isTaken_0 : decode mX10_isTaken.2.1 0 = .ok (.iconst 0, 1) := by decide +kernel
theorem dX10_isTaken_1 : decode mX10_isTaken.2.1 1 = .ok (.istore_n 2, 1) := by decide +kernel
theorem dX10_isTaken_2 : decode mX10_isTaken.2.1 2 = .ok (.iload_n 2, 1) := by decide +kernel
theorem dX10_isTaken_3 : decode mX10_isTaken.2.1 3 = .ok (.iconst 4, 1) := by decide +kernel
theorem dX10_isTaken_4 : decode mX10_isTaken.2.1 4 = .ok (.if_icmp .ge 33, 3) := by decide +kernel
theorem dX10_isTaken_7 : decode mX10_isTaken.2.1 7 = .ok (.aload_n 0, 1) := by decide +kernel
theorem dX10_isTaken_8 : decode mX10_isTaken.2.1 8 = .ok (.getfield 18, 3) := by decide +kernel
theorem dX10_isTaken_11 : decode mX10_isTaken.2.1 11 = .ok (.iload_n 2, 1) := by decide +kernel
theorem dX10_isTaken_12 : decode mX10_isTaken.2.1 12 = .ok (.aaload, 1) := by decide +kernel
theorem dX10_isTaken_13 : decode mX10_isTaken.2.1 13 = .ok (.ifnull 18, 3) := by decide +kernel
theorem dX10_isTaken_16 : decode mX10_isTaken.2.1 16 = .ok (.aload_n 0, 1) := by decide +kernel
theorem dX10_isTaken_17 : decode mX10_isTaken.2.1 17 = .ok (.getfield 18, 3) := by decide +kernel
theorem dX10_isTaken_20 : decode mX10_isTaken.2.1 20 = .ok (.iload_n 2, 1) := by decide +kernel
theorem dX10_isTaken_21 : decode mX10_isTaken.2.1 21 = .ok (.aaload, 1) := by decide +kernel
theorem dX10_isTaken_22 : decode mX10_isTaken.2.1 22 = .ok (.getfield 238, 3) := by decide +kernel
theorem dX10_isTaken_25 : decode mX10_isTaken.2.1 25 = .ok (.iload_n 1, 1) := by decide +kernel
theorem dX10_isTaken_26 : decode mX10_isTaken.2.1 26 = .ok (.if_icmp .ne 5, 3) := by decide +kernel
theorem dX10_isTaken_29 : decode mX10_isTaken.2.1 29 = .ok (.iconst 1, 1) := by decide +kernel
theorem dX10_isTaken_30 : decode mX10_isTaken.2.1 30 = .ok (.ireturn, 1) := by decide +kernel
theorem dX10_isTaken_31 : decode mX10_isTaken.2.1 31 = .ok (.iinc 2 1, 3) := by decide +kernel
theorem dX10_isTaken_34 : decode mX10_isTaken.2.1 34 = .ok (.goto (-32), 3) := by decide +kernel
theorem dX10_isTaken_37 : decode mX10_isTaken.2.1 37 = .ok (.iconst 0, 1) := by decide +kernel
theorem dX10_isTaken_38 : decode mX10_isTaken.2.1 38 = .ok (.ireturn, 1) := by decide +kernel
theorem dX10_lay_0 : decode mX10_lay.2.1 0 = .ok (.aload_n 0, 1) := by decide +kernel
theorem dX10_lay_1 : decode mX10_lay.2.1 1 = .ok (.iload_n 1, 1) := by decide +kernel
theorem dX10_lay_2 : decode mX10_lay.2.1 2 = .ok (.invokevirtual 116, 3) := by decide +kernel
theorem dX10_lay_5 : decode mX10_lay.2.1 5 = .ok (.astore 5, 2) := by decide +kernel
theorem dX10_lay_7 : decode mX10_lay.2.1 7 = .ok (.aload_n 0, 1) := by decide +kernel
theorem dX10_lay_8 : decode mX10_lay.2.1 8 = .ok (.iload 4, 2) := by decide +kernel
theorem dX10_lay_10 : decode mX10_lay.2.1 10 = .ok (.invokevirtual 120, 3) := by decide +kernel
theorem dX10_lay_13 : decode mX10_lay.2.1 13 = .ok (.astore 6, 2) := by decide +kernel
theorem dX10_lay_15 : decode mX10_lay.2.1 15 = .ok (.aload 5, 2) := by decide +kernel
theorem dX10_lay_17 : decode mX10_lay.2.1 17 = .ok (.ifnull 17, 3) := by decide +kernel
theorem dX10_lay_20 : decode mX10_lay.2.1 20 = .ok (.aload 6, 2) := by decide +kernel
theorem dX10_lay_22 : decode mX10_lay.2.1 22 = .ok (.ifnull 12, 3) := by decide +kernel
theorem dX10_lay_25 : decode mX10_lay.2.1 25 = .ok (.iload_n 3, 1) := by decide +kernel
theorem dX10_lay_26 : decode mX10_lay.2.1 26 = .ok (.ifCond .lt 8, 3) := by decide +kernel
theorem dX10_lay_29 : decode mX10_lay.2.1 29 = .ok (.iload_n 3, 1) := by decide +kernel
theorem dX10_lay_30 : decode mX10_lay.2.1 30 = .ok (.iconst 2, 1) := by decide +kernel
theorem dX10_lay_31 : decode mX10_lay.2.1 31 = .ok (.if_icmp .le 5, 3) := by decide +kernel
theorem dX10_lay_34 : decode mX10_lay.2.1 34 = .ok (.iconst (-1), 1) := by decide +kernel
theorem dX10_lay_35 : decode mX10_lay.2.1 35 = .ok (.ireturn, 1) := by decide +kernel
theorem dX10_lay_36 : decode mX10_lay.2.1 36 = .ok (.aload 5, 2) := by decide +kernel
theorem dX10_lay_38 : decode mX10_lay.2.1 38 = .ok (.iload_n 2, 1) := by decide +kernel
theorem dX10_lay_39 : decode mX10_lay.2.1 39 = .ok (.invokevirtual 124, 3) := by decide +kernel
theorem dX10_lay_42 : decode mX10_lay.2.1 42 = .ok (.astore 7, 2) := by decide +kernel
theorem dX10_lay_44 : decode mX10_lay.2.1 44 = .ok (.aload 7, 2) := by decide +kernel
theorem dX10_lay_46 : decode mX10_lay.2.1 46 = .ok (.ifnonnull 5, 3) := by decide +kernel
theorem dX10_lay_49 : decode mX10_lay.2.1 49 = .ok (.iconst (-1), 1) := by decide +kernel
theorem dX10_lay_50 : decode mX10_lay.2.1 50 = .ok (.ireturn, 1) := by decide +kernel
theorem dX10_lay_51 : decode mX10_lay.2.1 51 = .ok (.aload 6, 2) := by decide +kernel
theorem dX10_lay_53 : decode mX10_lay.2.1 53 = .ok (.getfield 128, 3) := by decide +kernel
theorem dX10_lay_56 : decode mX10_lay.2.1 56 = .ok (.ifCond .ne 16, 3) := by decide +kernel
theorem dX10_lay_59 : decode mX10_lay.2.1 59 = .ok (.aload 5, 2) := by decide +kernel
theorem dX10_lay_61 : decode mX10_lay.2.1 61 = .ok (.getfield 131, 3) := by decide +kernel
theorem dX10_lay_64 : decode mX10_lay.2.1 64 = .ok (.aload 6, 2) := by decide +kernel
theorem dX10_lay_66 : decode mX10_lay.2.1 66 = .ok (.getfield 134, 3) := by decide +kernel
theorem dX10_lay_69 : decode mX10_lay.2.1 69 = .ok (.if_icmp .eq 6, 3) := by decide +kernel
theorem dX10_lay_72 : decode mX10_lay.2.1 72 = .ok (.bipush (-2), 2) := by decide +kernel
theorem dX10_lay_74 : decode mX10_lay.2.1 74 = .ok (.ireturn, 1) := by decide +kernel
theorem dX10_lay_75 : decode mX10_lay.2.1 75 = .ok (.aload 7, 2) := by decide +kernel
theorem dX10_lay_77 : decode mX10_lay.2.1 77 = .ok (.getfield 137, 3) := by decide +kernel
theorem dX10_lay_80 : decode mX10_lay.2.1 80 = .ok (.ifCond .eq 6, 3) := by decide +kernel
theorem dX10_lay_83 : decode mX10_lay.2.1 83 = .ok (.bipush (-3), 2) := by decide +kernel
theorem dX10_lay_85 : decode mX10_lay.2.1 85 = .ok (.ireturn, 1) := by decide +kernel
theorem dX10_lay_86 : decode mX10_lay.2.1 86 = .ok (.aload 7, 2) := by decide +kernel
theorem dX10_lay_88 : decode mX10_lay.2.1 88 = .ok (.invokevirtual 143, 3) := by decide +kernel
theorem dX10_lay_91 : decode mX10_lay.2.1 91 = .ok (.aload 6, 2) := by decide +kernel
theorem dX10_lay_93 : decode mX10_lay.2.1 93 = .ok (.getfield 147, 3) := by decide +kernel
theorem dX10_lay_96 : decode mX10_lay.2.1 96 = .ok (.iadd, 1) := by decide +kernel
theorem dX10_lay_97 : decode mX10_lay.2.1 97 = .ok (.aload 7, 2) := by decide +kernel
theorem dX10_lay_99 : decode mX10_lay.2.1 99 = .ok (.getfield 150, 3) := by decide +kernel
theorem dX10_lay_102 : decode mX10_lay.2.1 102 = .ok (.if_icmp .le 6, 3) := by decide +kernel
theorem dX10_lay_105 : decode mX10_lay.2.1 105 = .ok (.bipush (-4), 2) := by decide +kernel
theorem dX10_lay_107 : decode mX10_lay.2.1 107 = .ok (.ireturn, 1) := by decide +kernel
theorem dX10_lay_108 : decode mX10_lay.2.1 108 = .ok (.aload 6, 2) := by decide +kernel
theorem dX10_lay_110 : decode mX10_lay.2.1 110 = .ok (.getfield 153, 3) := by decide +kernel
theorem dX10_lay_113 : decode mX10_lay.2.1 113 = .ok (.iconst 3, 1) := by decide +kernel
theorem dX10_lay_114 : decode mX10_lay.2.1 114 = .ok (.if_icmp .ne 7, 3) := by decide +kernel
theorem dX10_lay_117 : decode mX10_lay.2.1 117 = .ok (.iconst 1, 1) := by decide +kernel
theorem dX10_lay_118 : decode mX10_lay.2.1 118 = .ok (.goto 4, 3) := by decide +kernel
theorem dX10_lay_121 : decode mX10_lay.2.1 121 = .ok (.iconst 0, 1) := by decide +kernel
theorem dX10_lay_122 : decode mX10_lay.2.1 122 = .ok (.iload_n 3, 1) := by decide +kernel
theorem dX10_lay_123 : decode mX10_lay.2.1 123 = .ok (.iconst 2, 1) := by decide +kernel
theorem dX10_lay_124 : decode mX10_lay.2.1 124 = .ok (.if_icmp .ne 7, 3) := by decide +kernel
theorem dX10_lay_127 : decode mX10_lay.2.1 127 = .ok (.iconst 1, 1) := by decide +kernel
theorem dX10_lay_128 : decode mX10_lay.2.1 128 = .ok (.goto 4, 3) := by decide +kernel
theorem dX10_lay_131 : decode mX10_lay.2.1 131 = .ok (.iconst 0, 1) := by decide +kernel
theorem dX10_lay_132 : decode mX10_lay.2.1 132 = .ok (.if_icmp .ne 17, 3) := by decide +kernel
theorem dX10_lay_135 : decode mX10_lay.2.1 135 = .ok (.iload_n 3, 1) := by decide +kernel
theorem dX10_lay_136 : decode mX10_lay.2.1 136 = .ok (.iconst 2, 1) := by decide +kernel
theorem dX10_lay_137 : decode mX10_lay.2.1 137 = .ok (.if_icmp .ne 15, 3) := by decide +kernel
theorem dX10_lay_140 : decode mX10_lay.2.1 140 = .ok (.aload 7, 2) := by decide +kernel
theorem dX10_lay_142 : decode mX10_lay.2.1 142 = .ok (.getfield 156, 3) := by decide +kernel
theorem dX10_lay_145 : decode mX10_lay.2.1 145 = .ok (.iconst (-1), 1) := by decide +kernel
theorem dX10_lay_146 : decode mX10_lay.2.1 146 = .ok (.if_icmp .eq 6, 3) := by decide +kernel
theorem dX10_lay_149 : decode mX10_lay.2.1 149 = .ok (.bipush (-5), 2) := by decide +kernel
theorem dX10_lay_151 : decode mX10_lay.2.1 151 = .ok (.ireturn, 1) := by decide +kernel
theorem dX10_lay_152 : decode mX10_lay.2.1 152 = .ok (.aload 7, 2) := by decide +kernel
theorem dX10_lay_154 : decode mX10_lay.2.1 154 = .ok (.iload_n 3, 1) := by decide +kernel
theorem dX10_lay_155 : decode mX10_lay.2.1 155 = .ok (.iload 4, 2) := by decide +kernel
theorem dX10_lay_157 : decode mX10_lay.2.1 157 = .ok (.aload 6, 2) := by decide +kernel
theorem dX10_lay_159 : decode mX10_lay.2.1 159 = .ok (.getfield 147, 3) := by decide +kernel
theorem dX10_lay_162 : decode mX10_lay.2.1 162 = .ok (.invokevirtual 159, 3) := by decide +kernel
theorem dX10_lay_165 : decode mX10_lay.2.1 165 = .ok (.aload 5, 2) := by decide +kernel
theorem dX10_lay_167 : decode mX10_lay.2.1 167 = .ok (.dup, 1) := by decide +kernel
theorem dX10_lay_168 : decode mX10_lay.2.1 168 = .ok (.getfield 162, 3) := by decide +kernel
theorem dX10_lay_171 : decode mX10_lay.2.1 171 = .ok (.iconst 1, 1) := by decide +kernel
theorem dX10_lay_172 : decode mX10_lay.2.1 172 = .ok (.iadd, 1) := by decide +kernel
theorem dX10_lay_173 : decode mX10_lay.2.1 173 = .ok (.putfield 162, 3) := by decide +kernel
theorem dX10_lay_176 : decode mX10_lay.2.1 176 = .ok (.aload 6, 2) := by decide +kernel
theorem dX10_lay_178 : decode mX10_lay.2.1 178 = .ok (.iload_n 1, 1) := by decide +kernel
theorem dX10_lay_179 : decode mX10_lay.2.1 179 = .ok (.iload_n 2, 1) := by decide +kernel
theorem dX10_lay_180 : decode mX10_lay.2.1 180 = .ok (.iload_n 3, 1) := by decide +kernel
theorem dX10_lay_181 : decode mX10_lay.2.1 181 = .ok (.invokevirtual 164, 3) := by decide +kernel
theorem dX10_lay_184 : decode mX10_lay.2.1 184 = .ok (.aload_n 0, 1) := by decide +kernel
theorem dX10_lay_185 : decode mX10_lay.2.1 185 = .ok (.getfield 37, 3) := by decide +kernel
theorem dX10_lay_188 : decode mX10_lay.2.1 188 = .ok (.iload 4, 2) := by decide +kernel
theorem dX10_lay_190 : decode mX10_lay.2.1 190 = .ok (.aload_n 0, 1) := by decide +kernel
theorem dX10_lay_191 : decode mX10_lay.2.1 191 = .ok (.getfield 77, 3) := by decide +kernel
theorem dX10_lay_194 : decode mX10_lay.2.1 194 = .ok (.bipush 10, 2) := by decide +kernel
theorem dX10_lay_196 : decode mX10_lay.2.1 196 = .ok (.iload_n 1, 1) := by decide +kernel
theorem dX10_lay_197 : decode mX10_lay.2.1 197 = .ok (.iadd, 1) := by decide +kernel
theorem dX10_lay_198 : decode mX10_lay.2.1 198 = .ok (.invokevirtual 112, 3) := by decide +kernel
theorem dX10_lay_201 : decode mX10_lay.2.1 201 = .ok (.aload 7, 2) := by decide +kernel
theorem dX10_lay_203 : decode mX10_lay.2.1 203 = .ok (.invokevirtual 143, 3) := by decide +kernel
theorem dX10_lay_206 : decode mX10_lay.2.1 206 = .ok (.ireturn, 1) := by decide +kernel
theorem dX10_muleOf_0 : decode mX10_muleOf.2.1 0 = .ok (.aload_n 0, 1) := by decide +kernel
theorem dX10_muleOf_1 : decode mX10_muleOf.2.1 1 = .ok (.iload_n 1, 1) := by decide +kernel
theorem dX10_muleOf_2 : decode mX10_muleOf.2.1 2 = .ok (.invokevirtual 116, 3) := by decide +kernel
theorem dX10_muleOf_5 : decode mX10_muleOf.2.1 5 = .ok (.astore 4, 2) := by decide +kernel
theorem dX10_muleOf_7 : decode mX10_muleOf.2.1 7 = .ok (.aload 4, 2) := by decide +kernel
theorem dX10_muleOf_9 : decode mX10_muleOf.2.1 9 = .ok (.ifnonnull 5, 3) := by decide +kernel
theorem dX10_muleOf_12 : decode mX10_muleOf.2.1 12 = .ok (.iconst (-1), 1) := by decide +kernel
theorem dX10_muleOf_13 : decode mX10_muleOf.2.1 13 = .ok (.ireturn, 1) := by decide +kernel
theorem dX10_muleOf_14 : decode mX10_muleOf.2.1 14 = .ok (.aload 4, 2) := by decide +kernel
theorem dX10_muleOf_16 : decode mX10_muleOf.2.1 16 = .ok (.iload_n 2, 1) := by decide +kernel
theorem dX10_muleOf_17 : decode mX10_muleOf.2.1 17 = .ok (.invokevirtual 124, 3) := by decide +kernel
theorem dX10_muleOf_20 : decode mX10_muleOf.2.1 20 = .ok (.astore 5, 2) := by decide +kernel
theorem dX10_muleOf_22 : decode mX10_muleOf.2.1 22 = .ok (.aload 5, 2) := by decide +kernel
theorem dX10_muleOf_24 : decode mX10_muleOf.2.1 24 = .ok (.ifnonnull 5, 3) := by decide +kernel
theorem dX10_muleOf_27 : decode mX10_muleOf.2.1 27 = .ok (.iconst (-1), 1) := by decide +kernel
theorem dX10_muleOf_28 : decode mX10_muleOf.2.1 28 = .ok (.ireturn, 1) := by decide +kernel
theorem dX10_muleOf_29 : decode mX10_muleOf.2.1 29 = .ok (.iload_n 3, 1) := by decide +kernel
theorem dX10_muleOf_30 : decode mX10_muleOf.2.1 30 = .ok (.tableswitch 102 0 7 #[46, 52, 58, 72, 78, 84, 90, 96], 46) := by decide +kernel
theorem dX10_muleOf_76 : decode mX10_muleOf.2.1 76 = .ok (.aload 5, 2) := by decide +kernel
theorem dX10_muleOf_78 : decode mX10_muleOf.2.1 78 = .ok (.getfield 150, 3) := by decide +kernel
theorem dX10_muleOf_81 : decode mX10_muleOf.2.1 81 = .ok (.ireturn, 1) := by decide +kernel
theorem dX10_muleOf_82 : decode mX10_muleOf.2.1 82 = .ok (.aload 5, 2) := by decide +kernel
theorem dX10_muleOf_84 : decode mX10_muleOf.2.1 84 = .ok (.getfield 244, 3) := by decide +kernel
theorem dX10_muleOf_87 : decode mX10_muleOf.2.1 87 = .ok (.ireturn, 1) := by decide +kernel
theorem dX10_muleOf_88 : decode mX10_muleOf.2.1 88 = .ok (.aload 5, 2) := by decide +kernel
theorem dX10_muleOf_90 : decode mX10_muleOf.2.1 90 = .ok (.getfield 137, 3) := by decide +kernel
theorem dX10_muleOf_93 : decode mX10_muleOf.2.1 93 = .ok (.ifCond .eq 7, 3) := by decide +kernel
theorem dX10_muleOf_96 : decode mX10_muleOf.2.1 96 = .ok (.iconst 1, 1) := by decide +kernel
theorem dX10_muleOf_97 : decode mX10_muleOf.2.1 97 = .ok (.goto 4, 3) := by decide +kernel
theorem dX10_muleOf_100 : decode mX10_muleOf.2.1 100 = .ok (.iconst 0, 1) := by decide +kernel
theorem dX10_muleOf_101 : decode mX10_muleOf.2.1 101 = .ok (.ireturn, 1) := by decide +kernel
theorem dX10_muleOf_102 : decode mX10_muleOf.2.1 102 = .ok (.aload 5, 2) := by decide +kernel
theorem dX10_muleOf_104 : decode mX10_muleOf.2.1 104 = .ok (.invokevirtual 143, 3) := by decide +kernel
theorem dX10_muleOf_107 : decode mX10_muleOf.2.1 107 = .ok (.ireturn, 1) := by decide +kernel
theorem dX10_muleOf_108 : decode mX10_muleOf.2.1 108 = .ok (.aload 5, 2) := by decide +kernel
theorem dX10_muleOf_110 : decode mX10_muleOf.2.1 110 = .ok (.getfield 247, 3) := by decide +kernel
theorem dX10_muleOf_113 : decode mX10_muleOf.2.1 113 = .ok (.ireturn, 1) := by decide +kernel
theorem dX10_muleOf_114 : decode mX10_muleOf.2.1 114 = .ok (.aload 5, 2) := by decide +kernel
theorem dX10_muleOf_116 : decode mX10_muleOf.2.1 116 = .ok (.getfield 250, 3) := by decide +kernel
theorem dX10_muleOf_119 : decode mX10_muleOf.2.1 119 = .ok (.ireturn, 1) := by decide +kernel
theorem dX10_muleOf_120 : decode mX10_muleOf.2.1 120 = .ok (.aload 5, 2) := by decide +kernel
theorem dX10_muleOf_122 : decode mX10_muleOf.2.1 122 = .ok (.getfield 156, 3) := by decide +kernel
theorem dX10_muleOf_125 : decode mX10_muleOf.2.1 125 = .ok (.ireturn, 1) := by decide +kernel
theorem dX10_muleOf_126 : decode mX10_muleOf.2.1 126 = .ok (.aload 5, 2) := by decide +kernel
theorem dX10_muleOf_128 : decode mX10_muleOf.2.1 128 = .ok (.getfield 253, 3) := by decide +kernel
theorem dX10_muleOf_131 : decode mX10_muleOf.2.1 131 = .ok (.ireturn, 1) := by decide +kernel
theorem dX10_muleOf_132 : decode mX10_muleOf.2.1 132 = .ok (.iconst (-1), 1) := by decide +kernel
theorem dX10_muleOf_133 : decode mX10_muleOf.2.1 133 = .ok (.ireturn, 1) := by decide +kernel
theorem dX10_of_0 : decode mX10_of.2.1 0 = .ok (.aload_n 0, 1) := by decide +kernel
theorem dX10_of_1 : decode mX10_of.2.1 1 = .ok (.iload_n 1, 1) := by decide +kernel
theorem dX10_of_2 : decode mX10_of.2.1 2 = .ok (.invokevirtual 120, 3) := by decide +kernel
theorem dX10_of_5 : decode mX10_of.2.1 5 = .ok (.astore_n 3, 1) := by decide +kernel
theorem dX10_of_6 : decode mX10_of.2.1 6 = .ok (.aload_n 3, 1) := by decide +kernel
theorem dX10_of_7 : decode mX10_of.2.1 7 = .ok (.ifnonnull 5, 3) := by decide +kernel
theorem dX10_of_10 : decode mX10_of.2.1 10 = .ok (.iconst (-1), 1) := by decide +kernel
theorem dX10_of_11 : decode mX10_of.2.1 11 = .ok (.ireturn, 1) := by decide +kernel
theorem dX10_of_12 : decode mX10_of.2.1 12 = .ok (.iload_n 2, 1) := by decide +kernel
theorem dX10_of_13 : decode mX10_of.2.1 13 = .ok (.tableswitch 91 0 7 #[47, 52, 57, 62, 67, 72, 77, 82], 47) := by decide +kernel
theorem dX10_of_60 : decode mX10_of.2.1 60 = .ok (.aload_n 3, 1) := by decide +kernel
theorem dX10_of_61 : decode mX10_of.2.1 61 = .ok (.getfield 153, 3) := by decide +kernel
theorem dX10_of_64 : decode mX10_of.2.1 64 = .ok (.ireturn, 1) := by decide +kernel
theorem dX10_of_65 : decode mX10_of.2.1 65 = .ok (.aload_n 3, 1) := by decide +kernel
theorem dX10_of_66 : decode mX10_of.2.1 66 = .ok (.getfield 147, 3) := by decide +kernel
theorem dX10_of_69 : decode mX10_of.2.1 69 = .ok (.ireturn, 1) := by decide +kernel
theorem dX10_of_70 : decode mX10_of.2.1 70 = .ok (.aload_n 3, 1) := by decide +kernel
theorem dX10_of_71 : decode mX10_of.2.1 71 = .ok (.getfield 181, 3) := by decide +kernel
theorem dX10_of_74 : decode mX10_of.2.1 74 = .ok (.ireturn, 1) := by decide +kernel
theorem dX10_of_75 : decode mX10_of.2.1 75 = .ok (.aload_n 3, 1) := by decide +kernel
theorem dX10_of_76 : decode mX10_of.2.1 76 = .ok (.getfield 128, 3) := by decide +kernel
theorem dX10_of_79 : decode mX10_of.2.1 79 = .ok (.ireturn, 1) := by decide +kernel
theorem dX10_of_80 : decode mX10_of.2.1 80 = .ok (.aload_n 3, 1) := by decide +kernel
theorem dX10_of_81 : decode mX10_of.2.1 81 = .ok (.getfield 134, 3) := by decide +kernel
theorem dX10_of_84 : decode mX10_of.2.1 84 = .ok (.ireturn, 1) := by decide +kernel
theorem dX10_of_85 : decode mX10_of.2.1 85 = .ok (.aload_n 3, 1) := by decide +kernel
theorem dX10_of_86 : decode mX10_of.2.1 86 = .ok (.getfield 256, 3) := by decide +kernel
theorem dX10_of_89 : decode mX10_of.2.1 89 = .ok (.ireturn, 1) := by decide +kernel
theorem dX10_of_90 : decode mX10_of.2.1 90 = .ok (.aload_n 3, 1) := by decide +kernel
theorem dX10_of_91 : decode mX10_of.2.1 91 = .ok (.getfield 259, 3) := by decide +kernel
theorem dX10_of_94 : decode mX10_of.2.1 94 = .ok (.ireturn, 1) := by decide +kernel
theorem dX10_of_95 : decode mX10_of.2.1 95 = .ok (.aload_n 0, 1) := by decide +kernel
theorem dX10_of_96 : decode mX10_of.2.1 96 = .ok (.aload_n 3, 1) := by decide +kernel
theorem dX10_of_97 : decode mX10_of.2.1 97 = .ok (.getfield 256, 3) := by decide +kernel
theorem dX10_of_100 : decode mX10_of.2.1 100 = .ok (.invokevirtual 262, 3) := by decide +kernel
theorem dX10_of_103 : decode mX10_of.2.1 103 = .ok (.ireturn, 1) := by decide +kernel
theorem dX10_of_104 : decode mX10_of.2.1 104 = .ok (.iconst (-1), 1) := by decide +kernel
theorem dX10_of_105 : decode mX10_of.2.1 105 = .ok (.ireturn, 1) := by decide +kernel
theorem dX10_pack_0 : decode mX10_pack.2.1 0 = .ok (.aload_n 0, 1) := by decide +kernel
theorem dX10_pack_1 : decode mX10_pack.2.1 1 = .ok (.getfield 10, 3) := by decide +kernel
theorem dX10_pack_4 : decode mX10_pack.2.1 4 = .ok (.iload_n 1, 1) := by decide +kernel
theorem dX10_pack_5 : decode mX10_pack.2.1 5 = .ok (.invokevirtual 85, 3) := by decide +kernel
theorem dX10_pack_8 : decode mX10_pack.2.1 8 = .ok (.ifCond .eq 19, 3) := by decide +kernel
theorem dX10_pack_11 : decode mX10_pack.2.1 11 = .ok (.aload_n 0, 1) := by decide +kernel
theorem dX10_pack_12 : decode mX10_pack.2.1 12 = .ok (.getfield 10, 3) := by decide +kernel
theorem dX10_pack_15 : decode mX10_pack.2.1 15 = .ok (.iload_n 2, 1) := by decide +kernel
theorem dX10_pack_16 : decode mX10_pack.2.1 16 = .ok (.invokevirtual 85, 3) := by decide +kernel
theorem dX10_pack_19 : decode mX10_pack.2.1 19 = .ok (.ifCond .eq 8, 3) := by decide +kernel
theorem dX10_pack_22 : decode mX10_pack.2.1 22 = .ok (.iload_n 1, 1) := by decide +kernel
theorem dX10_pack_23 : decode mX10_pack.2.1 23 = .ok (.iload_n 2, 1) := by decide +kernel
theorem dX10_pack_24 : decode mX10_pack.2.1 24 = .ok (.if_icmp .ne 5, 3) := by decide +kernel
theorem dX10_pack_27 : decode mX10_pack.2.1 27 = .ok (.iconst (-1), 1) := by decide +kernel
theorem dX10_pack_28 : decode mX10_pack.2.1 28 = .ok (.ireturn, 1) := by decide +kernel
theorem dX10_pack_29 : decode mX10_pack.2.1 29 = .ok (.iload_n 3, 1) := by decide +kernel
theorem dX10_pack_30 : decode mX10_pack.2.1 30 = .ok (.ifCond .lt 30, 3) := by decide +kernel
theorem dX10_pack_33 : decode mX10_pack.2.1 33 = .ok (.iload_n 3, 1) := by decide +kernel
theorem dX10_pack_34 : decode mX10_pack.2.1 34 = .ok (.iconst 3, 1) := by decide +kernel
theorem dX10_pack_35 : decode mX10_pack.2.1 35 = .ok (.if_icmp .gt 25, 3) := by decide +kernel
theorem dX10_pack_38 : decode mX10_pack.2.1 38 = .ok (.iload 4, 2) := by decide +kernel
theorem dX10_pack_40 : decode mX10_pack.2.1 40 = .ok (.iconst 1, 1) := by decide +kernel
theorem dX10_pack_41 : decode mX10_pack.2.1 41 = .ok (.if_icmp .lt 19, 3) := by decide +kernel
theorem dX10_pack_44 : decode mX10_pack.2.1 44 = .ok (.iload 4, 2) := by decide +kernel
theorem dX10_pack_46 : decode mX10_pack.2.1 46 = .ok (.bipush 60, 2) := by decide +kernel
theorem dX10_pack_48 : decode mX10_pack.2.1 48 = .ok (.if_icmp .gt 12, 3) := by decide +kernel
theorem dX10_pack_51 : decode mX10_pack.2.1 51 = .ok (.aload_n 0, 1) := by decide +kernel
theorem dX10_pack_52 : decode mX10_pack.2.1 52 = .ok (.getfield 68, 3) := by decide +kernel
theorem dX10_pack_55 : decode mX10_pack.2.1 55 = .ok (.bipush 100, 2) := by decide +kernel
theorem dX10_pack_57 : decode mX10_pack.2.1 57 = .ok (.if_icmp .lt 5, 3) := by decide +kernel
theorem dX10_pack_60 : decode mX10_pack.2.1 60 = .ok (.iconst (-1), 1) := by decide +kernel
theorem dX10_pack_61 : decode mX10_pack.2.1 61 = .ok (.ireturn, 1) := by decide +kernel
theorem dX10_pack_62 : decode mX10_pack.2.1 62 = .ok (.aload_n 0, 1) := by decide +kernel
theorem dX10_pack_63 : decode mX10_pack.2.1 63 = .ok (.getfield 24, 3) := by decide +kernel
theorem dX10_pack_66 : decode mX10_pack.2.1 66 = .ok (.aload_n 0, 1) := by decide +kernel
theorem dX10_pack_67 : decode mX10_pack.2.1 67 = .ok (.getfield 68, 3) := by decide +kernel
theorem dX10_pack_70 : decode mX10_pack.2.1 70 = .ok (.new 22, 3) := by decide +kernel
theorem dX10_pack_73 : decode mX10_pack.2.1 73 = .ok (.dup, 1) := by decide +kernel
theorem dX10_pack_74 : decode mX10_pack.2.1 74 = .ok (.iload_n 3, 1) := by decide +kernel
theorem dX10_pack_75 : decode mX10_pack.2.1 75 = .ok (.iload 4, 2) := by decide +kernel
theorem dX10_pack_77 : decode mX10_pack.2.1 77 = .ok (.iload_n 1, 1) := by decide +kernel
theorem dX10_pack_78 : decode mX10_pack.2.1 78 = .ok (.iload_n 2, 1) := by decide +kernel
theorem dX10_pack_79 : decode mX10_pack.2.1 79 = .ok (.aload_n 0, 1) := by decide +kernel
theorem dX10_pack_80 : decode mX10_pack.2.1 80 = .ok (.getfield 77, 3) := by decide +kernel
theorem dX10_pack_83 : decode mX10_pack.2.1 83 = .ok (.invokespecial 109, 3) := by decide +kernel
theorem dX10_pack_86 : decode mX10_pack.2.1 86 = .ok (.aastore, 1) := by decide +kernel
theorem dX10_pack_87 : decode mX10_pack.2.1 87 = .ok (.aload_n 0, 1) := by decide +kernel
theorem dX10_pack_88 : decode mX10_pack.2.1 88 = .ok (.getfield 37, 3) := by decide +kernel
theorem dX10_pack_91 : decode mX10_pack.2.1 91 = .ok (.aload_n 0, 1) := by decide +kernel
theorem dX10_pack_92 : decode mX10_pack.2.1 92 = .ok (.getfield 68, 3) := by decide +kernel
theorem dX10_pack_95 : decode mX10_pack.2.1 95 = .ok (.aload_n 0, 1) := by decide +kernel
theorem dX10_pack_96 : decode mX10_pack.2.1 96 = .ok (.getfield 77, 3) := by decide +kernel
theorem dX10_pack_99 : decode mX10_pack.2.1 99 = .ok (.iload_n 1, 1) := by decide +kernel
theorem dX10_pack_100 : decode mX10_pack.2.1 100 = .ok (.invokevirtual 112, 3) := by decide +kernel
theorem dX10_pack_103 : decode mX10_pack.2.1 103 = .ok (.aload_n 0, 1) := by decide +kernel
theorem dX10_pack_104 : decode mX10_pack.2.1 104 = .ok (.dup, 1) := by decide +kernel
theorem dX10_pack_105 : decode mX10_pack.2.1 105 = .ok (.getfield 68, 3) := by decide +kernel
theorem dX10_pack_108 : decode mX10_pack.2.1 108 = .ok (.iconst 1, 1) := by decide +kernel
theorem dX10_pack_109 : decode mX10_pack.2.1 109 = .ok (.iadd, 1) := by decide +kernel
theorem dX10_pack_110 : decode mX10_pack.2.1 110 = .ok (.putfield 68, 3) := by decide +kernel
theorem dX10_pack_113 : decode mX10_pack.2.1 113 = .ok (.aload_n 0, 1) := by decide +kernel
theorem dX10_pack_114 : decode mX10_pack.2.1 114 = .ok (.getfield 68, 3) := by decide +kernel
theorem dX10_pack_117 : decode mX10_pack.2.1 117 = .ok (.iconst 1, 1) := by decide +kernel
theorem dX10_pack_118 : decode mX10_pack.2.1 118 = .ok (.isub, 1) := by decide +kernel
theorem dX10_pack_119 : decode mX10_pack.2.1 119 = .ok (.ireturn, 1) := by decide +kernel
theorem dX10_packAt_0 : decode mX10_packAt.2.1 0 = .ok (.iload_n 1, 1) := by decide +kernel
theorem dX10_packAt_1 : decode mX10_packAt.2.1 1 = .ok (.ifCond .lt 17, 3) := by decide +kernel
theorem dX10_packAt_4 : decode mX10_packAt.2.1 4 = .ok (.iload_n 1, 1) := by decide +kernel
theorem dX10_packAt_5 : decode mX10_packAt.2.1 5 = .ok (.aload_n 0, 1) := by decide +kernel
theorem dX10_packAt_6 : decode mX10_packAt.2.1 6 = .ok (.getfield 68, 3) := by decide +kernel
theorem dX10_packAt_9 : decode mX10_packAt.2.1 9 = .ok (.if_icmp .ge 9, 3) := by decide +kernel
theorem dX10_packAt_12 : decode mX10_packAt.2.1 12 = .ok (.iload_n 1, 1) := by decide +kernel
theorem dX10_packAt_13 : decode mX10_packAt.2.1 13 = .ok (.bipush 100, 2) := by decide +kernel
theorem dX10_packAt_15 : decode mX10_packAt.2.1 15 = .ok (.if_icmp .lt 7, 3) := by decide +kernel
theorem dX10_packAt_18 : decode mX10_packAt.2.1 18 = .ok (.aconst_null, 1) := by decide +kernel
theorem dX10_packAt_19 : decode mX10_packAt.2.1 19 = .ok (.goto 9, 3) := by decide +kernel
theorem dX10_packAt_22 : decode mX10_packAt.2.1 22 = .ok (.aload_n 0, 1) := by decide +kernel
theorem dX10_packAt_23 : decode mX10_packAt.2.1 23 = .ok (.getfield 24, 3) := by decide +kernel
theorem dX10_packAt_26 : decode mX10_packAt.2.1 26 = .ok (.iload_n 1, 1) := by decide +kernel
theorem dX10_packAt_27 : decode mX10_packAt.2.1 27 = .ok (.aaload, 1) := by decide +kernel
theorem dX10_packAt_28 : decode mX10_packAt.2.1 28 = .ok (.areturn, 1) := by decide +kernel
theorem dX10_packsThatAre_0 : decode mX10_packsThatAre.2.1 0 = .ok (.iconst 0, 1) := by decide +kernel
theorem dX10_packsThatAre_1 : decode mX10_packsThatAre.2.1 1 = .ok (.istore_n 2, 1) := by decide +kernel
theorem dX10_packsThatAre_2 : decode mX10_packsThatAre.2.1 2 = .ok (.iconst 0, 1) := by decide +kernel
theorem dX10_packsThatAre_3 : decode mX10_packsThatAre.2.1 3 = .ok (.istore_n 3, 1) := by decide +kernel
theorem dX10_packsThatAre_4 : decode mX10_packsThatAre.2.1 4 = .ok (.iload_n 3, 1) := by decide +kernel
theorem dX10_packsThatAre_5 : decode mX10_packsThatAre.2.1 5 = .ok (.bipush 100, 2) := by decide +kernel
theorem dX10_packsThatAre_7 : decode mX10_packsThatAre.2.1 7 = .ok (.if_icmp .ge 34, 3) := by decide +kernel
theorem dX10_packsThatAre_10 : decode mX10_packsThatAre.2.1 10 = .ok (.aload_n 0, 1) := by decide +kernel
theorem dX10_packsThatAre_11 : decode mX10_packsThatAre.2.1 11 = .ok (.getfield 24, 3) := by decide +kernel
theorem dX10_packsThatAre_14 : decode mX10_packsThatAre.2.1 14 = .ok (.iload_n 3, 1) := by decide +kernel
theorem dX10_packsThatAre_15 : decode mX10_packsThatAre.2.1 15 = .ok (.aaload, 1) := by decide +kernel
theorem dX10_packsThatAre_16 : decode mX10_packsThatAre.2.1 16 = .ok (.ifnull 19, 3) := by decide +kernel
theorem dX10_packsThatAre_19 : decode mX10_packsThatAre.2.1 19 = .ok (.aload_n 0, 1) := by decide +kernel
theorem dX10_packsThatAre_20 : decode mX10_packsThatAre.2.1 20 = .ok (.getfield 24, 3) := by decide +kernel
theorem dX10_packsThatAre_23 : decode mX10_packsThatAre.2.1 23 = .ok (.iload_n 3, 1) := by decide +kernel
theorem dX10_packsThatAre_24 : decode mX10_packsThatAre.2.1 24 = .ok (.aaload, 1) := by decide +kernel
theorem dX10_packsThatAre_25 : decode mX10_packsThatAre.2.1 25 = .ok (.getfield 128, 3) := by decide +kernel
theorem dX10_packsThatAre_28 : decode mX10_packsThatAre.2.1 28 = .ok (.iload_n 1, 1) := by decide +kernel
theorem dX10_packsThatAre_29 : decode mX10_packsThatAre.2.1 29 = .ok (.if_icmp .ne 6, 3) := by decide +kernel
theorem dX10_packsThatAre_32 : decode mX10_packsThatAre.2.1 32 = .ok (.iinc 2 1, 3) := by decide +kernel
theorem dX10_packsThatAre_35 : decode mX10_packsThatAre.2.1 35 = .ok (.iinc 3 1, 3) := by decide +kernel
theorem dX10_packsThatAre_38 : decode mX10_packsThatAre.2.1 38 = .ok (.goto (-34), 3) := by decide +kernel
theorem dX10_packsThatAre_41 : decode mX10_packsThatAre.2.1 41 = .ok (.iload_n 2, 1) := by decide +kernel
theorem dX10_packsThatAre_42 : decode mX10_packsThatAre.2.1 42 = .ok (.ireturn, 1) := by decide +kernel
theorem dX10_passHour_0 : decode mX10_passHour.2.1 0 = .ok (.aload_n 0, 1) := by decide +kernel
theorem dX10_passHour_1 : decode mX10_passHour.2.1 1 = .ok (.getfield 10, 3) := by decide +kernel
theorem dX10_passHour_4 : decode mX10_passHour.2.1 4 = .ok (.aload_n 0, 1) := by decide +kernel
theorem dX10_passHour_5 : decode mX10_passHour.2.1 5 = .ok (.getfield 77, 3) := by decide +kernel
theorem dX10_passHour_8 : decode mX10_passHour.2.1 8 = .ok (.invokevirtual 291, 3) := by decide +kernel
theorem dX10_passHour_11 : decode mX10_passHour.2.1 11 = .ok (.istore_n 1, 1) := by decide +kernel
theorem dX10_passHour_12 : decode mX10_passHour.2.1 12 = .ok (.iload_n 1, 1) := by decide +kernel
theorem dX10_passHour_13 : decode mX10_passHour.2.1 13 = .ok (.ifCond .eq 8, 3) := by decide +kernel
theorem dX10_passHour_16 : decode mX10_passHour.2.1 16 = .ok (.aload_n 0, 1) := by decide +kernel
theorem dX10_passHour_17 : decode mX10_passHour.2.1 17 = .ok (.iload_n 1, 1) := by decide +kernel
theorem dX10_passHour_18 : decode mX10_passHour.2.1 18 = .ok (.invokevirtual 294, 3) := by decide +kernel
theorem dX10_passHour_21 : decode mX10_passHour.2.1 21 = .ok (.iconst 0, 1) := by decide +kernel
theorem dX10_passHour_22 : decode mX10_passHour.2.1 22 = .ok (.istore_n 2, 1) := by decide +kernel
theorem dX10_passHour_23 : decode mX10_passHour.2.1 23 = .ok (.iload_n 2, 1) := by decide +kernel
theorem dX10_passHour_24 : decode mX10_passHour.2.1 24 = .ok (.iconst 4, 1) := by decide +kernel
theorem dX10_passHour_25 : decode mX10_passHour.2.1 25 = .ok (.if_icmp .ge 47, 3) := by decide +kernel
theorem dX10_passHour_28 : decode mX10_passHour.2.1 28 = .ok (.aload_n 0, 1) := by decide +kernel
theorem dX10_passHour_29 : decode mX10_passHour.2.1 29 = .ok (.getfield 18, 3) := by decide +kernel
theorem dX10_passHour_32 : decode mX10_passHour.2.1 32 = .ok (.iload_n 2, 1) := by decide +kernel
theorem dX10_passHour_33 : decode mX10_passHour.2.1 33 = .ok (.aaload, 1) := by decide +kernel
theorem dX10_passHour_34 : decode mX10_passHour.2.1 34 = .ok (.ifnull 32, 3) := by decide +kernel
theorem dX10_passHour_37 : decode mX10_passHour.2.1 37 = .ok (.aload_n 0, 1) := by decide +kernel
theorem dX10_passHour_38 : decode mX10_passHour.2.1 38 = .ok (.getfield 18, 3) := by decide +kernel
theorem dX10_passHour_41 : decode mX10_passHour.2.1 41 = .ok (.iload_n 2, 1) := by decide +kernel
theorem dX10_passHour_42 : decode mX10_passHour.2.1 42 = .ok (.aaload, 1) := by decide +kernel
theorem dX10_passHour_43 : decode mX10_passHour.2.1 43 = .ok (.aload_n 0, 1) := by decide +kernel
theorem dX10_passHour_44 : decode mX10_passHour.2.1 44 = .ok (.getfield 77, 3) := by decide +kernel
theorem dX10_passHour_47 : decode mX10_passHour.2.1 47 = .ok (.aload_n 0, 1) := by decide +kernel
theorem dX10_passHour_48 : decode mX10_passHour.2.1 48 = .ok (.getfield 10, 3) := by decide +kernel
theorem dX10_passHour_51 : decode mX10_passHour.2.1 51 = .ok (.aload_n 0, 1) := by decide +kernel
theorem dX10_passHour_52 : decode mX10_passHour.2.1 52 = .ok (.getfield 18, 3) := by decide +kernel
theorem dX10_passHour_55 : decode mX10_passHour.2.1 55 = .ok (.iload_n 2, 1) := by decide +kernel
theorem dX10_passHour_56 : decode mX10_passHour.2.1 56 = .ok (.aaload, 1) := by decide +kernel
theorem dX10_passHour_57 : decode mX10_passHour.2.1 57 = .ok (.getfield 238, 3) := by decide +kernel
theorem dX10_passHour_60 : decode mX10_passHour.2.1 60 = .ok (.invokevirtual 297, 3) := by decide +kernel
theorem dX10_passHour_63 : decode mX10_passHour.2.1 63 = .ok (.invokevirtual 300, 3) := by decide +kernel
theorem dX10_passHour_66 : decode mX10_passHour.2.1 66 = .ok (.iinc 2 1, 3) := by decide +kernel
theorem dX10_passHour_69 : decode mX10_passHour.2.1 69 = .ok (.goto (-46), 3) := by decide +kernel
theorem dX10_passHour_72 : decode mX10_passHour.2.1 72 = .ok (.aload_n 0, 1) := by decide +kernel
theorem dX10_passHour_73 : decode mX10_passHour.2.1 73 = .ok (.dup, 1) := by decide +kernel
theorem dX10_passHour_74 : decode mX10_passHour.2.1 74 = .ok (.getfield 77, 3) := by decide +kernel
theorem dX10_passHour_77 : decode mX10_passHour.2.1 77 = .ok (.iconst 1, 1) := by decide +kernel
theorem dX10_passHour_78 : decode mX10_passHour.2.1 78 = .ok (.iadd, 1) := by decide +kernel
theorem dX10_passHour_79 : decode mX10_passHour.2.1 79 = .ok (.putfield 77, 3) := by decide +kernel
theorem dX10_passHour_82 : decode mX10_passHour.2.1 82 = .ok (.return_, 1) := by decide +kernel
theorem dX10_payFor_0 : decode mX10_payFor.2.1 0 = .ok (.aload_n 0, 1) := by decide +kernel
theorem dX10_payFor_1 : decode mX10_payFor.2.1 1 = .ok (.aload_n 1, 1) := by decide +kernel
theorem dX10_payFor_2 : decode mX10_payFor.2.1 2 = .ok (.getfield 256, 3) := by decide +kernel
theorem dX10_payFor_5 : decode mX10_payFor.2.1 5 = .ok (.invokevirtual 262, 3) := by decide +kernel
theorem dX10_payFor_8 : decode mX10_payFor.2.1 8 = .ok (.istore_n 2, 1) := by decide +kernel
theorem dX10_payFor_9 : decode mX10_payFor.2.1 9 = .ok (.iload_n 2, 1) := by decide +kernel
theorem dX10_payFor_10 : decode mX10_payFor.2.1 10 = .ok (.iconst (-1), 1) := by decide +kernel
theorem dX10_payFor_11 : decode mX10_payFor.2.1 11 = .ok (.if_icmp .ne 7, 3) := by decide +kernel
theorem dX10_payFor_14 : decode mX10_payFor.2.1 14 = .ok (.iconst 0, 1) := by decide +kernel
theorem dX10_payFor_15 : decode mX10_payFor.2.1 15 = .ok (.goto 22, 3) := by decide +kernel
theorem dX10_payFor_18 : decode mX10_payFor.2.1 18 = .ok (.aload_n 0, 1) := by decide +kernel
theorem dX10_payFor_19 : decode mX10_payFor.2.1 19 = .ok (.getfield 30, 3) := by decide +kernel
theorem dX10_payFor_22 : decode mX10_payFor.2.1 22 = .ok (.iload_n 2, 1) := by decide +kernel
theorem dX10_payFor_23 : decode mX10_payFor.2.1 23 = .ok (.aaload, 1) := by decide +kernel
theorem dX10_payFor_24 : decode mX10_payFor.2.1 24 = .ok (.aload_n 1, 1) := by decide +kernel
theorem dX10_payFor_25 : decode mX10_payFor.2.1 25 = .ok (.aload_n 0, 1) := by decide +kernel
theorem dX10_payFor_26 : decode mX10_payFor.2.1 26 = .ok (.getfield 77, 3) := by decide +kernel
theorem dX10_payFor_29 : decode mX10_payFor.2.1 29 = .ok (.aload_n 1, 1) := by decide +kernel
theorem dX10_payFor_30 : decode mX10_payFor.2.1 30 = .ok (.getfield 256, 3) := by decide +kernel
theorem dX10_payFor_33 : decode mX10_payFor.2.1 33 = .ok (.isub, 1) := by decide +kernel
theorem dX10_payFor_34 : decode mX10_payFor.2.1 34 = .ok (.invokevirtual 317, 3) := by decide +kernel
theorem dX10_payFor_37 : decode mX10_payFor.2.1 37 = .ok (.ireturn, 1) := by decide +kernel
theorem dX10_payOfAll_0 : decode mX10_payOfAll.2.1 0 = .ok (.iconst 0, 1) := by decide +kernel
theorem dX10_payOfAll_1 : decode mX10_payOfAll.2.1 1 = .ok (.istore_n 1, 1) := by decide +kernel
theorem dX10_payOfAll_2 : decode mX10_payOfAll.2.1 2 = .ok (.iconst 0, 1) := by decide +kernel
theorem dX10_payOfAll_3 : decode mX10_payOfAll.2.1 3 = .ok (.istore_n 2, 1) := by decide +kernel
theorem dX10_payOfAll_4 : decode mX10_payOfAll.2.1 4 = .ok (.iload_n 2, 1) := by decide +kernel
theorem dX10_payOfAll_5 : decode mX10_payOfAll.2.1 5 = .ok (.bipush 100, 2) := by decide +kernel
theorem dX10_payOfAll_7 : decode mX10_payOfAll.2.1 7 = .ok (.if_icmp .ge 30, 3) := by decide +kernel
theorem dX10_payOfAll_10 : decode mX10_payOfAll.2.1 10 = .ok (.aload_n 0, 1) := by decide +kernel
theorem dX10_payOfAll_11 : decode mX10_payOfAll.2.1 11 = .ok (.getfield 24, 3) := by decide +kernel
theorem dX10_payOfAll_14 : decode mX10_payOfAll.2.1 14 = .ok (.iload_n 2, 1) := by decide +kernel
theorem dX10_payOfAll_15 : decode mX10_payOfAll.2.1 15 = .ok (.aaload, 1) := by decide +kernel
theorem dX10_payOfAll_16 : decode mX10_payOfAll.2.1 16 = .ok (.ifnull 15, 3) := by decide +kernel
theorem dX10_payOfAll_19 : decode mX10_payOfAll.2.1 19 = .ok (.iload_n 1, 1) := by decide +kernel
theorem dX10_payOfAll_20 : decode mX10_payOfAll.2.1 20 = .ok (.aload_n 0, 1) := by decide +kernel
theorem dX10_payOfAll_21 : decode mX10_payOfAll.2.1 21 = .ok (.getfield 24, 3) := by decide +kernel
theorem dX10_payOfAll_24 : decode mX10_payOfAll.2.1 24 = .ok (.iload_n 2, 1) := by decide +kernel
theorem dX10_payOfAll_25 : decode mX10_payOfAll.2.1 25 = .ok (.aaload, 1) := by decide +kernel
theorem dX10_payOfAll_26 : decode mX10_payOfAll.2.1 26 = .ok (.getfield 272, 3) := by decide +kernel
theorem dX10_payOfAll_29 : decode mX10_payOfAll.2.1 29 = .ok (.iadd, 1) := by decide +kernel
theorem dX10_payOfAll_30 : decode mX10_payOfAll.2.1 30 = .ok (.istore_n 1, 1) := by decide +kernel
theorem dX10_payOfAll_31 : decode mX10_payOfAll.2.1 31 = .ok (.iinc 2 1, 3) := by decide +kernel
theorem dX10_payOfAll_34 : decode mX10_payOfAll.2.1 34 = .ok (.goto (-30), 3) := by decide +kernel
theorem dX10_payOfAll_37 : decode mX10_payOfAll.2.1 37 = .ok (.iload_n 1, 1) := by decide +kernel
theorem dX10_payOfAll_38 : decode mX10_payOfAll.2.1 38 = .ok (.ireturn, 1) := by decide +kernel
theorem dX10_place_0 : decode mX10_place.2.1 0 = .ok (.aload_n 0, 1) := by decide +kernel
theorem dX10_place_1 : decode mX10_place.2.1 1 = .ok (.getfield 74, 3) := by decide +kernel
theorem dX10_place_4 : decode mX10_place.2.1 4 = .ok (.ireturn, 1) := by decide +kernel
theorem dX10_shut_0 : decode mX10_shut.2.1 0 = .ok (.aload_n 0, 1) := by decide +kernel
theorem dX10_shut_1 : decode mX10_shut.2.1 1 = .ok (.getfield 10, 3) := by decide +kernel
theorem dX10_shut_4 : decode mX10_shut.2.1 4 = .ok (.iload_n 1, 1) := by decide +kernel
theorem dX10_shut_5 : decode mX10_shut.2.1 5 = .ok (.invokevirtual 99, 3) := by decide +kernel
theorem dX10_shut_8 : decode mX10_shut.2.1 8 = .ok (.ifCond .eq 22, 3) := by decide +kernel
theorem dX10_shut_11 : decode mX10_shut.2.1 11 = .ok (.iload_n 2, 1) := by decide +kernel
theorem dX10_shut_12 : decode mX10_shut.2.1 12 = .ok (.invokestatic 102, 3) := by decide +kernel
theorem dX10_shut_15 : decode mX10_shut.2.1 15 = .ok (.ifCond .eq 15, 3) := by decide +kernel
theorem dX10_shut_18 : decode mX10_shut.2.1 18 = .ok (.iload_n 3, 1) := by decide +kernel
theorem dX10_shut_19 : decode mX10_shut.2.1 19 = .ok (.ifCond .lt 11, 3) := by decide +kernel
theorem dX10_shut_22 : decode mX10_shut.2.1 22 = .ok (.iload_n 3, 1) := by decide +kernel
theorem dX10_shut_23 : decode mX10_shut.2.1 23 = .ok (.aload_n 0, 1) := by decide +kernel
theorem dX10_shut_24 : decode mX10_shut.2.1 24 = .ok (.getfield 77, 3) := by decide +kernel
theorem dX10_shut_27 : decode mX10_shut.2.1 27 = .ok (.if_icmp .le 5, 3) := by decide +kernel
theorem dX10_shut_30 : decode mX10_shut.2.1 30 = .ok (.iconst (-1), 1) := by decide +kernel
theorem dX10_shut_31 : decode mX10_shut.2.1 31 = .ok (.ireturn, 1) := by decide +kernel
theorem dX10_shut_32 : decode mX10_shut.2.1 32 = .ok (.aload_n 0, 1) := by decide +kernel
theorem dX10_shut_33 : decode mX10_shut.2.1 33 = .ok (.getfield 10, 3) := by decide +kernel
theorem dX10_shut_36 : decode mX10_shut.2.1 36 = .ok (.iload_n 1, 1) := by decide +kernel
theorem dX10_shut_37 : decode mX10_shut.2.1 37 = .ok (.iload_n 2, 1) := by decide +kernel
theorem dX10_shut_38 : decode mX10_shut.2.1 38 = .ok (.iload_n 3, 1) := by decide +kernel
theorem dX10_shut_39 : decode mX10_shut.2.1 39 = .ok (.invokevirtual 105, 3) := by decide +kernel
theorem dX10_shut_42 : decode mX10_shut.2.1 42 = .ok (.ifCond .eq 7, 3) := by decide +kernel
theorem dX10_shut_45 : decode mX10_shut.2.1 45 = .ok (.iconst 1, 1) := by decide +kernel
theorem dX10_shut_46 : decode mX10_shut.2.1 46 = .ok (.goto 4, 3) := by decide +kernel
theorem dX10_shut_49 : decode mX10_shut.2.1 49 = .ok (.iconst 0, 1) := by decide +kernel
theorem dX10_shut_50 : decode mX10_shut.2.1 50 = .ok (.ireturn, 1) := by decide +kernel
theorem dX10_snow_0 : decode mX10_snow.2.1 0 = .ok (.aload_n 0, 1) := by decide +kernel
theorem dX10_snow_1 : decode mX10_snow.2.1 1 = .ok (.getfield 10, 3) := by decide +kernel
theorem dX10_snow_4 : decode mX10_snow.2.1 4 = .ok (.iload_n 1, 1) := by decide +kernel
theorem dX10_snow_5 : decode mX10_snow.2.1 5 = .ok (.iload_n 2, 1) := by decide +kernel
theorem dX10_snow_6 : decode mX10_snow.2.1 6 = .ok (.iload_n 3, 1) := by decide +kernel
theorem dX10_snow_7 : decode mX10_snow.2.1 7 = .ok (.aload_n 0, 1) := by decide +kernel
theorem dX10_snow_8 : decode mX10_snow.2.1 8 = .ok (.getfield 77, 3) := by decide +kernel
theorem dX10_snow_11 : decode mX10_snow.2.1 11 = .ok (.invokevirtual 95, 3) := by decide +kernel
theorem dX10_snow_14 : decode mX10_snow.2.1 14 = .ok (.ireturn, 1) := by decide +kernel
theorem dX10_string_0 : decode mX10_string.2.1 0 = .ok (.aload_n 0, 1) := by decide +kernel
theorem dX10_string_1 : decode mX10_string.2.1 1 = .ok (.getfield 10, 3) := by decide +kernel
theorem dX10_string_4 : decode mX10_string.2.1 4 = .ok (.iload_n 1, 1) := by decide +kernel
theorem dX10_string_5 : decode mX10_string.2.1 5 = .ok (.invokevirtual 85, 3) := by decide +kernel
theorem dX10_string_8 : decode mX10_string.2.1 8 = .ok (.ifCond .eq 11, 3) := by decide +kernel
theorem dX10_string_11 : decode mX10_string.2.1 11 = .ok (.aload_n 0, 1) := by decide +kernel
theorem dX10_string_12 : decode mX10_string.2.1 12 = .ok (.getfield 64, 3) := by decide +kernel
theorem dX10_string_15 : decode mX10_string.2.1 15 = .ok (.iconst 4, 1) := by decide +kernel
theorem dX10_string_16 : decode mX10_string.2.1 16 = .ok (.if_icmp .lt 5, 3) := by decide +kernel
theorem dX10_string_19 : decode mX10_string.2.1 19 = .ok (.iconst (-1), 1) := by decide +kernel
theorem dX10_string_20 : decode mX10_string.2.1 20 = .ok (.ireturn, 1) := by decide +kernel
theorem dX10_string_21 : decode mX10_string.2.1 21 = .ok (.iload_n 2, 1) := by decide +kernel
theorem dX10_string_22 : decode mX10_string.2.1 22 = .ok (.invokestatic 89, 3) := by decide +kernel
theorem dX10_string_25 : decode mX10_string.2.1 25 = .ok (.ifCond .eq 18, 3) := by decide +kernel
theorem dX10_string_28 : decode mX10_string.2.1 28 = .ok (.iload_n 3, 1) := by decide +kernel
theorem dX10_string_29 : decode mX10_string.2.1 29 = .ok (.invokestatic 89, 3) := by decide +kernel
theorem dX10_string_32 : decode mX10_string.2.1 32 = .ok (.ifCond .eq 11, 3) := by decide +kernel
theorem dX10_string_35 : decode mX10_string.2.1 35 = .ok (.iload 4, 2) := by decide +kernel
theorem dX10_string_37 : decode mX10_string.2.1 37 = .ok (.invokestatic 89, 3) := by decide +kernel
theorem dX10_string_40 : decode mX10_string.2.1 40 = .ok (.ifCond .ne 5, 3) := by decide +kernel
theorem dX10_string_43 : decode mX10_string.2.1 43 = .ok (.iconst (-1), 1) := by decide +kernel
theorem dX10_string_44 : decode mX10_string.2.1 44 = .ok (.ireturn, 1) := by decide +kernel
theorem dX10_string_45 : decode mX10_string.2.1 45 = .ok (.aload_n 0, 1) := by decide +kernel
theorem dX10_string_46 : decode mX10_string.2.1 46 = .ok (.getfield 18, 3) := by decide +kernel
theorem dX10_string_49 : decode mX10_string.2.1 49 = .ok (.aload_n 0, 1) := by decide +kernel
theorem dX10_string_50 : decode mX10_string.2.1 50 = .ok (.getfield 64, 3) := by decide +kernel
theorem dX10_string_53 : decode mX10_string.2.1 53 = .ok (.new 16, 3) := by decide +kernel
theorem dX10_string_56 : decode mX10_string.2.1 56 = .ok (.dup, 1) := by decide +kernel
theorem dX10_string_57 : decode mX10_string.2.1 57 = .ok (.iload_n 1, 1) := by decide +kernel
theorem dX10_string_58 : decode mX10_string.2.1 58 = .ok (.iload_n 2, 1) := by decide +kernel
theorem dX10_string_59 : decode mX10_string.2.1 59 = .ok (.iload_n 3, 1) := by decide +kernel
theorem dX10_string_60 : decode mX10_string.2.1 60 = .ok (.iload 4, 2) := by decide +kernel
theorem dX10_string_62 : decode mX10_string.2.1 62 = .ok (.invokespecial 92, 3) := by decide +kernel
theorem dX10_string_65 : decode mX10_string.2.1 65 = .ok (.aastore, 1) := by decide +kernel
theorem dX10_string_66 : decode mX10_string.2.1 66 = .ok (.aload_n 0, 1) := by decide +kernel
theorem dX10_string_67 : decode mX10_string.2.1 67 = .ok (.dup, 1) := by decide +kernel
theorem dX10_string_68 : decode mX10_string.2.1 68 = .ok (.getfield 64, 3) := by decide +kernel
theorem dX10_string_71 : decode mX10_string.2.1 71 = .ok (.iconst 1, 1) := by decide +kernel
theorem dX10_string_72 : decode mX10_string.2.1 72 = .ok (.iadd, 1) := by decide +kernel
theorem dX10_string_73 : decode mX10_string.2.1 73 = .ok (.putfield 64, 3) := by decide +kernel
theorem dX10_string_76 : decode mX10_string.2.1 76 = .ok (.aload_n 0, 1) := by decide +kernel
theorem dX10_string_77 : decode mX10_string.2.1 77 = .ok (.getfield 64, 3) := by decide +kernel
theorem dX10_string_80 : decode mX10_string.2.1 80 = .ok (.iconst 1, 1) := by decide +kernel
theorem dX10_string_81 : decode mX10_string.2.1 81 = .ok (.isub, 1) := by decide +kernel
theorem dX10_string_82 : decode mX10_string.2.1 82 = .ok (.ireturn, 1) := by decide +kernel
theorem dX10_stringOf_0 : decode mX10_stringOf.2.1 0 = .ok (.aload_n 0, 1) := by decide +kernel
theorem dX10_stringOf_1 : decode mX10_stringOf.2.1 1 = .ok (.iload_n 1, 1) := by decide +kernel
theorem dX10_stringOf_2 : decode mX10_stringOf.2.1 2 = .ok (.invokevirtual 116, 3) := by decide +kernel
theorem dX10_stringOf_5 : decode mX10_stringOf.2.1 5 = .ok (.astore_n 3, 1) := by decide +kernel
theorem dX10_stringOf_6 : decode mX10_stringOf.2.1 6 = .ok (.aload_n 3, 1) := by decide +kernel
theorem dX10_stringOf_7 : decode mX10_stringOf.2.1 7 = .ok (.ifnonnull 5, 3) := by decide +kernel
theorem dX10_stringOf_10 : decode mX10_stringOf.2.1 10 = .ok (.iconst (-1), 1) := by decide +kernel
theorem dX10_stringOf_11 : decode mX10_stringOf.2.1 11 = .ok (.ireturn, 1) := by decide +kernel
theorem dX10_stringOf_12 : decode mX10_stringOf.2.1 12 = .ok (.iload_n 2, 1) := by decide +kernel
theorem dX10_stringOf_13 : decode mX10_stringOf.2.1 13 = .ok (.tableswitch 80 0 4 #[35, 40, 45, 70, 75], 35) := by decide +kernel
theorem dX10_stringOf_48 : decode mX10_stringOf.2.1 48 = .ok (.aload_n 3, 1) := by decide +kernel
theorem dX10_stringOf_49 : decode mX10_stringOf.2.1 49 = .ok (.getfield 131, 3) := by decide +kernel
theorem dX10_stringOf_52 : decode mX10_stringOf.2.1 52 = .ok (.ireturn, 1) := by decide +kernel
theorem dX10_stringOf_53 : decode mX10_stringOf.2.1 53 = .ok (.aload_n 3, 1) := by decide +kernel
theorem dX10_stringOf_54 : decode mX10_stringOf.2.1 54 = .ok (.getfield 238, 3) := by decide +kernel
theorem dX10_stringOf_57 : decode mX10_stringOf.2.1 57 = .ok (.ireturn, 1) := by decide +kernel
theorem dX10_stringOf_58 : decode mX10_stringOf.2.1 58 = .ok (.aload_n 3, 1) := by decide +kernel
theorem dX10_stringOf_59 : decode mX10_stringOf.2.1 59 = .ok (.getfield 238, 3) := by decide +kernel
theorem dX10_stringOf_62 : decode mX10_stringOf.2.1 62 = .ok (.iconst (-1), 1) := by decide +kernel
theorem dX10_stringOf_63 : decode mX10_stringOf.2.1 63 = .ok (.if_icmp .ne 7, 3) := by decide +kernel
theorem dX10_stringOf_66 : decode mX10_stringOf.2.1 66 = .ok (.iconst (-1), 1) := by decide +kernel
theorem dX10_stringOf_67 : decode mX10_stringOf.2.1 67 = .ok (.goto 15, 3) := by decide +kernel
theorem dX10_stringOf_70 : decode mX10_stringOf.2.1 70 = .ok (.aload_n 3, 1) := by decide +kernel
theorem dX10_stringOf_71 : decode mX10_stringOf.2.1 71 = .ok (.getfield 241, 3) := by decide +kernel
theorem dX10_stringOf_74 : decode mX10_stringOf.2.1 74 = .ok (.ifCond .eq 7, 3) := by decide +kernel
theorem dX10_stringOf_77 : decode mX10_stringOf.2.1 77 = .ok (.iconst 1, 1) := by decide +kernel
theorem dX10_stringOf_78 : decode mX10_stringOf.2.1 78 = .ok (.goto 4, 3) := by decide +kernel
theorem dX10_stringOf_81 : decode mX10_stringOf.2.1 81 = .ok (.iconst 0, 1) := by decide +kernel
theorem dX10_stringOf_82 : decode mX10_stringOf.2.1 82 = .ok (.ireturn, 1) := by decide +kernel
theorem dX10_stringOf_83 : decode mX10_stringOf.2.1 83 = .ok (.aload_n 3, 1) := by decide +kernel
theorem dX10_stringOf_84 : decode mX10_stringOf.2.1 84 = .ok (.getfield 209, 3) := by decide +kernel
theorem dX10_stringOf_87 : decode mX10_stringOf.2.1 87 = .ok (.ireturn, 1) := by decide +kernel
theorem dX10_stringOf_88 : decode mX10_stringOf.2.1 88 = .ok (.aload_n 3, 1) := by decide +kernel
theorem dX10_stringOf_89 : decode mX10_stringOf.2.1 89 = .ok (.getfield 162, 3) := by decide +kernel
theorem dX10_stringOf_92 : decode mX10_stringOf.2.1 92 = .ok (.ireturn, 1) := by decide +kernel
theorem dX10_stringOf_93 : decode mX10_stringOf.2.1 93 = .ok (.iconst (-1), 1) := by decide +kernel
theorem dX10_stringOf_94 : decode mX10_stringOf.2.1 94 = .ok (.ireturn, 1) := by decide +kernel
theorem dX10_trainAt_0 : decode mX10_trainAt.2.1 0 = .ok (.iload_n 1, 1) := by decide +kernel
theorem dX10_trainAt_1 : decode mX10_trainAt.2.1 1 = .ok (.ifCond .lt 16, 3) := by decide +kernel
theorem dX10_trainAt_4 : decode mX10_trainAt.2.1 4 = .ok (.iload_n 1, 1) := by decide +kernel
theorem dX10_trainAt_5 : decode mX10_trainAt.2.1 5 = .ok (.aload_n 0, 1) := by decide +kernel
theorem dX10_trainAt_6 : decode mX10_trainAt.2.1 6 = .ok (.getfield 64, 3) := by decide +kernel
theorem dX10_trainAt_9 : decode mX10_trainAt.2.1 9 = .ok (.if_icmp .ge 8, 3) := by decide +kernel
theorem dX10_trainAt_12 : decode mX10_trainAt.2.1 12 = .ok (.iload_n 1, 1) := by decide +kernel
theorem dX10_trainAt_13 : decode mX10_trainAt.2.1 13 = .ok (.iconst 4, 1) := by decide +kernel
theorem dX10_trainAt_14 : decode mX10_trainAt.2.1 14 = .ok (.if_icmp .lt 7, 3) := by decide +kernel
theorem dX10_trainAt_17 : decode mX10_trainAt.2.1 17 = .ok (.aconst_null, 1) := by decide +kernel
theorem dX10_trainAt_18 : decode mX10_trainAt.2.1 18 = .ok (.goto 9, 3) := by decide +kernel
theorem dX10_trainAt_21 : decode mX10_trainAt.2.1 21 = .ok (.aload_n 0, 1) := by decide +kernel
theorem dX10_trainAt_22 : decode mX10_trainAt.2.1 22 = .ok (.getfield 18, 3) := by decide +kernel
theorem dX10_trainAt_25 : decode mX10_trainAt.2.1 25 = .ok (.iload_n 1, 1) := by decide +kernel
theorem dX10_trainAt_26 : decode mX10_trainAt.2.1 26 = .ok (.aaload, 1) := by decide +kernel
theorem dX10_trainAt_27 : decode mX10_trainAt.2.1 27 = .ok (.areturn, 1) := by decide +kernel
theorem dX10_was_0 : decode mX10_was.2.1 0 = .ok (.aload_n 0, 1) := by decide +kernel
theorem dX10_was_1 : decode mX10_was.2.1 1 = .ok (.iload_n 1, 1) := by decide +kernel
theorem dX10_was_2 : decode mX10_was.2.1 2 = .ok (.invokevirtual 120, 3) := by decide +kernel
theorem dX10_was_5 : decode mX10_was.2.1 5 = .ok (.ifnull 15, 3) := by decide +kernel
theorem dX10_was_8 : decode mX10_was.2.1 8 = .ok (.iload_n 2, 1) := by decide +kernel
theorem dX10_was_9 : decode mX10_was.2.1 9 = .ok (.ifCond .lt 11, 3) := by decide +kernel
theorem dX10_was_12 : decode mX10_was.2.1 12 = .ok (.iload_n 2, 1) := by decide +kernel
theorem dX10_was_13 : decode mX10_was.2.1 13 = .ok (.aload_n 0, 1) := by decide +kernel
theorem dX10_was_14 : decode mX10_was.2.1 14 = .ok (.getfield 77, 3) := by decide +kernel
theorem dX10_was_17 : decode mX10_was.2.1 17 = .ok (.if_icmp .le 5, 3) := by decide +kernel
theorem dX10_was_20 : decode mX10_was.2.1 20 = .ok (.iconst (-1), 1) := by decide +kernel
theorem dX10_was_21 : decode mX10_was.2.1 21 = .ok (.ireturn, 1) := by decide +kernel
theorem dX10_was_22 : decode mX10_was.2.1 22 = .ok (.aload_n 0, 1) := by decide +kernel
theorem dX10_was_23 : decode mX10_was.2.1 23 = .ok (.getfield 37, 3) := by decide +kernel
theorem dX10_was_26 : decode mX10_was.2.1 26 = .ok (.iload_n 1, 1) := by decide +kernel
theorem dX10_was_27 : decode mX10_was.2.1 27 = .ok (.iload_n 2, 1) := by decide +kernel
theorem dX10_was_28 : decode mX10_was.2.1 28 = .ok (.invokevirtual 275, 3) := by decide +kernel
theorem dX10_was_31 : decode mX10_was.2.1 31 = .ok (.ireturn, 1) := by decide +kernel
theorem dX11_allBrought_0 : decode mX11_allBrought.2.1 0 = .ok (.iconst 0, 1) := by decide +kernel
theorem dX11_allBrought_1 : decode mX11_allBrought.2.1 1 = .ok (.istore_n 1, 1) := by decide +kernel
theorem dX11_allBrought_2 : decode mX11_allBrought.2.1 2 = .ok (.iconst 0, 1) := by decide +kernel
theorem dX11_allBrought_3 : decode mX11_allBrought.2.1 3 = .ok (.istore_n 2, 1) := by decide +kernel
theorem dX11_allBrought_4 : decode mX11_allBrought.2.1 4 = .ok (.iload_n 2, 1) := by decide +kernel
theorem dX11_allBrought_5 : decode mX11_allBrought.2.1 5 = .ok (.aload_n 0, 1) := by decide +kernel
theorem dX11_allBrought_6 : decode mX11_allBrought.2.1 6 = .ok (.getfield 165, 3) := by decide +kernel
theorem dX11_allBrought_9 : decode mX11_allBrought.2.1 9 = .ok (.if_icmp .ge 27, 3) := by decide +kernel
theorem dX11_allBrought_12 : decode mX11_allBrought.2.1 12 = .ok (.aload_n 0, 1) := by decide +kernel
theorem dX11_allBrought_13 : decode mX11_allBrought.2.1 13 = .ok (.getfield 69, 3) := by decide +kernel
theorem dX11_allBrought_16 : decode mX11_allBrought.2.1 16 = .ok (.iload_n 2, 1) := by decide +kernel
theorem dX11_allBrought_17 : decode mX11_allBrought.2.1 17 = .ok (.iaload, 1) := by decide +kernel
theorem dX11_allBrought_18 : decode mX11_allBrought.2.1 18 = .ok (.iconst 2, 1) := by decide +kernel
theorem dX11_allBrought_19 : decode mX11_allBrought.2.1 19 = .ok (.if_icmp .ne 11, 3) := by decide +kernel
theorem dX11_allBrought_22 : decode mX11_allBrought.2.1 22 = .ok (.iload_n 1, 1) := by decide +kernel
theorem dX11_allBrought_23 : decode mX11_allBrought.2.1 23 = .ok (.aload_n 0, 1) := by decide +kernel
theorem dX11_allBrought_24 : decode mX11_allBrought.2.1 24 = .ok (.iload_n 2, 1) := by decide +kernel
theorem dX11_allBrought_25 : decode mX11_allBrought.2.1 25 = .ok (.invokevirtual 324, 3) := by decide +kernel
theorem dX11_allBrought_28 : decode mX11_allBrought.2.1 28 = .ok (.iadd, 1) := by decide +kernel
theorem dX11_allBrought_29 : decode mX11_allBrought.2.1 29 = .ok (.istore_n 1, 1) := by decide +kernel
theorem dX11_allBrought_30 : decode mX11_allBrought.2.1 30 = .ok (.iinc 2 1, 3) := by decide +kernel
theorem dX11_allBrought_33 : decode mX11_allBrought.2.1 33 = .ok (.goto (-29), 3) := by decide +kernel
theorem dX11_allBrought_36 : decode mX11_allBrought.2.1 36 = .ok (.iload_n 1, 1) := by decide +kernel
theorem dX11_allBrought_37 : decode mX11_allBrought.2.1 37 = .ok (.ireturn, 1) := by decide +kernel
theorem dX11_bargain_0 : decode mX11_bargain.2.1 0 = .ok (.aload_n 0, 1) := by decide +kernel
theorem dX11_bargain_1 : decode mX11_bargain.2.1 1 = .ok (.iconst 0, 1) := by decide +kernel
theorem dX11_bargain_2 : decode mX11_bargain.2.1 2 = .ok (.putfield 1, 3) := by decide +kernel
theorem dX11_bargain_5 : decode mX11_bargain.2.1 5 = .ok (.aload_n 0, 1) := by decide +kernel
theorem dX11_bargain_6 : decode mX11_bargain.2.1 6 = .ok (.getfield 313, 3) := by decide +kernel
theorem dX11_bargain_9 : decode mX11_bargain.2.1 9 = .ok (.bipush 10, 2) := by decide +kernel
theorem dX11_bargain_11 : decode mX11_bargain.2.1 11 = .ok (.if_icmp .ne 5, 3) := by decide +kernel
theorem dX11_bargain_14 : decode mX11_bargain.2.1 14 = .ok (.iconst (-1), 1) := by decide +kernel
theorem dX11_bargain_15 : decode mX11_bargain.2.1 15 = .ok (.ireturn, 1) := by decide +kernel
theorem dX11_bargain_16 : decode mX11_bargain.2.1 16 = .ok (.aload_n 0, 1) := by decide +kernel
theorem dX11_bargain_17 : decode mX11_bargain.2.1 17 = .ok (.iconst 0, 1) := by decide +kernel
theorem dX11_bargain_18 : decode mX11_bargain.2.1 18 = .ok (.putfield 264, 3) := by decide +kernel
theorem dX11_bargain_21 : decode mX11_bargain.2.1 21 = .ok (.aload_n 0, 1) := by decide +kernel
theorem dX11_bargain_22 : decode mX11_bargain.2.1 22 = .ok (.iconst 0, 1) := by decide +kernel
theorem dX11_bargain_23 : decode mX11_bargain.2.1 23 = .ok (.putfield 233, 3) := by decide +kernel
theorem dX11_bargain_26 : decode mX11_bargain.2.1 26 = .ok (.aload_n 0, 1) := by decide +kernel
theorem dX11_bargain_27 : decode mX11_bargain.2.1 27 = .ok (.getfield 118, 3) := by decide +kernel
theorem dX11_bargain_30 : decode mX11_bargain.2.1 30 = .ok (.bipush 10, 2) := by decide +kernel
theorem dX11_bargain_32 : decode mX11_bargain.2.1 32 = .ok (.iconst 0, 1) := by decide +kernel
theorem dX11_bargain_33 : decode mX11_bargain.2.1 33 = .ok (.iastore, 1) := by decide +kernel
theorem dX11_bargain_34 : decode mX11_bargain.2.1 34 = .ok (.aload_n 0, 1) := by decide +kernel
theorem dX11_bargain_35 : decode mX11_bargain.2.1 35 = .ok (.invokevirtual 292, 3) := by decide +kernel
theorem dX11_bargain_38 : decode mX11_bargain.2.1 38 = .ok (.aload_n 0, 1) := by decide +kernel
theorem dX11_bargain_39 : decode mX11_bargain.2.1 39 = .ok (.invokevirtual 301, 3) := by decide +kernel
theorem dX11_bargain_42 : decode mX11_bargain.2.1 42 = .ok (.ifCond .eq 17, 3) := by decide +kernel
theorem dX11_bargain_45 : decode mX11_bargain.2.1 45 = .ok (.aload_n 0, 1) := by decide +kernel
theorem dX11_bargain_46 : decode mX11_bargain.2.1 46 = .ok (.getfield 239, 3) := by decide +kernel
theorem dX11_bargain_49 : decode mX11_bargain.2.1 49 = .ok (.ifCond .eq 10, 3) := by decide +kernel
theorem dX11_bargain_52 : decode mX11_bargain.2.1 52 = .ok (.aload_n 0, 1) := by decide +kernel
theorem dX11_bargain_53 : decode mX11_bargain.2.1 53 = .ok (.invokevirtual 316, 3) := by decide +kernel
theorem dX11_bargain_56 : decode mX11_bargain.2.1 56 = .ok (.goto (-18), 3) := by decide +kernel
theorem dX11_bargain_59 : decode mX11_bargain.2.1 59 = .ok (.aload_n 0, 1) := by decide +kernel
theorem dX11_bargain_60 : decode mX11_bargain.2.1 60 = .ok (.iconst 0, 1) := by decide +kernel
theorem dX11_bargain_61 : decode mX11_bargain.2.1 61 = .ok (.putfield 230, 3) := by decide +kernel
theorem dX11_bargain_64 : decode mX11_bargain.2.1 64 = .ok (.aload_n 0, 1) := by decide +kernel
theorem dX11_bargain_65 : decode mX11_bargain.2.1 65 = .ok (.aload_n 0, 1) := by decide +kernel
theorem dX11_bargain_66 : decode mX11_bargain.2.1 66 = .ok (.invokevirtual 301, 3) := by decide +kernel
theorem dX11_bargain_69 : decode mX11_bargain.2.1 69 = .ok (.ifCond .eq 7, 3) := by decide +kernel
theorem dX11_bargain_72 : decode mX11_bargain.2.1 72 = .ok (.iconst (-1), 1) := by decide +kernel
theorem dX11_bargain_73 : decode mX11_bargain.2.1 73 = .ok (.goto 7, 3) := by decide +kernel
theorem dX11_bargain_76 : decode mX11_bargain.2.1 76 = .ok (.aload_n 0, 1) := by decide +kernel
theorem dX11_bargain_77 : decode mX11_bargain.2.1 77 = .ok (.getfield 267, 3) := by decide +kernel
theorem dX11_bargain_80 : decode mX11_bargain.2.1 80 = .ok (.putfield 112, 3) := by decide +kernel
theorem dX11_bargain_83 : decode mX11_bargain.2.1 83 = .ok (.aload_n 0, 1) := by decide +kernel
theorem dX11_bargain_84 : decode mX11_bargain.2.1 84 = .ok (.invokevirtual 301, 3) := by decide +kernel
theorem dX11_bargain_87 : decode mX11_bargain.2.1 87 = .ok (.ifCond .ne 11, 3) := by decide +kernel
theorem dX11_bargain_90 : decode mX11_bargain.2.1 90 = .ok (.bipush (-2), 2) := by decide +kernel
theorem dX11_bargain_92 : decode mX11_bargain.2.1 92 = .ok (.aload_n 0, 1) := by decide +kernel
theorem dX11_bargain_93 : decode mX11_bargain.2.1 93 = .ok (.getfield 264, 3) := by decide +kernel
theorem dX11_bargain_96 : decode mX11_bargain.2.1 96 = .ok (.isub, 1) := by decide +kernel
theorem dX11_bargain_97 : decode mX11_bargain.2.1 97 = .ok (.ireturn, 1) := by decide +kernel
theorem dX11_bargain_98 : decode mX11_bargain.2.1 98 = .ok (.aload_n 0, 1) := by decide +kernel
theorem dX11_bargain_99 : decode mX11_bargain.2.1 99 = .ok (.getfield 313, 3) := by decide +kernel
theorem dX11_bargain_102 : decode mX11_bargain.2.1 102 = .ok (.istore_n 1, 1) := by decide +kernel
theorem dX11_bargain_103 : decode mX11_bargain.2.1 103 = .ok (.aload_n 0, 1) := by decide +kernel
theorem dX11_bargain_104 : decode mX11_bargain.2.1 104 = .ok (.dup, 1) := by decide +kernel
theorem dX11_bargain_105 : decode mX11_bargain.2.1 105 = .ok (.getfield 313, 3) := by decide +kernel
theorem dX11_bargain_108 : decode mX11_bargain.2.1 108 = .ok (.iconst 1, 1) := by decide +kernel
theorem dX11_bargain_109 : decode mX11_bargain.2.1 109 = .ok (.iadd, 1) := by decide +kernel
theorem dX11_bargain_110 : decode mX11_bargain.2.1 110 = .ok (.putfield 313, 3) := by decide +kernel
theorem dX11_bargain_113 : decode mX11_bargain.2.1 113 = .ok (.aload_n 0, 1) := by decide +kernel
theorem dX11_bargain_114 : decode mX11_bargain.2.1 114 = .ok (.getfield 115, 3) := by decide +kernel
theorem dX11_bargain_117 : decode mX11_bargain.2.1 117 = .ok (.iload_n 1, 1) := by decide +kernel
theorem dX11_bargain_118 : decode mX11_bargain.2.1 118 = .ok (.aload_n 0, 1) := by decide +kernel
theorem dX11_bargain_119 : decode mX11_bargain.2.1 119 = .ok (.getfield 150, 3) := by decide +kernel
theorem dX11_bargain_122 : decode mX11_bargain.2.1 122 = .ok (.iastore, 1) := by decide +kernel
theorem dX11_bargain_123 : decode mX11_bargain.2.1 123 = .ok (.aload_n 0, 1) := by decide +kernel
theorem dX11_bargain_124 : decode mX11_bargain.2.1 124 = .ok (.getfield 118, 3) := by decide +kernel
theorem dX11_bargain_127 : decode mX11_bargain.2.1 127 = .ok (.iload_n 1, 1) := by decide +kernel
theorem dX11_bargain_128 : decode mX11_bargain.2.1 128 = .ok (.aload_n 0, 1) := by decide +kernel
theorem dX11_bargain_129 : decode mX11_bargain.2.1 129 = .ok (.getfield 118, 3) := by decide +kernel
theorem dX11_bargain_132 : decode mX11_bargain.2.1 132 = .ok (.bipush 10, 2) := by decide +kernel
theorem dX11_bargain_134 : decode mX11_bargain.2.1 134 = .ok (.iaload, 1) := by decide +kernel
theorem dX11_bargain_135 : decode mX11_bargain.2.1 135 = .ok (.iastore, 1) := by decide +kernel
theorem dX11_bargain_136 : decode mX11_bargain.2.1 136 = .ok (.iconst 0, 1) := by decide +kernel
theorem dX11_bargain_137 : decode mX11_bargain.2.1 137 = .ok (.istore_n 2, 1) := by decide +kernel
theorem dX11_bargain_138 : decode mX11_bargain.2.1 138 = .ok (.iload_n 2, 1) := by decide +kernel
theorem dX11_bargain_139 : decode mX11_bargain.2.1 139 = .ok (.aload_n 0, 1) := by decide +kernel
theorem dX11_bargain_140 : decode mX11_bargain.2.1 140 = .ok (.getfield 118, 3) := by decide +kernel
theorem dX11_bargain_143 : decode mX11_bargain.2.1 143 = .ok (.iload_n 1, 1) := by decide +kernel
theorem dX11_bargain_144 : decode mX11_bargain.2.1 144 = .ok (.iaload, 1) := by decide +kernel
theorem dX11_bargain_145 : decode mX11_bargain.2.1 145 = .ok (.if_icmp .ge 51, 3) := by decide +kernel
theorem dX11_bargain_148 : decode mX11_bargain.2.1 148 = .ok (.aload_n 0, 1) := by decide +kernel
theorem dX11_bargain_149 : decode mX11_bargain.2.1 149 = .ok (.getfield 121, 3) := by decide +kernel
theorem dX11_bargain_152 : decode mX11_bargain.2.1 152 = .ok (.bipush 20, 2) := by decide +kernel
theorem dX11_bargain_154 : decode mX11_bargain.2.1 154 = .ok (.iload_n 1, 1) := by decide +kernel
theorem dX11_bargain_155 : decode mX11_bargain.2.1 155 = .ok (.imul, 1) := by decide +kernel
theorem dX11_bargain_156 : decode mX11_bargain.2.1 156 = .ok (.iload_n 2, 1) := by decide +kernel
theorem dX11_bargain_157 : decode mX11_bargain.2.1 157 = .ok (.iadd, 1) := by decide +kernel
theorem dX11_bargain_158 : decode mX11_bargain.2.1 158 = .ok (.aload_n 0, 1) := by decide +kernel
theorem dX11_bargain_159 : decode mX11_bargain.2.1 159 = .ok (.getfield 121, 3) := by decide +kernel
theorem dX11_bargain_162 : decode mX11_bargain.2.1 162 = .ok (.sipush 200, 3) := by decide +kernel
theorem dX11_bargain_165 : decode mX11_bargain.2.1 165 = .ok (.iload_n 2, 1) := by decide +kernel
theorem dX11_bargain_166 : decode mX11_bargain.2.1 166 = .ok (.iadd, 1) := by decide +kernel
theorem dX11_bargain_167 : decode mX11_bargain.2.1 167 = .ok (.iaload, 1) := by decide +kernel
theorem dX11_bargain_168 : decode mX11_bargain.2.1 168 = .ok (.iastore, 1) := by decide +kernel
theorem dX11_bargain_169 : decode mX11_bargain.2.1 169 = .ok (.aload_n 0, 1) := by decide +kernel
theorem dX11_bargain_170 : decode mX11_bargain.2.1 170 = .ok (.getfield 124, 3) := by decide +kernel
theorem dX11_bargain_173 : decode mX11_bargain.2.1 173 = .ok (.bipush 20, 2) := by decide +kernel
theorem dX11_bargain_175 : decode mX11_bargain.2.1 175 = .ok (.iload_n 1, 1) := by decide +kernel
theorem dX11_bargain_176 : decode mX11_bargain.2.1 176 = .ok (.imul, 1) := by decide +kernel
theorem dX11_bargain_177 : decode mX11_bargain.2.1 177 = .ok (.iload_n 2, 1) := by decide +kernel
theorem dX11_bargain_178 : decode mX11_bargain.2.1 178 = .ok (.iadd, 1) := by decide +kernel
theorem dX11_bargain_179 : decode mX11_bargain.2.1 179 = .ok (.aload_n 0, 1) := by decide +kernel
theorem dX11_bargain_180 : decode mX11_bargain.2.1 180 = .ok (.getfield 124, 3) := by decide +kernel
theorem dX11_bargain_183 : decode mX11_bargain.2.1 183 = .ok (.sipush 200, 3) := by decide +kernel
theorem dX11_bargain_186 : decode mX11_bargain.2.1 186 = .ok (.iload_n 2, 1) := by decide +kernel
theorem dX11_bargain_187 : decode mX11_bargain.2.1 187 = .ok (.iadd, 1) := by decide +kernel
theorem dX11_bargain_188 : decode mX11_bargain.2.1 188 = .ok (.iaload, 1) := by decide +kernel
theorem dX11_bargain_189 : decode mX11_bargain.2.1 189 = .ok (.iastore, 1) := by decide +kernel
theorem dX11_bargain_190 : decode mX11_bargain.2.1 190 = .ok (.iinc 2 1, 3) := by decide +kernel
theorem dX11_bargain_193 : decode mX11_bargain.2.1 193 = .ok (.goto (-55), 3) := by decide +kernel
theorem dX11_bargain_196 : decode mX11_bargain.2.1 196 = .ok (.iconst 0, 1) := by decide +kernel
theorem dX11_bargain_197 : decode mX11_bargain.2.1 197 = .ok (.istore_n 2, 1) := by decide +kernel
theorem dX11_bargain_198 : decode mX11_bargain.2.1 198 = .ok (.iload_n 2, 1) := by decide +kernel
theorem dX11_bargain_199 : decode mX11_bargain.2.1 199 = .ok (.bipush 80, 2) := by decide +kernel
theorem dX11_bargain_201 : decode mX11_bargain.2.1 201 = .ok (.if_icmp .ge 72, 3) := by decide +kernel
theorem dX11_bargain_204 : decode mX11_bargain.2.1 204 = .ok (.aload_n 0, 1) := by decide +kernel
theorem dX11_bargain_205 : decode mX11_bargain.2.1 205 = .ok (.getfield 127, 3) := by decide +kernel
theorem dX11_bargain_208 : decode mX11_bargain.2.1 208 = .ok (.bipush 80, 2) := by decide +kernel
theorem dX11_bargain_210 : decode mX11_bargain.2.1 210 = .ok (.iload_n 1, 1) := by decide +kernel
theorem dX11_bargain_211 : decode mX11_bargain.2.1 211 = .ok (.imul, 1) := by decide +kernel
theorem dX11_bargain_212 : decode mX11_bargain.2.1 212 = .ok (.iload_n 2, 1) := by decide +kernel
theorem dX11_bargain_213 : decode mX11_bargain.2.1 213 = .ok (.iadd, 1) := by decide +kernel
theorem dX11_bargain_214 : decode mX11_bargain.2.1 214 = .ok (.aload_n 0, 1) := by decide +kernel
theorem dX11_bargain_215 : decode mX11_bargain.2.1 215 = .ok (.getfield 127, 3) := by decide +kernel
theorem dX11_bargain_218 : decode mX11_bargain.2.1 218 = .ok (.sipush 800, 3) := by decide +kernel
theorem dX11_bargain_221 : decode mX11_bargain.2.1 221 = .ok (.iload_n 2, 1) := by decide +kernel
theorem dX11_bargain_222 : decode mX11_bargain.2.1 222 = .ok (.iadd, 1) := by decide +kernel
theorem dX11_bargain_223 : decode mX11_bargain.2.1 223 = .ok (.iaload, 1) := by decide +kernel
theorem dX11_bargain_224 : decode mX11_bargain.2.1 224 = .ok (.iastore, 1) := by decide +kernel
theorem dX11_bargain_225 : decode mX11_bargain.2.1 225 = .ok (.aload_n 0, 1) := by decide +kernel
theorem dX11_bargain_226 : decode mX11_bargain.2.1 226 = .ok (.getfield 130, 3) := by decide +kernel
theorem dX11_bargain_229 : decode mX11_bargain.2.1 229 = .ok (.bipush 80, 2) := by decide +kernel
theorem dX11_bargain_231 : decode mX11_bargain.2.1 231 = .ok (.iload_n 1, 1) := by decide +kernel
theorem dX11_bargain_232 : decode mX11_bargain.2.1 232 = .ok (.imul, 1) := by decide +kernel
theorem dX11_bargain_233 : decode mX11_bargain.2.1 233 = .ok (.iload_n 2, 1) := by decide +kernel
theorem dX11_bargain_234 : decode mX11_bargain.2.1 234 = .ok (.iadd, 1) := by decide +kernel
theorem dX11_bargain_235 : decode mX11_bargain.2.1 235 = .ok (.aload_n 0, 1) := by decide +kernel
theorem dX11_bargain_236 : decode mX11_bargain.2.1 236 = .ok (.getfield 130, 3) := by decide +kernel
theorem dX11_bargain_239 : decode mX11_bargain.2.1 239 = .ok (.sipush 800, 3) := by decide +kernel
theorem dX11_bargain_242 : decode mX11_bargain.2.1 242 = .ok (.iload_n 2, 1) := by decide +kernel
theorem dX11_bargain_243 : decode mX11_bargain.2.1 243 = .ok (.iadd, 1) := by decide +kernel
theorem dX11_bargain_244 : decode mX11_bargain.2.1 244 = .ok (.iaload, 1) := by decide +kernel
theorem dX11_bargain_245 : decode mX11_bargain.2.1 245 = .ok (.iastore, 1) := by decide +kernel
theorem dX11_bargain_246 : decode mX11_bargain.2.1 246 = .ok (.aload_n 0, 1) := by decide +kernel
theorem dX11_bargain_247 : decode mX11_bargain.2.1 247 = .ok (.getfield 133, 3) := by decide +kernel
theorem dX11_bargain_250 : decode mX11_bargain.2.1 250 = .ok (.bipush 80, 2) := by decide +kernel
theorem dX11_bargain_252 : decode mX11_bargain.2.1 252 = .ok (.iload_n 1, 1) := by decide +kernel
theorem dX11_bargain_253 : decode mX11_bargain.2.1 253 = .ok (.imul, 1) := by decide +kernel
theorem dX11_bargain_254 : decode mX11_bargain.2.1 254 = .ok (.iload_n 2, 1) := by decide +kernel
theorem dX11_bargain_255 : decode mX11_bargain.2.1 255 = .ok (.iadd, 1) := by decide +kernel
theorem dX11_bargain_256 : decode mX11_bargain.2.1 256 = .ok (.aload_n 0, 1) := by decide +kernel
theorem dX11_bargain_257 : decode mX11_bargain.2.1 257 = .ok (.getfield 133, 3) := by decide +kernel
theorem dX11_bargain_260 : decode mX11_bargain.2.1 260 = .ok (.sipush 800, 3) := by decide +kernel
theorem dX11_bargain_263 : decode mX11_bargain.2.1 263 = .ok (.iload_n 2, 1) := by decide +kernel
theorem dX11_bargain_264 : decode mX11_bargain.2.1 264 = .ok (.iadd, 1) := by decide +kernel
theorem dX11_bargain_265 : decode mX11_bargain.2.1 265 = .ok (.iaload, 1) := by decide +kernel
theorem dX11_bargain_266 : decode mX11_bargain.2.1 266 = .ok (.iastore, 1) := by decide +kernel
theorem dX11_bargain_267 : decode mX11_bargain.2.1 267 = .ok (.iinc 2 1, 3) := by decide +kernel
theorem dX11_bargain_270 : decode mX11_bargain.2.1 270 = .ok (.goto (-72), 3) := by decide +kernel
theorem dX11_bargain_273 : decode mX11_bargain.2.1 273 = .ok (.iload_n 1, 1) := by decide +kernel
theorem dX11_bargain_274 : decode mX11_bargain.2.1 274 = .ok (.ireturn, 1) := by decide +kernel
theorem dX11_bargainOf_0 : decode mX11_bargainOf.2.1 0 = .ok (.iconst (-1), 1) := by decide +kernel
theorem dX11_bargainOf_1 : decode mX11_bargainOf.2.1 1 = .ok (.istore_n 2, 1) := by decide +kernel
theorem dX11_bargainOf_2 : decode mX11_bargainOf.2.1 2 = .ok (.iconst 0, 1) := by decide +kernel
theorem dX11_bargainOf_3 : decode mX11_bargainOf.2.1 3 = .ok (.istore_n 3, 1) := by decide +kernel
theorem dX11_bargainOf_4 : decode mX11_bargainOf.2.1 4 = .ok (.iload_n 3, 1) := by decide +kernel
theorem dX11_bargainOf_5 : decode mX11_bargainOf.2.1 5 = .ok (.aload_n 0, 1) := by decide +kernel
theorem dX11_bargainOf_6 : decode mX11_bargainOf.2.1 6 = .ok (.getfield 313, 3) := by decide +kernel
theorem dX11_bargainOf_9 : decode mX11_bargainOf.2.1 9 = .ok (.if_icmp .ge 26, 3) := by decide +kernel
theorem dX11_bargainOf_12 : decode mX11_bargainOf.2.1 12 = .ok (.aload_n 0, 1) := by decide +kernel
theorem dX11_bargainOf_13 : decode mX11_bargainOf.2.1 13 = .ok (.getfield 115, 3) := by decide +kernel
theorem dX11_bargainOf_16 : decode mX11_bargainOf.2.1 16 = .ok (.iload_n 3, 1) := by decide +kernel
theorem dX11_bargainOf_17 : decode mX11_bargainOf.2.1 17 = .ok (.iaload, 1) := by decide +kernel
theorem dX11_bargainOf_18 : decode mX11_bargainOf.2.1 18 = .ok (.aload_n 0, 1) := by decide +kernel
theorem dX11_bargainOf_19 : decode mX11_bargainOf.2.1 19 = .ok (.getfield 81, 3) := by decide +kernel
theorem dX11_bargainOf_22 : decode mX11_bargainOf.2.1 22 = .ok (.iload_n 1, 1) := by decide +kernel
theorem dX11_bargainOf_23 : decode mX11_bargainOf.2.1 23 = .ok (.iaload, 1) := by decide +kernel
theorem dX11_bargainOf_24 : decode mX11_bargainOf.2.1 24 = .ok (.if_icmp .gt 5, 3) := by decide +kernel
theorem dX11_bargainOf_27 : decode mX11_bargainOf.2.1 27 = .ok (.iload_n 3, 1) := by decide +kernel
theorem dX11_bargainOf_28 : decode mX11_bargainOf.2.1 28 = .ok (.istore_n 2, 1) := by decide +kernel
theorem dX11_bargainOf_29 : decode mX11_bargainOf.2.1 29 = .ok (.iinc 3 1, 3) := by decide +kernel
theorem dX11_bargainOf_32 : decode mX11_bargainOf.2.1 32 = .ok (.goto (-28), 3) := by decide +kernel
theorem dX11_bargainOf_35 : decode mX11_bargainOf.2.1 35 = .ok (.iload_n 2, 1) := by decide +kernel
theorem dX11_bargainOf_36 : decode mX11_bargainOf.2.1 36 = .ok (.ireturn, 1) := by decide +kernel
theorem dX11_best_0 : decode mX11_best.2.1 0 = .ok (.aload_n 0, 1) := by decide +kernel
