theorem dX6_addInn_40 : decode mX6_addInn.2.1 40 = .ok (.if_icmp .gt 13, 3) := by decide +kernel
theorem dX6_addInn_43 : decode mX6_addInn.2.1 43 = .ok (.iload_n 2, 1) := by decide +kernel
theorem dX6_addInn_44 : decode mX6_addInn.2.1 44 = .ok (.ifCond .lt 9, 3) := by decide +kernel
theorem dX6_addInn_47 : decode mX6_addInn.2.1 47 = .ok (.iload_n 2, 1) := by decide +kernel
theorem dX6_addInn_48 : decode mX6_addInn.2.1 48 = .ok (.bipush 9, 2) := by decide +kernel
theorem dX6_addInn_50 : decode mX6_addInn.2.1 50 = .ok (.if_icmp .le 5, 3) := by decide +kernel
theorem dX6_addInn_53 : decode mX6_addInn.2.1 53 = .ok (.iconst (-1), 1) := by decide +kernel
theorem dX6_addInn_54 : decode mX6_addInn.2.1 54 = .ok (.ireturn, 1) := by decide +kernel
theorem dX6_addInn_55 : decode mX6_addInn.2.1 55 = .ok (.aload_n 0, 1) := by decide +kernel
theorem dX6_addInn_56 : decode mX6_addInn.2.1 56 = .ok (.getfield 9, 3) := by decide +kernel
theorem dX6_addInn_59 : decode mX6_addInn.2.1 59 = .ok (.aload_n 0, 1) := by decide +kernel
theorem dX6_addInn_60 : decode mX6_addInn.2.1 60 = .ok (.getfield 34, 3) := by decide +kernel
theorem dX6_addInn_63 : decode mX6_addInn.2.1 63 = .ok (.iconst 1, 1) := by decide +kernel
theorem dX6_addInn_64 : decode mX6_addInn.2.1 64 = .ok (.isub, 1) := by decide +kernel
theorem dX6_addInn_65 : decode mX6_addInn.2.1 65 = .ok (.iload_n 1, 1) := by decide +kernel
theorem dX6_addInn_66 : decode mX6_addInn.2.1 66 = .ok (.iastore, 1) := by decide +kernel
theorem dX6_addInn_67 : decode mX6_addInn.2.1 67 = .ok (.aload_n 0, 1) := by decide +kernel
theorem dX6_addInn_68 : decode mX6_addInn.2.1 68 = .ok (.getfield 15, 3) := by decide +kernel
theorem dX6_addInn_71 : decode mX6_addInn.2.1 71 = .ok (.aload_n 0, 1) := by decide +kernel
theorem dX6_addInn_72 : decode mX6_addInn.2.1 72 = .ok (.getfield 34, 3) := by decide +kernel
theorem dX6_addInn_75 : decode mX6_addInn.2.1 75 = .ok (.iconst 1, 1) := by decide +kernel
theorem dX6_addInn_76 : decode mX6_addInn.2.1 76 = .ok (.isub, 1) := by decide +kernel
theorem dX6_addInn_77 : decode mX6_addInn.2.1 77 = .ok (.iload_n 2, 1) := by decide +kernel
theorem dX6_addInn_78 : decode mX6_addInn.2.1 78 = .ok (.iastore, 1) := by decide +kernel
theorem dX6_addInn_79 : decode mX6_addInn.2.1 79 = .ok (.aload_n 0, 1) := by decide +kernel
theorem dX6_addInn_80 : decode mX6_addInn.2.1 80 = .ok (.getfield 18, 3) := by decide +kernel
theorem dX6_addInn_83 : decode mX6_addInn.2.1 83 = .ok (.aload_n 0, 1) := by decide +kernel
theorem dX6_addInn_84 : decode mX6_addInn.2.1 84 = .ok (.getfield 34, 3) := by decide +kernel
theorem dX6_addInn_87 : decode mX6_addInn.2.1 87 = .ok (.iconst 1, 1) := by decide +kernel
theorem dX6_addInn_88 : decode mX6_addInn.2.1 88 = .ok (.isub, 1) := by decide +kernel
theorem dX6_addInn_89 : decode mX6_addInn.2.1 89 = .ok (.iload_n 3, 1) := by decide +kernel
theorem dX6_addInn_90 : decode mX6_addInn.2.1 90 = .ok (.bastore, 1) := by decide +kernel
theorem dX6_addInn_91 : decode mX6_addInn.2.1 91 = .ok (.aload_n 0, 1) := by decide +kernel
theorem dX6_addInn_92 : decode mX6_addInn.2.1 92 = .ok (.dup, 1) := by decide +kernel
theorem dX6_addInn_93 : decode mX6_addInn.2.1 93 = .ok (.getfield 34, 3) := by decide +kernel
theorem dX6_addInn_96 : decode mX6_addInn.2.1 96 = .ok (.iconst 1, 1) := by decide +kernel
theorem dX6_addInn_97 : decode mX6_addInn.2.1 97 = .ok (.iadd, 1) := by decide +kernel
theorem dX6_addInn_98 : decode mX6_addInn.2.1 98 = .ok (.putfield 34, 3) := by decide +kernel
theorem dX6_addInn_101 : decode mX6_addInn.2.1 101 = .ok (.aload_n 0, 1) := by decide +kernel
theorem dX6_addInn_102 : decode mX6_addInn.2.1 102 = .ok (.getfield 34, 3) := by decide +kernel
theorem dX6_addInn_105 : decode mX6_addInn.2.1 105 = .ok (.iconst 1, 1) := by decide +kernel
theorem dX6_addInn_106 : decode mX6_addInn.2.1 106 = .ok (.isub, 1) := by decide +kernel
theorem dX6_addInn_107 : decode mX6_addInn.2.1 107 = .ok (.ireturn, 1) := by decide +kernel
theorem dX6_addTelling_0 : decode mX6_addTelling.2.1 0 = .ok (.aload_n 0, 1) := by decide +kernel
theorem dX6_addTelling_1 : decode mX6_addTelling.2.1 1 = .ok (.iload_n 1, 1) := by decide +kernel
theorem dX6_addTelling_2 : decode mX6_addTelling.2.1 2 = .ok (.invokevirtual 41, 3) := by decide +kernel
theorem dX6_addTelling_5 : decode mX6_addTelling.2.1 5 = .ok (.ifCond .eq 31, 3) := by decide +kernel
theorem dX6_addTelling_8 : decode mX6_addTelling.2.1 8 = .ok (.iload_n 2, 1) := by decide +kernel
theorem dX6_addTelling_9 : decode mX6_addTelling.2.1 9 = .ok (.invokestatic 45, 3) := by decide +kernel
theorem dX6_addTelling_12 : decode mX6_addTelling.2.1 12 = .ok (.ifCond .eq 24, 3) := by decide +kernel
theorem dX6_addTelling_15 : decode mX6_addTelling.2.1 15 = .ok (.iload_n 3, 1) := by decide +kernel
theorem dX6_addTelling_16 : decode mX6_addTelling.2.1 16 = .ok (.invokestatic 45, 3) := by decide +kernel
theorem dX6_addTelling_19 : decode mX6_addTelling.2.1 19 = .ok (.ifCond .eq 17, 3) := by decide +kernel
theorem dX6_addTelling_22 : decode mX6_addTelling.2.1 22 = .ok (.iload_n 2, 1) := by decide +kernel
theorem dX6_addTelling_23 : decode mX6_addTelling.2.1 23 = .ok (.iload_n 3, 1) := by decide +kernel
theorem dX6_addTelling_24 : decode mX6_addTelling.2.1 24 = .ok (.if_icmp .gt 12, 3) := by decide +kernel
theorem dX6_addTelling_27 : decode mX6_addTelling.2.1 27 = .ok (.aload_n 0, 1) := by decide +kernel
theorem dX6_addTelling_28 : decode mX6_addTelling.2.1 28 = .ok (.getfield 38, 3) := by decide +kernel
theorem dX6_addTelling_31 : decode mX6_addTelling.2.1 31 = .ok (.bipush 60, 2) := by decide +kernel
theorem dX6_addTelling_33 : decode mX6_addTelling.2.1 33 = .ok (.if_icmp .lt 5, 3) := by decide +kernel
theorem dX6_addTelling_36 : decode mX6_addTelling.2.1 36 = .ok (.iconst (-1), 1) := by decide +kernel
theorem dX6_addTelling_37 : decode mX6_addTelling.2.1 37 = .ok (.ireturn, 1) := by decide +kernel
theorem dX6_addTelling_38 : decode mX6_addTelling.2.1 38 = .ok (.aload_n 0, 1) := by decide +kernel
theorem dX6_addTelling_39 : decode mX6_addTelling.2.1 39 = .ok (.getfield 22, 3) := by decide +kernel
theorem dX6_addTelling_42 : decode mX6_addTelling.2.1 42 = .ok (.aload_n 0, 1) := by decide +kernel
theorem dX6_addTelling_43 : decode mX6_addTelling.2.1 43 = .ok (.getfield 38, 3) := by decide +kernel
theorem dX6_addTelling_46 : decode mX6_addTelling.2.1 46 = .ok (.iload_n 1, 1) := by decide +kernel
theorem dX6_addTelling_47 : decode mX6_addTelling.2.1 47 = .ok (.iastore, 1) := by decide +kernel
theorem dX6_addTelling_48 : decode mX6_addTelling.2.1 48 = .ok (.aload_n 0, 1) := by decide +kernel
theorem dX6_addTelling_49 : decode mX6_addTelling.2.1 49 = .ok (.getfield 25, 3) := by decide +kernel
theorem dX6_addTelling_52 : decode mX6_addTelling.2.1 52 = .ok (.aload_n 0, 1) := by decide +kernel
theorem dX6_addTelling_53 : decode mX6_addTelling.2.1 53 = .ok (.getfield 38, 3) := by decide +kernel
theorem dX6_addTelling_56 : decode mX6_addTelling.2.1 56 = .ok (.iload_n 2, 1) := by decide +kernel
theorem dX6_addTelling_57 : decode mX6_addTelling.2.1 57 = .ok (.iastore, 1) := by decide +kernel
theorem dX6_addTelling_58 : decode mX6_addTelling.2.1 58 = .ok (.aload_n 0, 1) := by decide +kernel
theorem dX6_addTelling_59 : decode mX6_addTelling.2.1 59 = .ok (.getfield 28, 3) := by decide +kernel
theorem dX6_addTelling_62 : decode mX6_addTelling.2.1 62 = .ok (.aload_n 0, 1) := by decide +kernel
theorem dX6_addTelling_63 : decode mX6_addTelling.2.1 63 = .ok (.getfield 38, 3) := by decide +kernel
theorem dX6_addTelling_66 : decode mX6_addTelling.2.1 66 = .ok (.iload_n 3, 1) := by decide +kernel
theorem dX6_addTelling_67 : decode mX6_addTelling.2.1 67 = .ok (.iastore, 1) := by decide +kernel
theorem dX6_addTelling_68 : decode mX6_addTelling.2.1 68 = .ok (.aload_n 0, 1) := by decide +kernel
theorem dX6_addTelling_69 : decode mX6_addTelling.2.1 69 = .ok (.getfield 31, 3) := by decide +kernel
theorem dX6_addTelling_72 : decode mX6_addTelling.2.1 72 = .ok (.aload_n 0, 1) := by decide +kernel
theorem dX6_addTelling_73 : decode mX6_addTelling.2.1 73 = .ok (.getfield 38, 3) := by decide +kernel
theorem dX6_addTelling_76 : decode mX6_addTelling.2.1 76 = .ok (.iload 4, 2) := by decide +kernel
theorem dX6_addTelling_78 : decode mX6_addTelling.2.1 78 = .ok (.iastore, 1) := by decide +kernel
theorem dX6_addTelling_79 : decode mX6_addTelling.2.1 79 = .ok (.aload_n 0, 1) := by decide +kernel
theorem dX6_addTelling_80 : decode mX6_addTelling.2.1 80 = .ok (.dup, 1) := by decide +kernel
theorem dX6_addTelling_81 : decode mX6_addTelling.2.1 81 = .ok (.getfield 38, 3) := by decide +kernel
theorem dX6_addTelling_84 : decode mX6_addTelling.2.1 84 = .ok (.iconst 1, 1) := by decide +kernel
theorem dX6_addTelling_85 : decode mX6_addTelling.2.1 85 = .ok (.iadd, 1) := by decide +kernel
theorem dX6_addTelling_86 : decode mX6_addTelling.2.1 86 = .ok (.putfield 38, 3) := by decide +kernel
theorem dX6_addTelling_89 : decode mX6_addTelling.2.1 89 = .ok (.aload_n 0, 1) := by decide +kernel
theorem dX6_addTelling_90 : decode mX6_addTelling.2.1 90 = .ok (.getfield 38, 3) := by decide +kernel
theorem dX6_addTelling_93 : decode mX6_addTelling.2.1 93 = .ok (.iconst 1, 1) := by decide +kernel
theorem dX6_addTelling_94 : decode mX6_addTelling.2.1 94 = .ok (.isub, 1) := by decide +kernel
theorem dX6_addTelling_95 : decode mX6_addTelling.2.1 95 = .ok (.ireturn, 1) := by decide +kernel
theorem dX6_climbsOf_0 : decode mX6_climbsOf.2.1 0 = .ok (.aload_n 0, 1) := by decide +kernel
theorem dX6_climbsOf_1 : decode mX6_climbsOf.2.1 1 = .ok (.iload_n 1, 1) := by decide +kernel
theorem dX6_climbsOf_2 : decode mX6_climbsOf.2.1 2 = .ok (.invokevirtual 41, 3) := by decide +kernel
theorem dX6_climbsOf_5 : decode mX6_climbsOf.2.1 5 = .ok (.ifCond .eq 12, 3) := by decide +kernel
theorem dX6_climbsOf_8 : decode mX6_climbsOf.2.1 8 = .ok (.aload_n 0, 1) := by decide +kernel
theorem dX6_climbsOf_9 : decode mX6_climbsOf.2.1 9 = .ok (.getfield 15, 3) := by decide +kernel
theorem dX6_climbsOf_12 : decode mX6_climbsOf.2.1 12 = .ok (.iload_n 1, 1) := by decide +kernel
theorem dX6_climbsOf_13 : decode mX6_climbsOf.2.1 13 = .ok (.iaload, 1) := by decide +kernel
theorem dX6_climbsOf_14 : decode mX6_climbsOf.2.1 14 = .ok (.goto 4, 3) := by decide +kernel
theorem dX6_climbsOf_17 : decode mX6_climbsOf.2.1 17 = .ok (.iconst 0, 1) := by decide +kernel
theorem dX6_climbsOf_18 : decode mX6_climbsOf.2.1 18 = .ok (.ireturn, 1) := by decide +kernel
theorem dX6_hasInn_0 : decode mX6_hasInn.2.1 0 = .ok (.iload_n 1, 1) := by decide +kernel
theorem dX6_hasInn_1 : decode mX6_hasInn.2.1 1 = .ok (.ifCond .lt 15, 3) := by decide +kernel
theorem dX6_hasInn_4 : decode mX6_hasInn.2.1 4 = .ok (.iload_n 1, 1) := by decide +kernel
theorem dX6_hasInn_5 : decode mX6_hasInn.2.1 5 = .ok (.aload_n 0, 1) := by decide +kernel
theorem dX6_hasInn_6 : decode mX6_hasInn.2.1 6 = .ok (.getfield 34, 3) := by decide +kernel
theorem dX6_hasInn_9 : decode mX6_hasInn.2.1 9 = .ok (.if_icmp .ge 7, 3) := by decide +kernel
theorem dX6_hasInn_12 : decode mX6_hasInn.2.1 12 = .ok (.iconst 1, 1) := by decide +kernel
theorem dX6_hasInn_13 : decode mX6_hasInn.2.1 13 = .ok (.goto 4, 3) := by decide +kernel
theorem dX6_hasInn_16 : decode mX6_hasInn.2.1 16 = .ok (.iconst 0, 1) := by decide +kernel
theorem dX6_hasInn_17 : decode mX6_hasInn.2.1 17 = .ok (.ireturn, 1) := by decide +kernel
theorem dX6_hasLeg_0 : decode mX6_hasLeg.2.1 0 = .ok (.iload_n 1, 1) := by decide +kernel
theorem dX6_hasLeg_1 : decode mX6_hasLeg.2.1 1 = .ok (.ifCond .lt 17, 3) := by decide +kernel
theorem dX6_hasLeg_4 : decode mX6_hasLeg.2.1 4 = .ok (.iload_n 1, 1) := by decide +kernel
theorem dX6_hasLeg_5 : decode mX6_hasLeg.2.1 5 = .ok (.aload_n 0, 1) := by decide +kernel
theorem dX6_hasLeg_6 : decode mX6_hasLeg.2.1 6 = .ok (.getfield 34, 3) := by decide +kernel
theorem dX6_hasLeg_9 : decode mX6_hasLeg.2.1 9 = .ok (.iconst 1, 1) := by decide +kernel
theorem dX6_hasLeg_10 : decode mX6_hasLeg.2.1 10 = .ok (.isub, 1) := by decide +kernel
theorem dX6_hasLeg_11 : decode mX6_hasLeg.2.1 11 = .ok (.if_icmp .ge 7, 3) := by decide +kernel
theorem dX6_hasLeg_14 : decode mX6_hasLeg.2.1 14 = .ok (.iconst 1, 1) := by decide +kernel
theorem dX6_hasLeg_15 : decode mX6_hasLeg.2.1 15 = .ok (.goto 4, 3) := by decide +kernel
theorem dX6_hasLeg_18 : decode mX6_hasLeg.2.1 18 = .ok (.iconst 0, 1) := by decide +kernel
theorem dX6_hasLeg_19 : decode mX6_hasLeg.2.1 19 = .ok (.ireturn, 1) := by decide +kernel
theorem dX6_hoursOf_0 : decode mX6_hoursOf.2.1 0 = .ok (.aload_n 0, 1) := by decide +kernel
theorem dX6_hoursOf_1 : decode mX6_hoursOf.2.1 1 = .ok (.iload_n 1, 1) := by decide +kernel
theorem dX6_hoursOf_2 : decode mX6_hoursOf.2.1 2 = .ok (.invokevirtual 41, 3) := by decide +kernel
theorem dX6_hoursOf_5 : decode mX6_hoursOf.2.1 5 = .ok (.ifCond .eq 12, 3) := by decide +kernel
theorem dX6_hoursOf_8 : decode mX6_hoursOf.2.1 8 = .ok (.aload_n 0, 1) := by decide +kernel
theorem dX6_hoursOf_9 : decode mX6_hoursOf.2.1 9 = .ok (.getfield 9, 3) := by decide +kernel
theorem dX6_hoursOf_12 : decode mX6_hoursOf.2.1 12 = .ok (.iload_n 1, 1) := by decide +kernel
theorem dX6_hoursOf_13 : decode mX6_hoursOf.2.1 13 = .ok (.iaload, 1) := by decide +kernel
theorem dX6_hoursOf_14 : decode mX6_hoursOf.2.1 14 = .ok (.goto 4, 3) := by decide +kernel
theorem dX6_hoursOf_17 : decode mX6_hoursOf.2.1 17 = .ok (.iconst 0, 1) := by decide +kernel
theorem dX6_hoursOf_18 : decode mX6_hoursOf.2.1 18 = .ok (.ireturn, 1) := by decide +kernel
theorem dX6_init_0 : decode mX6_init.2.1 0 = .ok (.aload_n 0, 1) := by decide +kernel
theorem dX6_init_1 : decode mX6_init.2.1 1 = .ok (.invokespecial 3, 3) := by decide +kernel
theorem dX6_init_4 : decode mX6_init.2.1 4 = .ok (.aload_n 0, 1) := by decide +kernel
theorem dX6_init_5 : decode mX6_init.2.1 5 = .ok (.bipush 6, 2) := by decide +kernel
theorem dX6_init_7 : decode mX6_init.2.1 7 = .ok (.newarray .int, 2) := by decide +kernel
theorem dX6_init_9 : decode mX6_init.2.1 9 = .ok (.putfield 9, 3) := by decide +kernel
theorem dX6_init_12 : decode mX6_init.2.1 12 = .ok (.aload_n 0, 1) := by decide +kernel
theorem dX6_init_13 : decode mX6_init.2.1 13 = .ok (.bipush 6, 2) := by decide +kernel
theorem dX6_init_15 : decode mX6_init.2.1 15 = .ok (.newarray .int, 2) := by decide +kernel
theorem dX6_init_17 : decode mX6_init.2.1 17 = .ok (.putfield 15, 3) := by decide +kernel
theorem dX6_init_20 : decode mX6_init.2.1 20 = .ok (.aload_n 0, 1) := by decide +kernel
theorem dX6_init_21 : decode mX6_init.2.1 21 = .ok (.bipush 6, 2) := by decide +kernel
theorem dX6_init_23 : decode mX6_init.2.1 23 = .ok (.newarray .boolean, 2) := by decide +kernel
theorem dX6_init_25 : decode mX6_init.2.1 25 = .ok (.putfield 18, 3) := by decide +kernel
theorem dX6_init_28 : decode mX6_init.2.1 28 = .ok (.aload_n 0, 1) := by decide +kernel
theorem dX6_init_29 : decode mX6_init.2.1 29 = .ok (.bipush 60, 2) := by decide +kernel
theorem dX6_init_31 : decode mX6_init.2.1 31 = .ok (.newarray .int, 2) := by decide +kernel
theorem dX6_init_33 : decode mX6_init.2.1 33 = .ok (.putfield 22, 3) := by decide +kernel
theorem dX6_init_36 : decode mX6_init.2.1 36 = .ok (.aload_n 0, 1) := by decide +kernel
theorem dX6_init_37 : decode mX6_init.2.1 37 = .ok (.bipush 60, 2) := by decide +kernel
theorem dX6_init_39 : decode mX6_init.2.1 39 = .ok (.newarray .int, 2) := by decide +kernel
theorem dX6_init_41 : decode mX6_init.2.1 41 = .ok (.putfield 25, 3) := by decide +kernel
theorem dX6_init_44 : decode mX6_init.2.1 44 = .ok (.aload_n 0, 1) := by decide +kernel
theorem dX6_init_45 : decode mX6_init.2.1 45 = .ok (.bipush 60, 2) := by decide +kernel
theorem dX6_init_47 : decode mX6_init.2.1 47 = .ok (.newarray .int, 2) := by decide +kernel
theorem dX6_init_49 : decode mX6_init.2.1 49 = .ok (.putfield 28, 3) := by decide +kernel
theorem dX6_init_52 : decode mX6_init.2.1 52 = .ok (.aload_n 0, 1) := by decide +kernel
theorem dX6_init_53 : decode mX6_init.2.1 53 = .ok (.bipush 60, 2) := by decide +kernel
theorem dX6_init_55 : decode mX6_init.2.1 55 = .ok (.newarray .int, 2) := by decide +kernel
theorem dX6_init_57 : decode mX6_init.2.1 57 = .ok (.putfield 31, 3) := by decide +kernel
theorem dX6_init_60 : decode mX6_init.2.1 60 = .ok (.aload_n 0, 1) := by decide +kernel
theorem dX6_init_61 : decode mX6_init.2.1 61 = .ok (.iconst 0, 1) := by decide +kernel
theorem dX6_init_62 : decode mX6_init.2.1 62 = .ok (.putfield 34, 3) := by decide +kernel
theorem dX6_init_65 : decode mX6_init.2.1 65 = .ok (.aload_n 0, 1) := by decide +kernel
theorem dX6_init_66 : decode mX6_init.2.1 66 = .ok (.iconst 0, 1) := by decide +kernel
theorem dX6_init_67 : decode mX6_init.2.1 67 = .ok (.putfield 38, 3) := by decide +kernel
theorem dX6_init_70 : decode mX6_init.2.1 70 = .ok (.return_, 1) := by decide +kernel
theorem dX6_isLedge_0 : decode mX6_isLedge.2.1 0 = .ok (.aload_n 0, 1) := by decide +kernel
theorem dX6_isLedge_1 : decode mX6_isLedge.2.1 1 = .ok (.iload_n 1, 1) := by decide +kernel
theorem dX6_isLedge_2 : decode mX6_isLedge.2.1 2 = .ok (.invokevirtual 41, 3) := by decide +kernel
theorem dX6_isLedge_5 : decode mX6_isLedge.2.1 5 = .ok (.ifCond .eq 16, 3) := by decide +kernel
theorem dX6_isLedge_8 : decode mX6_isLedge.2.1 8 = .ok (.aload_n 0, 1) := by decide +kernel
theorem dX6_isLedge_9 : decode mX6_isLedge.2.1 9 = .ok (.getfield 18, 3) := by decide +kernel
theorem dX6_isLedge_12 : decode mX6_isLedge.2.1 12 = .ok (.iload_n 1, 1) := by decide +kernel
theorem dX6_isLedge_13 : decode mX6_isLedge.2.1 13 = .ok (.baload, 1) := by decide +kernel
theorem dX6_isLedge_14 : decode mX6_isLedge.2.1 14 = .ok (.ifCond .eq 7, 3) := by decide +kernel
theorem dX6_isLedge_17 : decode mX6_isLedge.2.1 17 = .ok (.iconst 1, 1) := by decide +kernel
theorem dX6_isLedge_18 : decode mX6_isLedge.2.1 18 = .ok (.goto 4, 3) := by decide +kernel
theorem dX6_isLedge_21 : decode mX6_isLedge.2.1 21 = .ok (.iconst 0, 1) := by decide +kernel
theorem dX6_isLedge_22 : decode mX6_isLedge.2.1 22 = .ok (.ireturn, 1) := by decide +kernel
theorem dX6_isShut_0 : decode mX6_isShut.2.1 0 = .ok (.iconst 0, 1) := by decide +kernel
theorem dX6_isShut_1 : decode mX6_isShut.2.1 1 = .ok (.istore 4, 2) := by decide +kernel
theorem dX6_isShut_3 : decode mX6_isShut.2.1 3 = .ok (.iload 4, 2) := by decide +kernel
theorem dX6_isShut_5 : decode mX6_isShut.2.1 5 = .ok (.aload_n 0, 1) := by decide +kernel
theorem dX6_isShut_6 : decode mX6_isShut.2.1 6 = .ok (.getfield 38, 3) := by decide +kernel
theorem dX6_isShut_9 : decode mX6_isShut.2.1 9 = .ok (.if_icmp .ge 62, 3) := by decide +kernel
theorem dX6_isShut_12 : decode mX6_isShut.2.1 12 = .ok (.iload 4, 2) := by decide +kernel
theorem dX6_isShut_14 : decode mX6_isShut.2.1 14 = .ok (.bipush 60, 2) := by decide +kernel
theorem dX6_isShut_16 : decode mX6_isShut.2.1 16 = .ok (.if_icmp .ge 55, 3) := by decide +kernel
theorem dX6_isShut_19 : decode mX6_isShut.2.1 19 = .ok (.aload_n 0, 1) := by decide +kernel
theorem dX6_isShut_20 : decode mX6_isShut.2.1 20 = .ok (.getfield 22, 3) := by decide +kernel
theorem dX6_isShut_23 : decode mX6_isShut.2.1 23 = .ok (.iload 4, 2) := by decide +kernel
theorem dX6_isShut_25 : decode mX6_isShut.2.1 25 = .ok (.iaload, 1) := by decide +kernel
theorem dX6_isShut_26 : decode mX6_isShut.2.1 26 = .ok (.iload_n 1, 1) := by decide +kernel
theorem dX6_isShut_27 : decode mX6_isShut.2.1 27 = .ok (.if_icmp .ne 38, 3) := by decide +kernel
theorem dX6_isShut_30 : decode mX6_isShut.2.1 30 = .ok (.aload_n 0, 1) := by decide +kernel
theorem dX6_isShut_31 : decode mX6_isShut.2.1 31 = .ok (.getfield 31, 3) := by decide +kernel
theorem dX6_isShut_34 : decode mX6_isShut.2.1 34 = .ok (.iload 4, 2) := by decide +kernel
theorem dX6_isShut_36 : decode mX6_isShut.2.1 36 = .ok (.iaload, 1) := by decide +kernel
theorem dX6_isShut_37 : decode mX6_isShut.2.1 37 = .ok (.iload_n 3, 1) := by decide +kernel
theorem dX6_isShut_38 : decode mX6_isShut.2.1 38 = .ok (.if_icmp .gt 27, 3) := by decide +kernel
theorem dX6_isShut_41 : decode mX6_isShut.2.1 41 = .ok (.aload_n 0, 1) := by decide +kernel
theorem dX6_isShut_42 : decode mX6_isShut.2.1 42 = .ok (.getfield 25, 3) := by decide +kernel
theorem dX6_isShut_45 : decode mX6_isShut.2.1 45 = .ok (.iload 4, 2) := by decide +kernel
theorem dX6_isShut_47 : decode mX6_isShut.2.1 47 = .ok (.iaload, 1) := by decide +kernel
theorem dX6_isShut_48 : decode mX6_isShut.2.1 48 = .ok (.iload_n 2, 1) := by decide +kernel
theorem dX6_isShut_49 : decode mX6_isShut.2.1 49 = .ok (.if_icmp .gt 16, 3) := by decide +kernel
theorem dX6_isShut_52 : decode mX6_isShut.2.1 52 = .ok (.iload_n 2, 1) := by decide +kernel
theorem dX6_isShut_53 : decode mX6_isShut.2.1 53 = .ok (.aload_n 0, 1) := by decide +kernel
theorem dX6_isShut_54 : decode mX6_isShut.2.1 54 = .ok (.getfield 28, 3) := by decide +kernel
theorem dX6_isShut_57 : decode mX6_isShut.2.1 57 = .ok (.iload 4, 2) := by decide +kernel
theorem dX6_isShut_59 : decode mX6_isShut.2.1 59 = .ok (.iaload, 1) := by decide +kernel
theorem dX6_isShut_60 : decode mX6_isShut.2.1 60 = .ok (.if_icmp .gt 5, 3) := by decide +kernel
theorem dX6_isShut_63 : decode mX6_isShut.2.1 63 = .ok (.iconst 1, 1) := by decide +kernel
theorem dX6_isShut_64 : decode mX6_isShut.2.1 64 = .ok (.ireturn, 1) := by decide +kernel
theorem dX6_isShut_65 : decode mX6_isShut.2.1 65 = .ok (.iinc 4 1, 3) := by decide +kernel
theorem dX6_isShut_68 : decode mX6_isShut.2.1 68 = .ok (.goto (-65), 3) := by decide +kernel
theorem dX6_isShut_71 : decode mX6_isShut.2.1 71 = .ok (.iconst 0, 1) := by decide +kernel
theorem dX6_isShut_72 : decode mX6_isShut.2.1 72 = .ok (.ireturn, 1) := by decide +kernel
theorem dX6_shutLegs_0 : decode mX6_shutLegs.2.1 0 = .ok (.iconst 0, 1) := by decide +kernel
theorem dX6_shutLegs_1 : decode mX6_shutLegs.2.1 1 = .ok (.istore_n 2, 1) := by decide +kernel
theorem dX6_shutLegs_2 : decode mX6_shutLegs.2.1 2 = .ok (.iconst 0, 1) := by decide +kernel
theorem dX6_shutLegs_3 : decode mX6_shutLegs.2.1 3 = .ok (.istore_n 3, 1) := by decide +kernel
theorem dX6_shutLegs_4 : decode mX6_shutLegs.2.1 4 = .ok (.iload_n 3, 1) := by decide +kernel
theorem dX6_shutLegs_5 : decode mX6_shutLegs.2.1 5 = .ok (.aload_n 0, 1) := by decide +kernel
theorem dX6_shutLegs_6 : decode mX6_shutLegs.2.1 6 = .ok (.getfield 38, 3) := by decide +kernel
theorem dX6_shutLegs_9 : decode mX6_shutLegs.2.1 9 = .ok (.if_icmp .ge 46, 3) := by decide +kernel
theorem dX6_shutLegs_12 : decode mX6_shutLegs.2.1 12 = .ok (.iload_n 3, 1) := by decide +kernel
theorem dX6_shutLegs_13 : decode mX6_shutLegs.2.1 13 = .ok (.bipush 60, 2) := by decide +kernel
theorem dX6_shutLegs_15 : decode mX6_shutLegs.2.1 15 = .ok (.if_icmp .ge 40, 3) := by decide +kernel
theorem dX6_shutLegs_18 : decode mX6_shutLegs.2.1 18 = .ok (.aload_n 0, 1) := by decide +kernel
theorem dX6_shutLegs_19 : decode mX6_shutLegs.2.1 19 = .ok (.getfield 25, 3) := by decide +kernel
theorem dX6_shutLegs_22 : decode mX6_shutLegs.2.1 22 = .ok (.iload_n 3, 1) := by decide +kernel
theorem dX6_shutLegs_23 : decode mX6_shutLegs.2.1 23 = .ok (.iaload, 1) := by decide +kernel
theorem dX6_shutLegs_24 : decode mX6_shutLegs.2.1 24 = .ok (.iload_n 1, 1) := by decide +kernel
theorem dX6_shutLegs_25 : decode mX6_shutLegs.2.1 25 = .ok (.if_icmp .gt 24, 3) := by decide +kernel
theorem dX6_shutLegs_28 : decode mX6_shutLegs.2.1 28 = .ok (.iload_n 1, 1) := by decide +kernel
theorem dX6_shutLegs_29 : decode mX6_shutLegs.2.1 29 = .ok (.aload_n 0, 1) := by decide +kernel
theorem dX6_shutLegs_30 : decode mX6_shutLegs.2.1 30 = .ok (.getfield 28, 3) := by decide +kernel
theorem dX6_shutLegs_33 : decode mX6_shutLegs.2.1 33 = .ok (.iload_n 3, 1) := by decide +kernel
theorem dX6_shutLegs_34 : decode mX6_shutLegs.2.1 34 = .ok (.iaload, 1) := by decide +kernel
theorem dX6_shutLegs_35 : decode mX6_shutLegs.2.1 35 = .ok (.if_icmp .gt 14, 3) := by decide +kernel
theorem dX6_shutLegs_38 : decode mX6_shutLegs.2.1 38 = .ok (.iload_n 2, 1) := by decide +kernel
theorem dX6_shutLegs_39 : decode mX6_shutLegs.2.1 39 = .ok (.iconst 1, 1) := by decide +kernel
theorem dX6_shutLegs_40 : decode mX6_shutLegs.2.1 40 = .ok (.aload_n 0, 1) := by decide +kernel
theorem dX6_shutLegs_41 : decode mX6_shutLegs.2.1 41 = .ok (.getfield 22, 3) := by decide +kernel
theorem dX6_shutLegs_44 : decode mX6_shutLegs.2.1 44 = .ok (.iload_n 3, 1) := by decide +kernel
theorem dX6_shutLegs_45 : decode mX6_shutLegs.2.1 45 = .ok (.iaload, 1) := by decide +kernel
theorem dX6_shutLegs_46 : decode mX6_shutLegs.2.1 46 = .ok (.ishl, 1) := by decide +kernel
theorem dX6_shutLegs_47 : decode mX6_shutLegs.2.1 47 = .ok (.ior, 1) := by decide +kernel
theorem dX6_shutLegs_48 : decode mX6_shutLegs.2.1 48 = .ok (.istore_n 2, 1) := by decide +kernel
theorem dX6_shutLegs_49 : decode mX6_shutLegs.2.1 49 = .ok (.iinc 3 1, 3) := by decide +kernel
theorem dX6_shutLegs_52 : decode mX6_shutLegs.2.1 52 = .ok (.goto (-48), 3) := by decide +kernel
theorem dX6_shutLegs_55 : decode mX6_shutLegs.2.1 55 = .ok (.iload_n 2, 1) := by decide +kernel
theorem dX6_shutLegs_56 : decode mX6_shutLegs.2.1 56 = .ok (.ireturn, 1) := by decide +kernel
theorem dX7_addByte_0 : decode mX7_addByte.2.1 0 = .ok (.aload_n 0, 1) := by decide +kernel
theorem dX7_addByte_1 : decode mX7_addByte.2.1 1 = .ok (.getfield 15, 3) := by decide +kernel
theorem dX7_addByte_4 : decode mX7_addByte.2.1 4 = .ok (.sipush 400, 3) := by decide +kernel
theorem dX7_addByte_7 : decode mX7_addByte.2.1 7 = .ok (.if_icmp .ge 23, 3) := by decide +kernel
theorem dX7_addByte_10 : decode mX7_addByte.2.1 10 = .ok (.aload_n 0, 1) := by decide +kernel
theorem dX7_addByte_11 : decode mX7_addByte.2.1 11 = .ok (.getfield 9, 3) := by decide +kernel
theorem dX7_addByte_14 : decode mX7_addByte.2.1 14 = .ok (.aload_n 0, 1) := by decide +kernel
theorem dX7_addByte_15 : decode mX7_addByte.2.1 15 = .ok (.getfield 15, 3) := by decide +kernel
theorem dX7_addByte_18 : decode mX7_addByte.2.1 18 = .ok (.iload_n 1, 1) := by decide +kernel
theorem dX7_addByte_19 : decode mX7_addByte.2.1 19 = .ok (.iastore, 1) := by decide +kernel
theorem dX7_addByte_20 : decode mX7_addByte.2.1 20 = .ok (.aload_n 0, 1) := by decide +kernel
theorem dX7_addByte_21 : decode mX7_addByte.2.1 21 = .ok (.dup, 1) := by decide +kernel
theorem dX7_addByte_22 : decode mX7_addByte.2.1 22 = .ok (.getfield 15, 3) := by decide +kernel
theorem dX7_addByte_25 : decode mX7_addByte.2.1 25 = .ok (.iconst 1, 1) := by decide +kernel
theorem dX7_addByte_26 : decode mX7_addByte.2.1 26 = .ok (.iadd, 1) := by decide +kernel
theorem dX7_addByte_27 : decode mX7_addByte.2.1 27 = .ok (.putfield 15, 3) := by decide +kernel
theorem dX7_addByte_30 : decode mX7_addByte.2.1 30 = .ok (.return_, 1) := by decide +kernel
theorem dX7_addNumber_0 : decode mX7_addNumber.2.1 0 = .ok (.aload_n 0, 1) := by decide +kernel
theorem dX7_addNumber_1 : decode mX7_addNumber.2.1 1 = .ok (.iload_n 1, 1) := by decide +kernel
theorem dX7_addNumber_2 : decode mX7_addNumber.2.1 2 = .ok (.bipush 24, 2) := by decide +kernel
theorem dX7_addNumber_4 : decode mX7_addNumber.2.1 4 = .ok (.iushr, 1) := by decide +kernel
theorem dX7_addNumber_5 : decode mX7_addNumber.2.1 5 = .ok (.invokevirtual 19, 3) := by decide +kernel
theorem dX7_addNumber_8 : decode mX7_addNumber.2.1 8 = .ok (.aload_n 0, 1) := by decide +kernel
theorem dX7_addNumber_9 : decode mX7_addNumber.2.1 9 = .ok (.iload_n 1, 1) := by decide +kernel
theorem dX7_addNumber_10 : decode mX7_addNumber.2.1 10 = .ok (.bipush 16, 2) := by decide +kernel
theorem dX7_addNumber_12 : decode mX7_addNumber.2.1 12 = .ok (.iushr, 1) := by decide +kernel
theorem dX7_addNumber_13 : decode mX7_addNumber.2.1 13 = .ok (.sipush 255, 3) := by decide +kernel
theorem dX7_addNumber_16 : decode mX7_addNumber.2.1 16 = .ok (.iand, 1) := by decide +kernel
theorem dX7_addNumber_17 : decode mX7_addNumber.2.1 17 = .ok (.invokevirtual 19, 3) := by decide +kernel
theorem dX7_addNumber_20 : decode mX7_addNumber.2.1 20 = .ok (.aload_n 0, 1) := by decide +kernel
theorem dX7_addNumber_21 : decode mX7_addNumber.2.1 21 = .ok (.iload_n 1, 1) := by decide +kernel
theorem dX7_addNumber_22 : decode mX7_addNumber.2.1 22 = .ok (.bipush 8, 2) := by decide +kernel
theorem dX7_addNumber_24 : decode mX7_addNumber.2.1 24 = .ok (.iushr, 1) := by decide +kernel
theorem dX7_addNumber_25 : decode mX7_addNumber.2.1 25 = .ok (.sipush 255, 3) := by decide +kernel
theorem dX7_addNumber_28 : decode mX7_addNumber.2.1 28 = .ok (.iand, 1) := by decide +kernel
theorem dX7_addNumber_29 : decode mX7_addNumber.2.1 29 = .ok (.invokevirtual 19, 3) := by decide +kernel
theorem dX7_addNumber_32 : decode mX7_addNumber.2.1 32 = .ok (.aload_n 0, 1) := by decide +kernel
theorem dX7_addNumber_33 : decode mX7_addNumber.2.1 33 = .ok (.iload_n 1, 1) := by decide +kernel
theorem dX7_addNumber_34 : decode mX7_addNumber.2.1 34 = .ok (.sipush 255, 3) := by decide +kernel
theorem dX7_addNumber_37 : decode mX7_addNumber.2.1 37 = .ok (.iand, 1) := by decide +kernel
theorem dX7_addNumber_38 : decode mX7_addNumber.2.1 38 = .ok (.invokevirtual 19, 3) := by decide +kernel
theorem dX7_addNumber_41 : decode mX7_addNumber.2.1 41 = .ok (.return_, 1) := by decide +kernel
theorem dX7_byteAt_0 : decode mX7_byteAt.2.1 0 = .ok (.iload_n 1, 1) := by decide +kernel
theorem dX7_byteAt_1 : decode mX7_byteAt.2.1 1 = .ok (.ifCond .lt 18, 3) := by decide +kernel
theorem dX7_byteAt_4 : decode mX7_byteAt.2.1 4 = .ok (.iload_n 1, 1) := by decide +kernel
theorem dX7_byteAt_5 : decode mX7_byteAt.2.1 5 = .ok (.aload_n 0, 1) := by decide +kernel
theorem dX7_byteAt_6 : decode mX7_byteAt.2.1 6 = .ok (.getfield 15, 3) := by decide +kernel
theorem dX7_byteAt_9 : decode mX7_byteAt.2.1 9 = .ok (.if_icmp .ge 10, 3) := by decide +kernel
theorem dX7_byteAt_12 : decode mX7_byteAt.2.1 12 = .ok (.iload_n 1, 1) := by decide +kernel
theorem dX7_byteAt_13 : decode mX7_byteAt.2.1 13 = .ok (.sipush 400, 3) := by decide +kernel
theorem dX7_byteAt_16 : decode mX7_byteAt.2.1 16 = .ok (.if_icmp .lt 7, 3) := by decide +kernel
theorem dX7_byteAt_19 : decode mX7_byteAt.2.1 19 = .ok (.iconst (-1), 1) := by decide +kernel
theorem dX7_byteAt_20 : decode mX7_byteAt.2.1 20 = .ok (.goto 9, 3) := by decide +kernel
theorem dX7_byteAt_23 : decode mX7_byteAt.2.1 23 = .ok (.aload_n 0, 1) := by decide +kernel
theorem dX7_byteAt_24 : decode mX7_byteAt.2.1 24 = .ok (.getfield 9, 3) := by decide +kernel
theorem dX7_byteAt_27 : decode mX7_byteAt.2.1 27 = .ok (.iload_n 1, 1) := by decide +kernel
theorem dX7_byteAt_28 : decode mX7_byteAt.2.1 28 = .ok (.iaload, 1) := by decide +kernel
theorem dX7_byteAt_29 : decode mX7_byteAt.2.1 29 = .ok (.ireturn, 1) := by decide +kernel
theorem dX7_init_0 : decode mX7_init.2.1 0 = .ok (.aload_n 0, 1) := by decide +kernel
theorem dX7_init_1 : decode mX7_init.2.1 1 = .ok (.invokespecial 3, 3) := by decide +kernel
theorem dX7_init_4 : decode mX7_init.2.1 4 = .ok (.aload_n 0, 1) := by decide +kernel
theorem dX7_init_5 : decode mX7_init.2.1 5 = .ok (.sipush 400, 3) := by decide +kernel
theorem dX7_init_8 : decode mX7_init.2.1 8 = .ok (.newarray .int, 2) := by decide +kernel
theorem dX7_init_10 : decode mX7_init.2.1 10 = .ok (.putfield 9, 3) := by decide +kernel
theorem dX7_init_13 : decode mX7_init.2.1 13 = .ok (.aload_n 0, 1) := by decide +kernel
theorem dX7_init_14 : decode mX7_init.2.1 14 = .ok (.iconst 0, 1) := by decide +kernel
theorem dX7_init_15 : decode mX7_init.2.1 15 = .ok (.putfield 15, 3) := by decide +kernel
theorem dX7_init_18 : decode mX7_init.2.1 18 = .ok (.return_, 1) := by decide +kernel
theorem dX8_add_0 : decode mX8_add.2.1 0 = .ok (.aload_n 0, 1) := by decide +kernel
theorem dX8_add_1 : decode mX8_add.2.1 1 = .ok (.getfield 21, 3) := by decide +kernel
theorem dX8_add_4 : decode mX8_add.2.1 4 = .ok (.sipush 400, 3) := by decide +kernel
theorem dX8_add_7 : decode mX8_add.2.1 7 = .ok (.if_icmp .gt 46, 3) := by decide +kernel
theorem dX8_add_10 : decode mX8_add.2.1 10 = .ok (.aload_n 0, 1) := by decide +kernel
theorem dX8_add_11 : decode mX8_add.2.1 11 = .ok (.getfield 9, 3) := by decide +kernel
theorem dX8_add_14 : decode mX8_add.2.1 14 = .ok (.aload_n 0, 1) := by decide +kernel
theorem dX8_add_15 : decode mX8_add.2.1 15 = .ok (.getfield 21, 3) := by decide +kernel
theorem dX8_add_18 : decode mX8_add.2.1 18 = .ok (.iload_n 1, 1) := by decide +kernel
theorem dX8_add_19 : decode mX8_add.2.1 19 = .ok (.iastore, 1) := by decide +kernel
theorem dX8_add_20 : decode mX8_add.2.1 20 = .ok (.aload_n 0, 1) := by decide +kernel
theorem dX8_add_21 : decode mX8_add.2.1 21 = .ok (.getfield 15, 3) := by decide +kernel
theorem dX8_add_24 : decode mX8_add.2.1 24 = .ok (.aload_n 0, 1) := by decide +kernel
theorem dX8_add_25 : decode mX8_add.2.1 25 = .ok (.getfield 21, 3) := by decide +kernel
theorem dX8_add_28 : decode mX8_add.2.1 28 = .ok (.aload_n 0, 1) := by decide +kernel
theorem dX8_add_29 : decode mX8_add.2.1 29 = .ok (.getfield 25, 3) := by decide +kernel
theorem dX8_add_32 : decode mX8_add.2.1 32 = .ok (.iastore, 1) := by decide +kernel
theorem dX8_add_33 : decode mX8_add.2.1 33 = .ok (.aload_n 0, 1) := by decide +kernel
theorem dX8_add_34 : decode mX8_add.2.1 34 = .ok (.getfield 18, 3) := by decide +kernel
theorem dX8_add_37 : decode mX8_add.2.1 37 = .ok (.aload_n 0, 1) := by decide +kernel
theorem dX8_add_38 : decode mX8_add.2.1 38 = .ok (.getfield 21, 3) := by decide +kernel
theorem dX8_add_41 : decode mX8_add.2.1 41 = .ok (.iload_n 2, 1) := by decide +kernel
theorem dX8_add_42 : decode mX8_add.2.1 42 = .ok (.iastore, 1) := by decide +kernel
theorem dX8_add_43 : decode mX8_add.2.1 43 = .ok (.aload_n 0, 1) := by decide +kernel
theorem dX8_add_44 : decode mX8_add.2.1 44 = .ok (.dup, 1) := by decide +kernel
theorem dX8_add_45 : decode mX8_add.2.1 45 = .ok (.getfield 21, 3) := by decide +kernel
theorem dX8_add_48 : decode mX8_add.2.1 48 = .ok (.iconst 1, 1) := by decide +kernel
theorem dX8_add_49 : decode mX8_add.2.1 49 = .ok (.iadd, 1) := by decide +kernel
theorem dX8_add_50 : decode mX8_add.2.1 50 = .ok (.putfield 21, 3) := by decide +kernel
theorem dX8_add_53 : decode mX8_add.2.1 53 = .ok (.iload_n 1, 1) := by decide +kernel
theorem dX8_add_54 : decode mX8_add.2.1 54 = .ok (.ireturn, 1) := by decide +kernel
theorem dX8_cutNumber_0 : decode mX8_cutNumber.2.1 0 = .ok (.aload_n 0, 1) := by decide +kernel
theorem dX8_cutNumber_1 : decode mX8_cutNumber.2.1 1 = .ok (.getfield 28, 3) := by decide +kernel
theorem dX8_cutNumber_4 : decode mX8_cutNumber.2.1 4 = .ok (.aload_n 0, 1) := by decide +kernel
theorem dX8_cutNumber_5 : decode mX8_cutNumber.2.1 5 = .ok (.getfield 31, 3) := by decide +kernel
theorem dX8_cutNumber_8 : decode mX8_cutNumber.2.1 8 = .ok (.getfield 39, 3) := by decide +kernel
theorem dX8_cutNumber_11 : decode mX8_cutNumber.2.1 11 = .ok (.if_icmp .ge 33, 3) := by decide +kernel
theorem dX8_cutNumber_14 : decode mX8_cutNumber.2.1 14 = .ok (.aload_n 0, 1) := by decide +kernel
theorem dX8_cutNumber_15 : decode mX8_cutNumber.2.1 15 = .ok (.getfield 31, 3) := by decide +kernel
theorem dX8_cutNumber_18 : decode mX8_cutNumber.2.1 18 = .ok (.aload_n 0, 1) := by decide +kernel
theorem dX8_cutNumber_19 : decode mX8_cutNumber.2.1 19 = .ok (.getfield 28, 3) := by decide +kernel
theorem dX8_cutNumber_22 : decode mX8_cutNumber.2.1 22 = .ok (.invokevirtual 42, 3) := by decide +kernel
theorem dX8_cutNumber_25 : decode mX8_cutNumber.2.1 25 = .ok (.invokestatic 60, 3) := by decide +kernel
theorem dX8_cutNumber_28 : decode mX8_cutNumber.2.1 28 = .ok (.ifCond .eq 16, 3) := by decide +kernel
theorem dX8_cutNumber_31 : decode mX8_cutNumber.2.1 31 = .ok (.aload_n 0, 1) := by decide +kernel
theorem dX8_cutNumber_32 : decode mX8_cutNumber.2.1 32 = .ok (.dup, 1) := by decide +kernel
theorem dX8_cutNumber_33 : decode mX8_cutNumber.2.1 33 = .ok (.getfield 28, 3) := by decide +kernel
theorem dX8_cutNumber_36 : decode mX8_cutNumber.2.1 36 = .ok (.iconst 1, 1) := by decide +kernel
theorem dX8_cutNumber_37 : decode mX8_cutNumber.2.1 37 = .ok (.iadd, 1) := by decide +kernel
theorem dX8_cutNumber_38 : decode mX8_cutNumber.2.1 38 = .ok (.putfield 28, 3) := by decide +kernel
theorem dX8_cutNumber_41 : decode mX8_cutNumber.2.1 41 = .ok (.goto (-41), 3) := by decide +kernel
theorem dX8_cutNumber_44 : decode mX8_cutNumber.2.1 44 = .ok (.aload_n 0, 1) := by decide +kernel
theorem dX8_cutNumber_45 : decode mX8_cutNumber.2.1 45 = .ok (.getfield 28, 3) := by decide +kernel
theorem dX8_cutNumber_48 : decode mX8_cutNumber.2.1 48 = .ok (.aload_n 0, 1) := by decide +kernel
theorem dX8_cutNumber_49 : decode mX8_cutNumber.2.1 49 = .ok (.getfield 25, 3) := by decide +kernel
theorem dX8_cutNumber_52 : decode mX8_cutNumber.2.1 52 = .ok (.isub, 1) := by decide +kernel
theorem dX8_cutNumber_53 : decode mX8_cutNumber.2.1 53 = .ok (.iconst 4, 1) := by decide +kernel
theorem dX8_cutNumber_54 : decode mX8_cutNumber.2.1 54 = .ok (.if_icmp .le 10, 3) := by decide +kernel
theorem dX8_cutNumber_57 : decode mX8_cutNumber.2.1 57 = .ok (.aload_n 0, 1) := by decide +kernel
theorem dX8_cutNumber_58 : decode mX8_cutNumber.2.1 58 = .ok (.iconst 1, 1) := by decide +kernel
theorem dX8_cutNumber_59 : decode mX8_cutNumber.2.1 59 = .ok (.iconst 0, 1) := by decide +kernel
theorem dX8_cutNumber_60 : decode mX8_cutNumber.2.1 60 = .ok (.invokevirtual 50, 3) := by decide +kernel
theorem dX8_cutNumber_63 : decode mX8_cutNumber.2.1 63 = .ok (.ireturn, 1) := by decide +kernel
theorem dX8_cutNumber_64 : decode mX8_cutNumber.2.1 64 = .ok (.iconst 0, 1) := by decide +kernel
theorem dX8_cutNumber_65 : decode mX8_cutNumber.2.1 65 = .ok (.istore_n 1, 1) := by decide +kernel
theorem dX8_cutNumber_66 : decode mX8_cutNumber.2.1 66 = .ok (.aload_n 0, 1) := by decide +kernel
theorem dX8_cutNumber_67 : decode mX8_cutNumber.2.1 67 = .ok (.getfield 25, 3) := by decide +kernel
theorem dX8_cutNumber_70 : decode mX8_cutNumber.2.1 70 = .ok (.istore_n 2, 1) := by decide +kernel
theorem dX8_cutNumber_71 : decode mX8_cutNumber.2.1 71 = .ok (.iload_n 2, 1) := by decide +kernel
theorem dX8_cutNumber_72 : decode mX8_cutNumber.2.1 72 = .ok (.aload_n 0, 1) := by decide +kernel
theorem dX8_cutNumber_73 : decode mX8_cutNumber.2.1 73 = .ok (.getfield 28, 3) := by decide +kernel
theorem dX8_cutNumber_76 : decode mX8_cutNumber.2.1 76 = .ok (.if_icmp .ge 26, 3) := by decide +kernel
theorem dX8_cutNumber_79 : decode mX8_cutNumber.2.1 79 = .ok (.iload_n 1, 1) := by decide +kernel
theorem dX8_cutNumber_80 : decode mX8_cutNumber.2.1 80 = .ok (.bipush 10, 2) := by decide +kernel
theorem dX8_cutNumber_82 : decode mX8_cutNumber.2.1 82 = .ok (.imul, 1) := by decide +kernel
theorem dX8_cutNumber_83 : decode mX8_cutNumber.2.1 83 = .ok (.aload_n 0, 1) := by decide +kernel
theorem dX8_cutNumber_84 : decode mX8_cutNumber.2.1 84 = .ok (.getfield 31, 3) := by decide +kernel
theorem dX8_cutNumber_87 : decode mX8_cutNumber.2.1 87 = .ok (.iload_n 2, 1) := by decide +kernel
theorem dX8_cutNumber_88 : decode mX8_cutNumber.2.1 88 = .ok (.invokevirtual 42, 3) := by decide +kernel
theorem dX8_cutNumber_91 : decode mX8_cutNumber.2.1 91 = .ok (.iadd, 1) := by decide +kernel
theorem dX8_cutNumber_92 : decode mX8_cutNumber.2.1 92 = .ok (.bipush 48, 2) := by decide +kernel
theorem dX8_cutNumber_94 : decode mX8_cutNumber.2.1 94 = .ok (.isub, 1) := by decide +kernel
theorem dX8_cutNumber_95 : decode mX8_cutNumber.2.1 95 = .ok (.istore_n 1, 1) := by decide +kernel
theorem dX8_cutNumber_96 : decode mX8_cutNumber.2.1 96 = .ok (.iinc 2 1, 3) := by decide +kernel
theorem dX8_cutNumber_99 : decode mX8_cutNumber.2.1 99 = .ok (.goto (-28), 3) := by decide +kernel
theorem dX8_cutNumber_102 : decode mX8_cutNumber.2.1 102 = .ok (.aload_n 0, 1) := by decide +kernel
theorem dX8_cutNumber_103 : decode mX8_cutNumber.2.1 103 = .ok (.iconst 2, 1) := by decide +kernel
theorem dX8_cutNumber_104 : decode mX8_cutNumber.2.1 104 = .ok (.iload_n 1, 1) := by decide +kernel
theorem dX8_cutNumber_105 : decode mX8_cutNumber.2.1 105 = .ok (.invokevirtual 50, 3) := by decide +kernel
theorem dX8_cutNumber_108 : decode mX8_cutNumber.2.1 108 = .ok (.ireturn, 1) := by decide +kernel
theorem dX8_cutTape_0 : decode mX8_cutTape.2.1 0 = .ok (.aload_n 0, 1) := by decide +kernel
theorem dX8_cutTape_1 : decode mX8_cutTape.2.1 1 = .ok (.iconst 0, 1) := by decide +kernel
theorem dX8_cutTape_2 : decode mX8_cutTape.2.1 2 = .ok (.putfield 21, 3) := by decide +kernel
theorem dX8_cutTape_5 : decode mX8_cutTape.2.1 5 = .ok (.aload_n 0, 1) := by decide +kernel
theorem dX8_cutTape_6 : decode mX8_cutTape.2.1 6 = .ok (.iconst 0, 1) := by decide +kernel
theorem dX8_cutTape_7 : decode mX8_cutTape.2.1 7 = .ok (.putfield 28, 3) := by decide +kernel
theorem dX8_cutTape_10 : decode mX8_cutTape.2.1 10 = .ok (.iconst 1, 1) := by decide +kernel
theorem dX8_cutTape_11 : decode mX8_cutTape.2.1 11 = .ok (.istore_n 1, 1) := by decide +kernel
theorem dX8_cutTape_12 : decode mX8_cutTape.2.1 12 = .ok (.iconst 0, 1) := by decide +kernel
theorem dX8_cutTape_13 : decode mX8_cutTape.2.1 13 = .ok (.istore_n 2, 1) := by decide +kernel
theorem dX8_cutTape_14 : decode mX8_cutTape.2.1 14 = .ok (.iload_n 2, 1) := by decide +kernel
theorem dX8_cutTape_15 : decode mX8_cutTape.2.1 15 = .ok (.sipush 400, 3) := by decide +kernel
theorem dX8_cutTape_18 : decode mX8_cutTape.2.1 18 = .ok (.if_icmp .gt 18, 3) := by decide +kernel
theorem dX8_cutTape_21 : decode mX8_cutTape.2.1 21 = .ok (.iload_n 1, 1) := by decide +kernel
theorem dX8_cutTape_22 : decode mX8_cutTape.2.1 22 = .ok (.ifCond .eq 14, 3) := by decide +kernel
theorem dX8_cutTape_25 : decode mX8_cutTape.2.1 25 = .ok (.aload_n 0, 1) := by decide +kernel
theorem dX8_cutTape_26 : decode mX8_cutTape.2.1 26 = .ok (.invokevirtual 35, 3) := by decide +kernel
theorem dX8_cutTape_29 : decode mX8_cutTape.2.1 29 = .ok (.istore_n 1, 1) := by decide +kernel
theorem dX8_cutTape_30 : decode mX8_cutTape.2.1 30 = .ok (.iinc 2 1, 3) := by decide +kernel
theorem dX8_cutTape_33 : decode mX8_cutTape.2.1 33 = .ok (.goto (-19), 3) := by decide +kernel
theorem dX8_cutTape_36 : decode mX8_cutTape.2.1 36 = .ok (.return_, 1) := by decide +kernel
theorem dX8_cutToken_0 : decode mX8_cutToken.2.1 0 = .ok (.aload_n 0, 1) := by decide +kernel
theorem dX8_cutToken_1 : decode mX8_cutToken.2.1 1 = .ok (.aload_n 0, 1) := by decide +kernel
theorem dX8_cutToken_2 : decode mX8_cutToken.2.1 2 = .ok (.getfield 28, 3) := by decide +kernel
theorem dX8_cutToken_5 : decode mX8_cutToken.2.1 5 = .ok (.putfield 25, 3) := by decide +kernel
theorem dX8_cutToken_8 : decode mX8_cutToken.2.1 8 = .ok (.aload_n 0, 1) := by decide +kernel
theorem dX8_cutToken_9 : decode mX8_cutToken.2.1 9 = .ok (.getfield 25, 3) := by decide +kernel
theorem dX8_cutToken_12 : decode mX8_cutToken.2.1 12 = .ok (.aload_n 0, 1) := by decide +kernel
theorem dX8_cutToken_13 : decode mX8_cutToken.2.1 13 = .ok (.getfield 31, 3) := by decide +kernel
theorem dX8_cutToken_16 : decode mX8_cutToken.2.1 16 = .ok (.getfield 39, 3) := by decide +kernel
theorem dX8_cutToken_19 : decode mX8_cutToken.2.1 19 = .ok (.if_icmp .ge 33, 3) := by decide +kernel
theorem dX8_cutToken_22 : decode mX8_cutToken.2.1 22 = .ok (.aload_n 0, 1) := by decide +kernel
theorem dX8_cutToken_23 : decode mX8_cutToken.2.1 23 = .ok (.getfield 31, 3) := by decide +kernel
theorem dX8_cutToken_26 : decode mX8_cutToken.2.1 26 = .ok (.aload_n 0, 1) := by decide +kernel
theorem dX8_cutToken_27 : decode mX8_cutToken.2.1 27 = .ok (.getfield 25, 3) := by decide +kernel
theorem dX8_cutToken_30 : decode mX8_cutToken.2.1 30 = .ok (.invokevirtual 42, 3) := by decide +kernel
theorem dX8_cutToken_33 : decode mX8_cutToken.2.1 33 = .ok (.invokestatic 46, 3) := by decide +kernel
theorem dX8_cutToken_36 : decode mX8_cutToken.2.1 36 = .ok (.ifCond .eq 16, 3) := by decide +kernel
theorem dX8_cutToken_39 : decode mX8_cutToken.2.1 39 = .ok (.aload_n 0, 1) := by decide +kernel
theorem dX8_cutToken_40 : decode mX8_cutToken.2.1 40 = .ok (.dup, 1) := by decide +kernel
theorem dX8_cutToken_41 : decode mX8_cutToken.2.1 41 = .ok (.getfield 25, 3) := by decide +kernel
theorem dX8_cutToken_44 : decode mX8_cutToken.2.1 44 = .ok (.iconst 1, 1) := by decide +kernel
theorem dX8_cutToken_45 : decode mX8_cutToken.2.1 45 = .ok (.iadd, 1) := by decide +kernel
theorem dX8_cutToken_46 : decode mX8_cutToken.2.1 46 = .ok (.putfield 25, 3) := by decide +kernel
theorem dX8_cutToken_49 : decode mX8_cutToken.2.1 49 = .ok (.goto (-41), 3) := by decide +kernel
theorem dX8_cutToken_52 : decode mX8_cutToken.2.1 52 = .ok (.aload_n 0, 1) := by decide +kernel
theorem dX8_cutToken_53 : decode mX8_cutToken.2.1 53 = .ok (.getfield 31, 3) := by decide +kernel
theorem dX8_cutToken_56 : decode mX8_cutToken.2.1 56 = .ok (.aload_n 0, 1) := by decide +kernel
theorem dX8_cutToken_57 : decode mX8_cutToken.2.1 57 = .ok (.getfield 25, 3) := by decide +kernel
theorem dX8_cutToken_60 : decode mX8_cutToken.2.1 60 = .ok (.invokevirtual 42, 3) := by decide +kernel
theorem dX8_cutToken_63 : decode mX8_cutToken.2.1 63 = .ok (.istore_n 1, 1) := by decide +kernel
theorem dX8_cutToken_64 : decode mX8_cutToken.2.1 64 = .ok (.aload_n 0, 1) := by decide +kernel
theorem dX8_cutToken_65 : decode mX8_cutToken.2.1 65 = .ok (.iload_n 1, 1) := by decide +kernel
theorem dX8_cutToken_66 : decode mX8_cutToken.2.1 66 = .ok (.iconst (-1), 1) := by decide +kernel
theorem dX8_cutToken_67 : decode mX8_cutToken.2.1 67 = .ok (.if_icmp .ne 10, 3) := by decide +kernel
theorem dX8_cutToken_70 : decode mX8_cutToken.2.1 70 = .ok (.aload_n 0, 1) := by decide +kernel
theorem dX8_cutToken_71 : decode mX8_cutToken.2.1 71 = .ok (.getfield 25, 3) := by decide +kernel
theorem dX8_cutToken_74 : decode mX8_cutToken.2.1 74 = .ok (.goto 9, 3) := by decide +kernel
theorem dX8_cutToken_77 : decode mX8_cutToken.2.1 77 = .ok (.aload_n 0, 1) := by decide +kernel
theorem dX8_cutToken_78 : decode mX8_cutToken.2.1 78 = .ok (.getfield 25, 3) := by decide +kernel
theorem dX8_cutToken_81 : decode mX8_cutToken.2.1 81 = .ok (.iconst 1, 1) := by decide +kernel
theorem dX8_cutToken_82 : decode mX8_cutToken.2.1 82 = .ok (.iadd, 1) := by decide +kernel
theorem dX8_cutToken_83 : decode mX8_cutToken.2.1 83 = .ok (.putfield 28, 3) := by decide +kernel
theorem dX8_cutToken_86 : decode mX8_cutToken.2.1 86 = .ok (.iload_n 1, 1) := by decide +kernel
theorem dX8_cutToken_87 : decode mX8_cutToken.2.1 87 = .ok (.iconst (-1), 1) := by decide +kernel
theorem dX8_cutToken_88 : decode mX8_cutToken.2.1 88 = .ok (.if_icmp .ne 10, 3) := by decide +kernel
theorem dX8_cutToken_91 : decode mX8_cutToken.2.1 91 = .ok (.aload_n 0, 1) := by decide +kernel
theorem dX8_cutToken_92 : decode mX8_cutToken.2.1 92 = .ok (.iconst 0, 1) := by decide +kernel
theorem dX8_cutToken_93 : decode mX8_cutToken.2.1 93 = .ok (.iconst 0, 1) := by decide +kernel
theorem dX8_cutToken_94 : decode mX8_cutToken.2.1 94 = .ok (.invokevirtual 50, 3) := by decide +kernel
theorem dX8_cutToken_97 : decode mX8_cutToken.2.1 97 = .ok (.ireturn, 1) := by decide +kernel
theorem dX8_cutToken_98 : decode mX8_cutToken.2.1 98 = .ok (.iload_n 1, 1) := by decide +kernel
theorem dX8_cutToken_99 : decode mX8_cutToken.2.1 99 = .ok (.invokestatic 54, 3) := by decide +kernel
theorem dX8_cutToken_102 : decode mX8_cutToken.2.1 102 = .ok (.ifCond .eq 8, 3) := by decide +kernel
theorem dX8_cutToken_105 : decode mX8_cutToken.2.1 105 = .ok (.aload_n 0, 1) := by decide +kernel
theorem dX8_cutToken_106 : decode mX8_cutToken.2.1 106 = .ok (.invokevirtual 57, 3) := by decide +kernel
theorem dX8_cutToken_109 : decode mX8_cutToken.2.1 109 = .ok (.ireturn, 1) := by decide +kernel
theorem dX8_cutToken_110 : decode mX8_cutToken.2.1 110 = .ok (.iload_n 1, 1) := by decide +kernel
theorem dX8_cutToken_111 : decode mX8_cutToken.2.1 111 = .ok (.invokestatic 60, 3) := by decide +kernel
theorem dX8_cutToken_114 : decode mX8_cutToken.2.1 114 = .ok (.ifCond .eq 10, 3) := by decide +kernel
theorem dX8_cutToken_117 : decode mX8_cutToken.2.1 117 = .ok (.aload_n 0, 1) := by decide +kernel
theorem dX8_cutToken_118 : decode mX8_cutToken.2.1 118 = .ok (.invokevirtual 63, 3) := by decide +kernel
theorem dX8_cutToken_121 : decode mX8_cutToken.2.1 121 = .ok (.goto 12, 3) := by decide +kernel
theorem dX8_cutToken_124 : decode mX8_cutToken.2.1 124 = .ok (.aload_n 0, 1) := by decide +kernel
theorem dX8_cutToken_125 : decode mX8_cutToken.2.1 125 = .ok (.iload_n 1, 1) := by decide +kernel
theorem dX8_cutToken_126 : decode mX8_cutToken.2.1 126 = .ok (.invokestatic 66, 3) := by decide +kernel
theorem dX8_cutToken_129 : decode mX8_cutToken.2.1 129 = .ok (.iload_n 1, 1) := by decide +kernel
theorem dX8_cutToken_130 : decode mX8_cutToken.2.1 130 = .ok (.invokevirtual 50, 3) := by decide +kernel
theorem dX8_cutToken_133 : decode mX8_cutToken.2.1 133 = .ok (.ireturn, 1) := by decide +kernel
theorem dX8_cutWord_0 : decode mX8_cutWord.2.1 0 = .ok (.aload_n 0, 1) := by decide +kernel
theorem dX8_cutWord_1 : decode mX8_cutWord.2.1 1 = .ok (.getfield 28, 3) := by decide +kernel
theorem dX8_cutWord_4 : decode mX8_cutWord.2.1 4 = .ok (.aload_n 0, 1) := by decide +kernel
theorem dX8_cutWord_5 : decode mX8_cutWord.2.1 5 = .ok (.getfield 31, 3) := by decide +kernel
theorem dX8_cutWord_8 : decode mX8_cutWord.2.1 8 = .ok (.getfield 39, 3) := by decide +kernel
theorem dX8_cutWord_11 : decode mX8_cutWord.2.1 11 = .ok (.if_icmp .ge 33, 3) := by decide +kernel
theorem dX8_cutWord_14 : decode mX8_cutWord.2.1 14 = .ok (.aload_n 0, 1) := by decide +kernel
theorem dX8_cutWord_15 : decode mX8_cutWord.2.1 15 = .ok (.getfield 31, 3) := by decide +kernel
theorem dX8_cutWord_18 : decode mX8_cutWord.2.1 18 = .ok (.aload_n 0, 1) := by decide +kernel
theorem dX8_cutWord_19 : decode mX8_cutWord.2.1 19 = .ok (.getfield 28, 3) := by decide +kernel
theorem dX8_cutWord_22 : decode mX8_cutWord.2.1 22 = .ok (.invokevirtual 42, 3) := by decide +kernel
theorem dX8_cutWord_25 : decode mX8_cutWord.2.1 25 = .ok (.invokestatic 54, 3) := by decide +kernel
theorem dX8_cutWord_28 : decode mX8_cutWord.2.1 28 = .ok (.ifCond .eq 16, 3) := by decide +kernel
theorem dX8_cutWord_31 : decode mX8_cutWord.2.1 31 = .ok (.aload_n 0, 1) := by decide +kernel
theorem dX8_cutWord_32 : decode mX8_cutWord.2.1 32 = .ok (.dup, 1) := by decide +kernel
theorem dX8_cutWord_33 : decode mX8_cutWord.2.1 33 = .ok (.getfield 28, 3) := by decide +kernel
theorem dX8_cutWord_36 : decode mX8_cutWord.2.1 36 = .ok (.iconst 1, 1) := by decide +kernel
theorem dX8_cutWord_37 : decode mX8_cutWord.2.1 37 = .ok (.iadd, 1) := by decide +kernel
theorem dX8_cutWord_38 : decode mX8_cutWord.2.1 38 = .ok (.putfield 28, 3) := by decide +kernel
theorem dX8_cutWord_41 : decode mX8_cutWord.2.1 41 = .ok (.goto (-41), 3) := by decide +kernel
theorem dX8_cutWord_44 : decode mX8_cutWord.2.1 44 = .ok (.aload_n 0, 1) := by decide +kernel
theorem dX8_cutWord_45 : decode mX8_cutWord.2.1 45 = .ok (.ldc 69, 2) := by decide +kernel
theorem dX8_cutWord_47 : decode mX8_cutWord.2.1 47 = .ok (.invokevirtual 71, 3) := by decide +kernel
theorem dX8_cutWord_50 : decode mX8_cutWord.2.1 50 = .ok (.ifCond .eq 10, 3) := by decide +kernel
theorem dX8_cutWord_53 : decode mX8_cutWord.2.1 53 = .ok (.aload_n 0, 1) := by decide +kernel
theorem dX8_cutWord_54 : decode mX8_cutWord.2.1 54 = .ok (.iconst 5, 1) := by decide +kernel
theorem dX8_cutWord_55 : decode mX8_cutWord.2.1 55 = .ok (.iconst 0, 1) := by decide +kernel
theorem dX8_cutWord_56 : decode mX8_cutWord.2.1 56 = .ok (.invokevirtual 50, 3) := by decide +kernel
theorem dX8_cutWord_59 : decode mX8_cutWord.2.1 59 = .ok (.ireturn, 1) := by decide +kernel
theorem dX8_cutWord_60 : decode mX8_cutWord.2.1 60 = .ok (.aload_n 0, 1) := by decide +kernel
theorem dX8_cutWord_61 : decode mX8_cutWord.2.1 61 = .ok (.invokevirtual 75, 3) := by decide +kernel
theorem dX8_cutWord_64 : decode mX8_cutWord.2.1 64 = .ok (.istore_n 1, 1) := by decide +kernel
theorem dX8_cutWord_65 : decode mX8_cutWord.2.1 65 = .ok (.iload_n 1, 1) := by decide +kernel
theorem dX8_cutWord_66 : decode mX8_cutWord.2.1 66 = .ok (.iconst (-1), 1) := by decide +kernel
theorem dX8_cutWord_67 : decode mX8_cutWord.2.1 67 = .ok (.if_icmp .eq 10, 3) := by decide +kernel
theorem dX8_cutWord_70 : decode mX8_cutWord.2.1 70 = .ok (.aload_n 0, 1) := by decide +kernel
theorem dX8_cutWord_71 : decode mX8_cutWord.2.1 71 = .ok (.iconst 3, 1) := by decide +kernel
theorem dX8_cutWord_72 : decode mX8_cutWord.2.1 72 = .ok (.iload_n 1, 1) := by decide +kernel
theorem dX8_cutWord_73 : decode mX8_cutWord.2.1 73 = .ok (.invokevirtual 50, 3) := by decide +kernel
theorem dX8_cutWord_76 : decode mX8_cutWord.2.1 76 = .ok (.ireturn, 1) := by decide +kernel
theorem dX8_cutWord_77 : decode mX8_cutWord.2.1 77 = .ok (.aload_n 0, 1) := by decide +kernel
theorem dX8_cutWord_78 : decode mX8_cutWord.2.1 78 = .ok (.invokevirtual 78, 3) := by decide +kernel
theorem dX8_cutWord_81 : decode mX8_cutWord.2.1 81 = .ok (.istore_n 2, 1) := by decide +kernel
theorem dX8_cutWord_82 : decode mX8_cutWord.2.1 82 = .ok (.aload_n 0, 1) := by decide +kernel
theorem dX8_cutWord_83 : decode mX8_cutWord.2.1 83 = .ok (.iload_n 2, 1) := by decide +kernel
theorem dX8_cutWord_84 : decode mX8_cutWord.2.1 84 = .ok (.iconst (-1), 1) := by decide +kernel
theorem dX8_cutWord_85 : decode mX8_cutWord.2.1 85 = .ok (.if_icmp .ne 7, 3) := by decide +kernel
theorem dX8_cutWord_88 : decode mX8_cutWord.2.1 88 = .ok (.iconst 1, 1) := by decide +kernel
theorem dX8_cutWord_89 : decode mX8_cutWord.2.1 89 = .ok (.goto 4, 3) := by decide +kernel
theorem dX8_cutWord_92 : decode mX8_cutWord.2.1 92 = .ok (.iconst 4, 1) := by decide +kernel
theorem dX8_cutWord_93 : decode mX8_cutWord.2.1 93 = .ok (.iload_n 2, 1) := by decide +kernel
theorem dX8_cutWord_94 : decode mX8_cutWord.2.1 94 = .ok (.invokevirtual 50, 3) := by decide +kernel
theorem dX8_cutWord_97 : decode mX8_cutWord.2.1 97 = .ok (.ireturn, 1) := by decide +kernel
theorem dX8_init_0 : decode mX8_init.2.1 0 = .ok (.aload_n 0, 1) := by decide +kernel
theorem dX8_init_1 : decode mX8_init.2.1 1 = .ok (.invokespecial 3, 3) := by decide +kernel
theorem dX8_init_4 : decode mX8_init.2.1 4 = .ok (.aload_n 0, 1) := by decide +kernel
theorem dX8_init_5 : decode mX8_init.2.1 5 = .ok (.sipush 401, 3) := by decide +kernel
theorem dX8_init_8 : decode mX8_init.2.1 8 = .ok (.newarray .int, 2) := by decide +kernel
theorem dX8_init_10 : decode mX8_init.2.1 10 = .ok (.putfield 9, 3) := by decide +kernel
theorem dX8_init_13 : decode mX8_init.2.1 13 = .ok (.aload_n 0, 1) := by decide +kernel
theorem dX8_init_14 : decode mX8_init.2.1 14 = .ok (.sipush 401, 3) := by decide +kernel
theorem dX8_init_17 : decode mX8_init.2.1 17 = .ok (.newarray .int, 2) := by decide +kernel
theorem dX8_init_19 : decode mX8_init.2.1 19 = .ok (.putfield 15, 3) := by decide +kernel
theorem dX8_init_22 : decode mX8_init.2.1 22 = .ok (.aload_n 0, 1) := by decide +kernel
theorem dX8_init_23 : decode mX8_init.2.1 23 = .ok (.sipush 401, 3) := by decide +kernel
theorem dX8_init_26 : decode mX8_init.2.1 26 = .ok (.newarray .int, 2) := by decide +kernel
theorem dX8_init_28 : decode mX8_init.2.1 28 = .ok (.putfield 18, 3) := by decide +kernel
theorem dX8_init_31 : decode mX8_init.2.1 31 = .ok (.aload_n 0, 1) := by decide +kernel
theorem dX8_init_32 : decode mX8_init.2.1 32 = .ok (.iconst 0, 1) := by decide +kernel
theorem dX8_init_33 : decode mX8_init.2.1 33 = .ok (.putfield 21, 3) := by decide +kernel
theorem dX8_init_36 : decode mX8_init.2.1 36 = .ok (.aload_n 0, 1) := by decide +kernel
theorem dX8_init_37 : decode mX8_init.2.1 37 = .ok (.iconst 0, 1) := by decide +kernel
theorem dX8_init_38 : decode mX8_init.2.1 38 = .ok (.putfield 25, 3) := by decide +kernel
theorem dX8_init_41 : decode mX8_init.2.1 41 = .ok (.aload_n 0, 1) := by decide +kernel
theorem dX8_init_42 : decode mX8_init.2.1 42 = .ok (.iconst 0, 1) := by decide +kernel
theorem dX8_init_43 : decode mX8_init.2.1 43 = .ok (.putfield 28, 3) := by decide +kernel
theorem dX8_init_46 : decode mX8_init.2.1 46 = .ok (.aload_n 0, 1) := by decide +kernel
theorem dX8_init_47 : decode mX8_init.2.1 47 = .ok (.aload_n 1, 1) := by decide +kernel
theorem dX8_init_48 : decode mX8_init.2.1 48 = .ok (.putfield 31, 3) := by decide +kernel
theorem dX8_init_51 : decode mX8_init.2.1 51 = .ok (.return_, 1) := by decide +kernel
theorem dX8_isBlank_0 : decode mX8_isBlank.2.1 0 = .ok (.iload_n 0, 1) := by decide +kernel
theorem dX8_isBlank_1 : decode mX8_isBlank.2.1 1 = .ok (.bipush 32, 2) := by decide +kernel
theorem dX8_isBlank_3 : decode mX8_isBlank.2.1 3 = .ok (.if_icmp .eq 9, 3) := by decide +kernel
theorem dX8_isBlank_6 : decode mX8_isBlank.2.1 6 = .ok (.iload_n 0, 1) := by decide +kernel
theorem dX8_isBlank_7 : decode mX8_isBlank.2.1 7 = .ok (.bipush 10, 2) := by decide +kernel
theorem dX8_isBlank_9 : decode mX8_isBlank.2.1 9 = .ok (.if_icmp .ne 7, 3) := by decide +kernel
theorem dX8_isBlank_12 : decode mX8_isBlank.2.1 12 = .ok (.iconst 1, 1) := by decide +kernel
theorem dX8_isBlank_13 : decode mX8_isBlank.2.1 13 = .ok (.goto 4, 3) := by decide +kernel
theorem dX8_isBlank_16 : decode mX8_isBlank.2.1 16 = .ok (.iconst 0, 1) := by decide +kernel
theorem dX8_isBlank_17 : decode mX8_isBlank.2.1 17 = .ok (.ireturn, 1) := by decide +kernel
theorem dX8_isDigit_0 : decode mX8_isDigit.2.1 0 = .ok (.iload_n 0, 1) := by decide +kernel
theorem dX8_isDigit_1 : decode mX8_isDigit.2.1 1 = .ok (.bipush 48, 2) := by decide +kernel
theorem dX8_isDigit_3 : decode mX8_isDigit.2.1 3 = .ok (.if_icmp .lt 13, 3) := by decide +kernel
theorem dX8_isDigit_6 : decode mX8_isDigit.2.1 6 = .ok (.iload_n 0, 1) := by decide +kernel
theorem dX8_isDigit_7 : decode mX8_isDigit.2.1 7 = .ok (.bipush 57, 2) := by decide +kernel
theorem dX8_isDigit_9 : decode mX8_isDigit.2.1 9 = .ok (.if_icmp .gt 7, 3) := by decide +kernel
theorem dX8_isDigit_12 : decode mX8_isDigit.2.1 12 = .ok (.iconst 1, 1) := by decide +kernel
theorem dX8_isDigit_13 : decode mX8_isDigit.2.1 13 = .ok (.goto 4, 3) := by decide +kernel
theorem dX8_isDigit_16 : decode mX8_isDigit.2.1 16 = .ok (.iconst 0, 1) := by decide +kernel
theorem dX8_isDigit_17 : decode mX8_isDigit.2.1 17 = .ok (.ireturn, 1) := by decide +kernel
theorem dX8_isLetter_0 : decode mX8_isLetter.2.1 0 = .ok (.iload_n 0, 1) := by decide +kernel
theorem dX8_isLetter_1 : decode mX8_isLetter.2.1 1 = .ok (.bipush 97, 2) := by decide +kernel
theorem dX8_isLetter_3 : decode mX8_isLetter.2.1 3 = .ok (.if_icmp .lt 13, 3) := by decide +kernel
theorem dX8_isLetter_6 : decode mX8_isLetter.2.1 6 = .ok (.iload_n 0, 1) := by decide +kernel
theorem dX8_isLetter_7 : decode mX8_isLetter.2.1 7 = .ok (.bipush 122, 2) := by decide +kernel
theorem dX8_isLetter_9 : decode mX8_isLetter.2.1 9 = .ok (.if_icmp .gt 7, 3) := by decide +kernel
theorem dX8_isLetter_12 : decode mX8_isLetter.2.1 12 = .ok (.iconst 1, 1) := by decide +kernel
theorem dX8_isLetter_13 : decode mX8_isLetter.2.1 13 = .ok (.goto 4, 3) := by decide +kernel
theorem dX8_isLetter_16 : decode mX8_isLetter.2.1 16 = .ok (.iconst 0, 1) := by decide +kernel
theorem dX8_isLetter_17 : decode mX8_isLetter.2.1 17 = .ok (.ireturn, 1) := by decide +kernel
theorem dX8_kindSpelt_0 : decode mX8_kindSpelt.2.1 0 = .ok (.aload_n 0, 1) := by decide +kernel
theorem dX8_kindSpelt_1 : decode mX8_kindSpelt.2.1 1 = .ok (.ldc 81, 2) := by decide +kernel
theorem dX8_kindSpelt_3 : decode mX8_kindSpelt.2.1 3 = .ok (.invokevirtual 71, 3) := by decide +kernel
theorem dX8_kindSpelt_6 : decode mX8_kindSpelt.2.1 6 = .ok (.ifCond .eq 7, 3) := by decide +kernel
theorem dX8_kindSpelt_9 : decode mX8_kindSpelt.2.1 9 = .ok (.iconst 0, 1) := by decide +kernel
theorem dX8_kindSpelt_10 : decode mX8_kindSpelt.2.1 10 = .ok (.goto 43, 3) := by decide +kernel
theorem dX8_kindSpelt_13 : decode mX8_kindSpelt.2.1 13 = .ok (.aload_n 0, 1) := by decide +kernel
theorem dX8_kindSpelt_14 : decode mX8_kindSpelt.2.1 14 = .ok (.ldc 83, 2) := by decide +kernel
theorem dX8_kindSpelt_16 : decode mX8_kindSpelt.2.1 16 = .ok (.invokevirtual 71, 3) := by decide +kernel
theorem dX8_kindSpelt_19 : decode mX8_kindSpelt.2.1 19 = .ok (.ifCond .eq 7, 3) := by decide +kernel
theorem dX8_kindSpelt_22 : decode mX8_kindSpelt.2.1 22 = .ok (.iconst 1, 1) := by decide +kernel
theorem dX8_kindSpelt_23 : decode mX8_kindSpelt.2.1 23 = .ok (.goto 30, 3) := by decide +kernel
theorem dX8_kindSpelt_26 : decode mX8_kindSpelt.2.1 26 = .ok (.aload_n 0, 1) := by decide +kernel
theorem dX8_kindSpelt_27 : decode mX8_kindSpelt.2.1 27 = .ok (.ldc 85, 2) := by decide +kernel
theorem dX8_kindSpelt_29 : decode mX8_kindSpelt.2.1 29 = .ok (.invokevirtual 71, 3) := by decide +kernel
theorem dX8_kindSpelt_32 : decode mX8_kindSpelt.2.1 32 = .ok (.ifCond .eq 7, 3) := by decide +kernel
theorem dX8_kindSpelt_35 : decode mX8_kindSpelt.2.1 35 = .ok (.iconst 2, 1) := by decide +kernel
theorem dX8_kindSpelt_36 : decode mX8_kindSpelt.2.1 36 = .ok (.goto 17, 3) := by decide +kernel
theorem dX8_kindSpelt_39 : decode mX8_kindSpelt.2.1 39 = .ok (.aload_n 0, 1) := by decide +kernel
theorem dX8_kindSpelt_40 : decode mX8_kindSpelt.2.1 40 = .ok (.ldc 87, 2) := by decide +kernel
theorem dX8_kindSpelt_42 : decode mX8_kindSpelt.2.1 42 = .ok (.invokevirtual 71, 3) := by decide +kernel
theorem dX8_kindSpelt_45 : decode mX8_kindSpelt.2.1 45 = .ok (.ifCond .eq 7, 3) := by decide +kernel
theorem dX8_kindSpelt_48 : decode mX8_kindSpelt.2.1 48 = .ok (.iconst 3, 1) := by decide +kernel
theorem dX8_kindSpelt_49 : decode mX8_kindSpelt.2.1 49 = .ok (.goto 4, 3) := by decide +kernel
theorem dX8_kindSpelt_52 : decode mX8_kindSpelt.2.1 52 = .ok (.iconst (-1), 1) := by decide +kernel
theorem dX8_kindSpelt_53 : decode mX8_kindSpelt.2.1 53 = .ok (.ireturn, 1) := by decide +kernel
theorem dX8_measureSpelt_0 : decode mX8_measureSpelt.2.1 0 = .ok (.aload_n 0, 1) := by decide +kernel
theorem dX8_measureSpelt_1 : decode mX8_measureSpelt.2.1 1 = .ok (.ldc 89, 2) := by decide +kernel
theorem dX8_measureSpelt_3 : decode mX8_measureSpelt.2.1 3 = .ok (.invokevirtual 71, 3) := by decide +kernel
theorem dX8_measureSpelt_6 : decode mX8_measureSpelt.2.1 6 = .ok (.ifCond .eq 7, 3) := by decide +kernel
theorem dX8_measureSpelt_9 : decode mX8_measureSpelt.2.1 9 = .ok (.iconst 0, 1) := by decide +kernel
theorem dX8_measureSpelt_10 : decode mX8_measureSpelt.2.1 10 = .ok (.goto 30, 3) := by decide +kernel
theorem dX8_measureSpelt_13 : decode mX8_measureSpelt.2.1 13 = .ok (.aload_n 0, 1) := by decide +kernel
theorem dX8_measureSpelt_14 : decode mX8_measureSpelt.2.1 14 = .ok (.ldc 91, 2) := by decide +kernel
theorem dX8_measureSpelt_16 : decode mX8_measureSpelt.2.1 16 = .ok (.invokevirtual 71, 3) := by decide +kernel
theorem dX8_measureSpelt_19 : decode mX8_measureSpelt.2.1 19 = .ok (.ifCond .eq 7, 3) := by decide +kernel
theorem dX8_measureSpelt_22 : decode mX8_measureSpelt.2.1 22 = .ok (.iconst 1, 1) := by decide +kernel
theorem dX8_measureSpelt_23 : decode mX8_measureSpelt.2.1 23 = .ok (.goto 17, 3) := by decide +kernel
theorem dX8_measureSpelt_26 : decode mX8_measureSpelt.2.1 26 = .ok (.aload_n 0, 1) := by decide +kernel
theorem dX8_measureSpelt_27 : decode mX8_measureSpelt.2.1 27 = .ok (.ldc 93, 2) := by decide +kernel
theorem dX8_measureSpelt_29 : decode mX8_measureSpelt.2.1 29 = .ok (.invokevirtual 71, 3) := by decide +kernel
theorem dX8_measureSpelt_32 : decode mX8_measureSpelt.2.1 32 = .ok (.ifCond .eq 7, 3) := by decide +kernel
theorem dX8_measureSpelt_35 : decode mX8_measureSpelt.2.1 35 = .ok (.iconst 2, 1) := by decide +kernel
theorem dX8_measureSpelt_36 : decode mX8_measureSpelt.2.1 36 = .ok (.goto 4, 3) := by decide +kernel
theorem dX8_measureSpelt_39 : decode mX8_measureSpelt.2.1 39 = .ok (.iconst (-1), 1) := by decide +kernel
theorem dX8_measureSpelt_40 : decode mX8_measureSpelt.2.1 40 = .ok (.ireturn, 1) := by decide +kernel
theorem dX8_signType_0 : decode mX8_signType.2.1 0 = .ok (.iload_n 0, 1) := by decide +kernel
theorem dX8_signType_1 : decode mX8_signType.2.1 1 = .ok (.tableswitch 99 45 62 #[96, 99, 99, 99, 99, 99, 99, 99, 99, 99, 99, 99, 99, 90, 93, 87, 87, 87], 87) := by decide +kernel
theorem dX8_signType_88 : decode mX8_signType.2.1 88 = .ok (.bipush 6, 2) := by decide +kernel
theorem dX8_signType_90 : decode mX8_signType.2.1 90 = .ok (.ireturn, 1) := by decide +kernel
theorem dX8_signType_91 : decode mX8_signType.2.1 91 = .ok (.bipush 7, 2) := by decide +kernel
theorem dX8_signType_93 : decode mX8_signType.2.1 93 = .ok (.ireturn, 1) := by decide +kernel
theorem dX8_signType_94 : decode mX8_signType.2.1 94 = .ok (.bipush 8, 2) := by decide +kernel
theorem dX8_signType_96 : decode mX8_signType.2.1 96 = .ok (.ireturn, 1) := by decide +kernel
theorem dX8_signType_97 : decode mX8_signType.2.1 97 = .ok (.bipush 9, 2) := by decide +kernel
theorem dX8_signType_99 : decode mX8_signType.2.1 99 = .ok (.ireturn, 1) := by decide +kernel
theorem dX8_signType_100 : decode mX8_signType.2.1 100 = .ok (.iconst 1, 1) := by decide +kernel
theorem dX8_signType_101 : decode mX8_signType.2.1 101 = .ok (.ireturn, 1) := by decide +kernel
theorem dX8_spells_0 : decode mX8_spells.2.1 0 = .ok (.aload_n 0, 1) := by decide +kernel
theorem dX8_spells_1 : decode mX8_spells.2.1 1 = .ok (.getfield 28, 3) := by decide +kernel
theorem dX8_spells_4 : decode mX8_spells.2.1 4 = .ok (.aload_n 0, 1) := by decide +kernel
theorem dX8_spells_5 : decode mX8_spells.2.1 5 = .ok (.getfield 25, 3) := by decide +kernel
theorem dX8_spells_8 : decode mX8_spells.2.1 8 = .ok (.isub, 1) := by decide +kernel
theorem dX8_spells_9 : decode mX8_spells.2.1 9 = .ok (.aload_n 1, 1) := by decide +kernel
theorem dX8_spells_10 : decode mX8_spells.2.1 10 = .ok (.invokevirtual 95, 3) := by decide +kernel
theorem dX8_spells_13 : decode mX8_spells.2.1 13 = .ok (.if_icmp .eq 5, 3) := by decide +kernel
theorem dX8_spells_16 : decode mX8_spells.2.1 16 = .ok (.iconst 0, 1) := by decide +kernel
theorem dX8_spells_17 : decode mX8_spells.2.1 17 = .ok (.ireturn, 1) := by decide +kernel
theorem dX8_spells_18 : decode mX8_spells.2.1 18 = .ok (.iconst 0, 1) := by decide +kernel
theorem dX8_spells_19 : decode mX8_spells.2.1 19 = .ok (.istore_n 2, 1) := by decide +kernel
theorem dX8_spells_20 : decode mX8_spells.2.1 20 = .ok (.iload_n 2, 1) := by decide +kernel
theorem dX8_spells_21 : decode mX8_spells.2.1 21 = .ok (.aload_n 1, 1) := by decide +kernel
theorem dX8_spells_22 : decode mX8_spells.2.1 22 = .ok (.invokevirtual 95, 3) := by decide +kernel
theorem dX8_spells_25 : decode mX8_spells.2.1 25 = .ok (.if_icmp .ge 32, 3) := by decide +kernel
theorem dX8_spells_28 : decode mX8_spells.2.1 28 = .ok (.aload_n 0, 1) := by decide +kernel
theorem dX8_spells_29 : decode mX8_spells.2.1 29 = .ok (.getfield 31, 3) := by decide +kernel
theorem dX8_spells_32 : decode mX8_spells.2.1 32 = .ok (.aload_n 0, 1) := by decide +kernel
theorem dX8_spells_33 : decode mX8_spells.2.1 33 = .ok (.getfield 25, 3) := by decide +kernel
theorem dX8_spells_36 : decode mX8_spells.2.1 36 = .ok (.iload_n 2, 1) := by decide +kernel
theorem dX8_spells_37 : decode mX8_spells.2.1 37 = .ok (.iadd, 1) := by decide +kernel
theorem dX8_spells_38 : decode mX8_spells.2.1 38 = .ok (.invokevirtual 42, 3) := by decide +kernel
theorem dX8_spells_41 : decode mX8_spells.2.1 41 = .ok (.aload_n 1, 1) := by decide +kernel
theorem dX8_spells_42 : decode mX8_spells.2.1 42 = .ok (.iload_n 2, 1) := by decide +kernel
theorem dX8_spells_43 : decode mX8_spells.2.1 43 = .ok (.invokevirtual 100, 3) := by decide +kernel
theorem dX8_spells_46 : decode mX8_spells.2.1 46 = .ok (.if_icmp .eq 5, 3) := by decide +kernel
theorem dX8_spells_49 : decode mX8_spells.2.1 49 = .ok (.iconst 0, 1) := by decide +kernel
theorem dX8_spells_50 : decode mX8_spells.2.1 50 = .ok (.ireturn, 1) := by decide +kernel
theorem dX8_spells_51 : decode mX8_spells.2.1 51 = .ok (.iinc 2 1, 3) := by decide +kernel
theorem dX8_spells_54 : decode mX8_spells.2.1 54 = .ok (.goto (-34), 3) := by decide +kernel
theorem dX8_spells_57 : decode mX8_spells.2.1 57 = .ok (.iconst 1, 1) := by decide +kernel
theorem dX8_spells_58 : decode mX8_spells.2.1 58 = .ok (.ireturn, 1) := by decide +kernel
theorem dX9_arrive_0 : decode mX9_arrive.2.1 0 = .ok (.aload_n 0, 1) := by decide +kernel
theorem dX9_arrive_1 : decode mX9_arrive.2.1 1 = .ok (.aload_n 0, 1) := by decide +kernel
theorem dX9_arrive_2 : decode mX9_arrive.2.1 2 = .ok (.getfield 21, 3) := by decide +kernel
theorem dX9_arrive_5 : decode mX9_arrive.2.1 5 = .ok (.ifCond .eq 12, 3) := by decide +kernel
theorem dX9_arrive_8 : decode mX9_arrive.2.1 8 = .ok (.aload_n 0, 1) := by decide +kernel
theorem dX9_arrive_9 : decode mX9_arrive.2.1 9 = .ok (.getfield 17, 3) := by decide +kernel
theorem dX9_arrive_12 : decode mX9_arrive.2.1 12 = .ok (.iconst 1, 1) := by decide +kernel
theorem dX9_arrive_13 : decode mX9_arrive.2.1 13 = .ok (.iadd, 1) := by decide +kernel
theorem dX9_arrive_14 : decode mX9_arrive.2.1 14 = .ok (.goto 7, 3) := by decide +kernel
theorem dX9_arrive_17 : decode mX9_arrive.2.1 17 = .ok (.aload_n 0, 1) := by decide +kernel
theorem dX9_arrive_18 : decode mX9_arrive.2.1 18 = .ok (.getfield 17, 3) := by decide +kernel
theorem dX9_arrive_21 : decode mX9_arrive.2.1 21 = .ok (.putfield 31, 3) := by decide +kernel
theorem dX9_arrive_24 : decode mX9_arrive.2.1 24 = .ok (.aload_n 0, 1) := by decide +kernel
theorem dX9_arrive_25 : decode mX9_arrive.2.1 25 = .ok (.iconst (-1), 1) := by decide +kernel
theorem dX9_arrive_26 : decode mX9_arrive.2.1 26 = .ok (.putfield 17, 3) := by decide +kernel
theorem dX9_arrive_29 : decode mX9_arrive.2.1 29 = .ok (.aload_n 0, 1) := by decide +kernel
theorem dX9_arrive_30 : decode mX9_arrive.2.1 30 = .ok (.iconst (-1), 1) := by decide +kernel
theorem dX9_arrive_31 : decode mX9_arrive.2.1 31 = .ok (.putfield 25, 3) := by decide +kernel
theorem dX9_arrive_34 : decode mX9_arrive.2.1 34 = .ok (.return_, 1) := by decide +kernel
theorem dX9_goThrough_0 : decode mX9_goThrough.2.1 0 = .ok (.aload_n 0, 1) := by decide +kernel
theorem dX9_goThrough_1 : decode mX9_goThrough.2.1 1 = .ok (.getfield 17, 3) := by decide +kernel
theorem dX9_goThrough_4 : decode mX9_goThrough.2.1 4 = .ok (.iconst (-1), 1) := by decide +kernel
theorem dX9_goThrough_5 : decode mX9_goThrough.2.1 5 = .ok (.if_icmp .ne 7, 3) := by decide +kernel
theorem dX9_goThrough_8 : decode mX9_goThrough.2.1 8 = .ok (.iconst 1, 1) := by decide +kernel
theorem dX9_goThrough_9 : decode mX9_goThrough.2.1 9 = .ok (.goto 4, 3) := by decide +kernel
theorem dX9_goThrough_12 : decode mX9_goThrough.2.1 12 = .ok (.iconst 0, 1) := by decide +kernel
theorem dX9_goThrough_13 : decode mX9_goThrough.2.1 13 = .ok (.istore_n 3, 1) := by decide +kernel
theorem dX9_goThrough_14 : decode mX9_goThrough.2.1 14 = .ok (.iconst 0, 1) := by decide +kernel
theorem dX9_goThrough_15 : decode mX9_goThrough.2.1 15 = .ok (.istore 4, 2) := by decide +kernel
theorem dX9_goThrough_17 : decode mX9_goThrough.2.1 17 = .ok (.iload 4, 2) := by decide +kernel
theorem dX9_goThrough_19 : decode mX9_goThrough.2.1 19 = .ok (.iconst 3, 1) := by decide +kernel
theorem dX9_goThrough_20 : decode mX9_goThrough.2.1 20 = .ok (.if_icmp .ge 38, 3) := by decide +kernel
theorem dX9_goThrough_23 : decode mX9_goThrough.2.1 23 = .ok (.iload_n 3, 1) := by decide +kernel
theorem dX9_goThrough_24 : decode mX9_goThrough.2.1 24 = .ok (.ifCond .eq 16, 3) := by decide +kernel
theorem dX9_goThrough_27 : decode mX9_goThrough.2.1 27 = .ok (.aload_n 0, 1) := by decide +kernel
theorem dX9_goThrough_28 : decode mX9_goThrough.2.1 28 = .ok (.getfield 11, 3) := by decide +kernel
theorem dX9_goThrough_31 : decode mX9_goThrough.2.1 31 = .ok (.iload 4, 2) := by decide +kernel
theorem dX9_goThrough_33 : decode mX9_goThrough.2.1 33 = .ok (.aaload, 1) := by decide +kernel
theorem dX9_goThrough_34 : decode mX9_goThrough.2.1 34 = .ok (.invokevirtual 41, 3) := by decide +kernel
theorem dX9_goThrough_37 : decode mX9_goThrough.2.1 37 = .ok (.goto 15, 3) := by decide +kernel
theorem dX9_goThrough_40 : decode mX9_goThrough.2.1 40 = .ok (.aload_n 0, 1) := by decide +kernel
theorem dX9_goThrough_41 : decode mX9_goThrough.2.1 41 = .ok (.getfield 11, 3) := by decide +kernel
theorem dX9_goThrough_44 : decode mX9_goThrough.2.1 44 = .ok (.iload 4, 2) := by decide +kernel
theorem dX9_goThrough_46 : decode mX9_goThrough.2.1 46 = .ok (.aaload, 1) := by decide +kernel
theorem dX9_goThrough_47 : decode mX9_goThrough.2.1 47 = .ok (.iload_n 2, 1) := by decide +kernel
theorem dX9_goThrough_48 : decode mX9_goThrough.2.1 48 = .ok (.iload_n 1, 1) := by decide +kernel
theorem dX9_goThrough_49 : decode mX9_goThrough.2.1 49 = .ok (.invokevirtual 44, 3) := by decide +kernel
theorem dX9_goThrough_52 : decode mX9_goThrough.2.1 52 = .ok (.iinc 4 1, 3) := by decide +kernel
theorem dX9_goThrough_55 : decode mX9_goThrough.2.1 55 = .ok (.goto (-38), 3) := by decide +kernel
theorem dX9_goThrough_58 : decode mX9_goThrough.2.1 58 = .ok (.iload_n 3, 1) := by decide +kernel
theorem dX9_goThrough_59 : decode mX9_goThrough.2.1 59 = .ok (.ifCond .ne 17, 3) := by decide +kernel
theorem dX9_goThrough_62 : decode mX9_goThrough.2.1 62 = .ok (.aload_n 0, 1) := by decide +kernel
theorem dX9_goThrough_63 : decode mX9_goThrough.2.1 63 = .ok (.getfield 25, 3) := by decide +kernel
theorem dX9_goThrough_66 : decode mX9_goThrough.2.1 66 = .ok (.iload_n 1, 1) := by decide +kernel
theorem dX9_goThrough_67 : decode mX9_goThrough.2.1 67 = .ok (.iconst 1, 1) := by decide +kernel
theorem dX9_goThrough_68 : decode mX9_goThrough.2.1 68 = .ok (.iadd, 1) := by decide +kernel
theorem dX9_goThrough_69 : decode mX9_goThrough.2.1 69 = .ok (.if_icmp .ne 7, 3) := by decide +kernel
theorem dX9_goThrough_72 : decode mX9_goThrough.2.1 72 = .ok (.aload_n 0, 1) := by decide +kernel
theorem dX9_goThrough_73 : decode mX9_goThrough.2.1 73 = .ok (.invokevirtual 48, 3) := by decide +kernel
theorem dX9_goThrough_76 : decode mX9_goThrough.2.1 76 = .ok (.return_, 1) := by decide +kernel
theorem dX9_init_0 : decode mX9_init.2.1 0 = .ok (.aload_n 0, 1) := by decide +kernel
theorem dX9_init_1 : decode mX9_init.2.1 1 = .ok (.invokespecial 3, 3) := by decide +kernel
theorem dX9_init_4 : decode mX9_init.2.1 4 = .ok (.aload_n 0, 1) := by decide +kernel
theorem dX9_init_5 : decode mX9_init.2.1 5 = .ok (.iconst 3, 1) := by decide +kernel
theorem dX9_init_6 : decode mX9_init.2.1 6 = .ok (.anewarray 9, 3) := by decide +kernel
theorem dX9_init_9 : decode mX9_init.2.1 9 = .ok (.putfield 11, 3) := by decide +kernel
theorem dX9_init_12 : decode mX9_init.2.1 12 = .ok (.aload_n 0, 1) := by decide +kernel
theorem dX9_init_13 : decode mX9_init.2.1 13 = .ok (.iconst (-1), 1) := by decide +kernel
theorem dX9_init_14 : decode mX9_init.2.1 14 = .ok (.putfield 17, 3) := by decide +kernel
theorem dX9_init_17 : decode mX9_init.2.1 17 = .ok (.aload_n 0, 1) := by decide +kernel
theorem dX9_init_18 : decode mX9_init.2.1 18 = .ok (.iconst 0, 1) := by decide +kernel
theorem dX9_init_19 : decode mX9_init.2.1 19 = .ok (.putfield 21, 3) := by decide +kernel
theorem dX9_init_22 : decode mX9_init.2.1 22 = .ok (.aload_n 0, 1) := by decide +kernel
theorem dX9_init_23 : decode mX9_init.2.1 23 = .ok (.iconst (-1), 1) := by decide +kernel
theorem dX9_init_24 : decode mX9_init.2.1 24 = .ok (.putfield 25, 3) := by decide +kernel
theorem dX9_init_27 : decode mX9_init.2.1 27 = .ok (.aload_n 0, 1) := by decide +kernel
theorem dX9_init_28 : decode mX9_init.2.1 28 = .ok (.iconst 0, 1) := by decide +kernel
theorem dX9_init_29 : decode mX9_init.2.1 29 = .ok (.putfield 28, 3) := by decide +kernel
theorem dX9_init_32 : decode mX9_init.2.1 32 = .ok (.aload_n 0, 1) := by decide +kernel
theorem dX9_init_33 : decode mX9_init.2.1 33 = .ok (.iload_n 1, 1) := by decide +kernel
theorem dX9_init_34 : decode mX9_init.2.1 34 = .ok (.putfield 31, 3) := by decide +kernel
theorem dX9_init_37 : decode mX9_init.2.1 37 = .ok (.aload_n 0, 1) := by decide +kernel
theorem dX9_init_38 : decode mX9_init.2.1 38 = .ok (.getfield 11, 3) := by decide +kernel
theorem dX9_init_41 : decode mX9_init.2.1 41 = .ok (.iconst 0, 1) := by decide +kernel
theorem dX9_init_42 : decode mX9_init.2.1 42 = .ok (.new 9, 3) := by decide +kernel
theorem dX9_init_45 : decode mX9_init.2.1 45 = .ok (.dup, 1) := by decide +kernel
theorem dX9_init_46 : decode mX9_init.2.1 46 = .ok (.iload_n 2, 1) := by decide +kernel
theorem dX9_init_47 : decode mX9_init.2.1 47 = .ok (.invokespecial 34, 3) := by decide +kernel
theorem dX9_init_50 : decode mX9_init.2.1 50 = .ok (.aastore, 1) := by decide +kernel
theorem dX9_init_51 : decode mX9_init.2.1 51 = .ok (.aload_n 0, 1) := by decide +kernel
theorem dX9_init_52 : decode mX9_init.2.1 52 = .ok (.getfield 11, 3) := by decide +kernel
theorem dX9_init_55 : decode mX9_init.2.1 55 = .ok (.iconst 1, 1) := by decide +kernel
theorem dX9_init_56 : decode mX9_init.2.1 56 = .ok (.new 9, 3) := by decide +kernel
theorem dX9_init_59 : decode mX9_init.2.1 59 = .ok (.dup, 1) := by decide +kernel
theorem dX9_init_60 : decode mX9_init.2.1 60 = .ok (.iload_n 3, 1) := by decide +kernel
theorem dX9_init_61 : decode mX9_init.2.1 61 = .ok (.invokespecial 34, 3) := by decide +kernel
theorem dX9_init_64 : decode mX9_init.2.1 64 = .ok (.aastore, 1) := by decide +kernel
theorem dX9_init_65 : decode mX9_init.2.1 65 = .ok (.aload_n 0, 1) := by decide +kernel
theorem dX9_init_66 : decode mX9_init.2.1 66 = .ok (.getfield 11, 3) := by decide +kernel
theorem dX9_init_69 : decode mX9_init.2.1 69 = .ok (.iconst 2, 1) := by decide +kernel
theorem dX9_init_70 : decode mX9_init.2.1 70 = .ok (.new 9, 3) := by decide +kernel
theorem dX9_init_73 : decode mX9_init.2.1 73 = .ok (.dup, 1) := by decide +kernel
theorem dX9_init_74 : decode mX9_init.2.1 74 = .ok (.iload 4, 2) := by decide +kernel
theorem dX9_init_76 : decode mX9_init.2.1 76 = .ok (.invokespecial 34, 3) := by decide +kernel
theorem dX9_init_79 : decode mX9_init.2.1 79 = .ok (.aastore, 1) := by decide +kernel
theorem dX9_init_80 : decode mX9_init.2.1 80 = .ok (.return_, 1) := by decide +kernel
theorem dX9_isFit_0 : decode mX9_isFit.2.1 0 = .ok (.iconst 0, 1) := by decide +kernel
theorem dX9_isFit_1 : decode mX9_isFit.2.1 1 = .ok (.istore_n 1, 1) := by decide +kernel
theorem dX9_isFit_2 : decode mX9_isFit.2.1 2 = .ok (.iload_n 1, 1) := by decide +kernel
theorem dX9_isFit_3 : decode mX9_isFit.2.1 3 = .ok (.iconst 3, 1) := by decide +kernel
theorem dX9_isFit_4 : decode mX9_isFit.2.1 4 = .ok (.if_icmp .ge 23, 3) := by decide +kernel
theorem dX9_isFit_7 : decode mX9_isFit.2.1 7 = .ok (.aload_n 0, 1) := by decide +kernel
theorem dX9_isFit_8 : decode mX9_isFit.2.1 8 = .ok (.getfield 11, 3) := by decide +kernel
theorem dX9_isFit_11 : decode mX9_isFit.2.1 11 = .ok (.iload_n 1, 1) := by decide +kernel
theorem dX9_isFit_12 : decode mX9_isFit.2.1 12 = .ok (.aaload, 1) := by decide +kernel
theorem dX9_isFit_13 : decode mX9_isFit.2.1 13 = .ok (.invokevirtual 37, 3) := by decide +kernel
theorem dX9_isFit_16 : decode mX9_isFit.2.1 16 = .ok (.ifCond .ne 5, 3) := by decide +kernel
theorem dX9_isFit_19 : decode mX9_isFit.2.1 19 = .ok (.iconst 0, 1) := by decide +kernel
theorem dX9_isFit_20 : decode mX9_isFit.2.1 20 = .ok (.ireturn, 1) := by decide +kernel
theorem dX9_isFit_21 : decode mX9_isFit.2.1 21 = .ok (.iinc 1 1, 3) := by decide +kernel
theorem dX9_isFit_24 : decode mX9_isFit.2.1 24 = .ok (.goto (-22), 3) := by decide +kernel
theorem dX9_isFit_27 : decode mX9_isFit.2.1 27 = .ok (.iconst 1, 1) := by decide +kernel
theorem dX9_isFit_28 : decode mX9_isFit.2.1 28 = .ok (.ireturn, 1) := by decide +kernel
theorem dX9_leave_0 : decode mX9_leave.2.1 0 = .ok (.aload_n 0, 1) := by decide +kernel
theorem dX9_leave_1 : decode mX9_leave.2.1 1 = .ok (.iconst (-1), 1) := by decide +kernel
theorem dX9_leave_2 : decode mX9_leave.2.1 2 = .ok (.putfield 31, 3) := by decide +kernel
theorem dX9_leave_5 : decode mX9_leave.2.1 5 = .ok (.aload_n 0, 1) := by decide +kernel
theorem dX9_leave_6 : decode mX9_leave.2.1 6 = .ok (.iload_n 1, 1) := by decide +kernel
theorem dX9_leave_7 : decode mX9_leave.2.1 7 = .ok (.putfield 17, 3) := by decide +kernel
theorem dX9_leave_10 : decode mX9_leave.2.1 10 = .ok (.aload_n 0, 1) := by decide +kernel
theorem dX9_leave_11 : decode mX9_leave.2.1 11 = .ok (.iload_n 2, 1) := by decide +kernel
theorem dX9_leave_12 : decode mX9_leave.2.1 12 = .ok (.putfield 21, 3) := by decide +kernel
theorem dX9_leave_15 : decode mX9_leave.2.1 15 = .ok (.aload_n 0, 1) := by decide +kernel
theorem dX9_leave_16 : decode mX9_leave.2.1 16 = .ok (.iload_n 3, 1) := by decide +kernel
theorem dX9_leave_17 : decode mX9_leave.2.1 17 = .ok (.putfield 25, 3) := by decide +kernel
theorem dX9_leave_20 : decode mX9_leave.2.1 20 = .ok (.return_, 1) := by decide +kernel
theorem dX9_muleAt_0 : decode mX9_muleAt.2.1 0 = .ok (.iload_n 1, 1) := by decide +kernel
theorem dX9_muleAt_1 : decode mX9_muleAt.2.1 1 = .ok (.ifCond .lt 8, 3) := by decide +kernel
theorem dX9_muleAt_4 : decode mX9_muleAt.2.1 4 = .ok (.iload_n 1, 1) := by decide +kernel
theorem dX9_muleAt_5 : decode mX9_muleAt.2.1 5 = .ok (.iconst 3, 1) := by decide +kernel
theorem dX9_muleAt_6 : decode mX9_muleAt.2.1 6 = .ok (.if_icmp .lt 7, 3) := by decide +kernel
theorem dX9_muleAt_9 : decode mX9_muleAt.2.1 9 = .ok (.aconst_null, 1) := by decide +kernel
theorem dX9_muleAt_10 : decode mX9_muleAt.2.1 10 = .ok (.goto 9, 3) := by decide +kernel
theorem dX9_muleAt_13 : decode mX9_muleAt.2.1 13 = .ok (.aload_n 0, 1) := by decide +kernel
theorem dX9_muleAt_14 : decode mX9_muleAt.2.1 14 = .ok (.getfield 11, 3) := by decide +kernel
theorem dX9_muleAt_17 : decode mX9_muleAt.2.1 17 = .ok (.iload_n 1, 1) := by decide +kernel
theorem dX9_muleAt_18 : decode mX9_muleAt.2.1 18 = .ok (.aaload, 1) := by decide +kernel
theorem dX9_muleAt_19 : decode mX9_muleAt.2.1 19 = .ok (.areturn, 1) := by decide +kernel
