theorem dX0_init_0 : decode cX0_init 0 = .ok (.aload_n 0, 1) := by decide +kernel
theorem dX0_init_1 : decode cX0_init 1 = .ok (.invokespecial 3, 3) := by decide +kernel
theorem dX0_init_4 : decode cX0_init 4 = .ok (.aload_n 0, 1) := by decide +kernel
theorem dX0_init_5 : decode cX0_init 5 = .ok (.sipush 6400, 3) := by decide +kernel
theorem dX0_init_8 : decode cX0_init 8 = .ok (.newarray .int, 2) := by decide +kernel
theorem dX0_init_10 : decode cX0_init 10 = .ok (.putfield 9, 3) := by decide +kernel
theorem dX0_init_13 : decode cX0_init 13 = .ok (.aload_n 0, 1) := by decide +kernel
theorem dX0_init_14 : decode cX0_init 14 = .ok (.sipush 2304, 3) := by decide +kernel
theorem dX0_init_17 : decode cX0_init 17 = .ok (.newarray .int, 2) := by decide +kernel
theorem dX0_init_19 : decode cX0_init 19 = .ok (.putfield 15, 3) := by decide +kernel
theorem dX0_init_22 : decode cX0_init 22 = .ok (.aload_n 0, 1) := by decide +kernel
theorem dX0_init_23 : decode cX0_init 23 = .ok (.sipush 2304, 3) := by decide +kernel
theorem dX0_init_26 : decode cX0_init 26 = .ok (.newarray .int, 2) := by decide +kernel
theorem dX0_init_28 : decode cX0_init 28 = .ok (.putfield 18, 3) := by decide +kernel
theorem dX0_init_31 : decode cX0_init 31 = .ok (.aload_n 0, 1) := by decide +kernel
theorem dX0_init_32 : decode cX0_init 32 = .ok (.bipush 9, 2) := by decide +kernel
theorem dX0_init_34 : decode cX0_init 34 = .ok (.newarray .int, 2) := by decide +kernel
theorem dX0_init_36 : decode cX0_init 36 = .ok (.putfield 21, 3) := by decide +kernel
theorem dX0_init_39 : decode cX0_init 39 = .ok (.aload_n 0, 1) := by decide +kernel
theorem dX0_init_40 : decode cX0_init 40 = .ok (.bipush 9, 2) := by decide +kernel
theorem dX0_init_42 : decode cX0_init 42 = .ok (.newarray .int, 2) := by decide +kernel
theorem dX0_init_44 : decode cX0_init 44 = .ok (.putfield 24, 3) := by decide +kernel
theorem dX0_init_47 : decode cX0_init 47 = .ok (.aload_n 0, 1) := by decide +kernel
theorem dX0_init_48 : decode cX0_init 48 = .ok (.new 27, 3) := by decide +kernel
theorem dX0_init_51 : decode cX0_init 51 = .ok (.dup, 1) := by decide +kernel
theorem dX0_init_52 : decode cX0_init 52 = .ok (.invokespecial 29, 3) := by decide +kernel
theorem dX0_init_55 : decode cX0_init 55 = .ok (.putfield 30, 3) := by decide +kernel
theorem dX0_init_58 : decode cX0_init 58 = .ok (.aload_n 0, 1) := by decide +kernel
theorem dX0_init_59 : decode cX0_init 59 = .ok (.bipush 24, 2) := by decide +kernel
theorem dX0_init_61 : decode cX0_init 61 = .ok (.newarray .int, 2) := by decide +kernel
theorem dX0_init_63 : decode cX0_init 63 = .ok (.putfield 34, 3) := by decide +kernel
theorem dX0_init_66 : decode cX0_init 66 = .ok (.aload_n 0, 1) := by decide +kernel
theorem dX0_init_67 : decode cX0_init 67 = .ok (.bipush 24, 2) := by decide +kernel
theorem dX0_init_69 : decode cX0_init 69 = .ok (.newarray .int, 2) := by decide +kernel
theorem dX0_init_71 : decode cX0_init 71 = .ok (.putfield 37, 3) := by decide +kernel
theorem dX0_init_74 : decode cX0_init 74 = .ok (.aload_n 0, 1) := by decide +kernel
theorem dX0_init_75 : decode cX0_init 75 = .ok (.iconst 4, 1) := by decide +kernel
theorem dX0_init_76 : decode cX0_init 76 = .ok (.newarray .int, 2) := by decide +kernel
theorem dX0_init_78 : decode cX0_init 78 = .ok (.putfield 40, 3) := by decide +kernel
theorem dX0_init_81 : decode cX0_init 81 = .ok (.aload_n 0, 1) := by decide +kernel
theorem dX0_init_82 : decode cX0_init 82 = .ok (.sipush 256, 3) := by decide +kernel
theorem dX0_init_85 : decode cX0_init 85 = .ok (.newarray .int, 2) := by decide +kernel
theorem dX0_init_87 : decode cX0_init 87 = .ok (.putfield 43, 3) := by decide +kernel
theorem dX0_init_90 : decode cX0_init 90 = .ok (.aload_n 0, 1) := by decide +kernel
theorem dX0_init_91 : decode cX0_init 91 = .ok (.sipush 256, 3) := by decide +kernel
theorem dX0_init_94 : decode cX0_init 94 = .ok (.newarray .boolean, 2) := by decide +kernel
theorem dX0_init_96 : decode cX0_init 96 = .ok (.putfield 46, 3) := by decide +kernel
theorem dX0_init_99 : decode cX0_init 99 = .ok (.return_, 1) := by decide +kernel
theorem dX0_alwaysIn_0 : decode cX0_alwaysIn 0 = .ok (.iload_n 1, 1) := by decide +kernel
theorem dX0_alwaysIn_1 : decode cX0_alwaysIn 1 = .ok (.ifCond .le 16, 3) := by decide +kernel
theorem dX0_alwaysIn_4 : decode cX0_alwaysIn 4 = .ok (.iload_n 1, 1) := by decide +kernel
theorem dX0_alwaysIn_5 : decode cX0_alwaysIn 5 = .ok (.bipush 9, 2) := by decide +kernel
theorem dX0_alwaysIn_7 : decode cX0_alwaysIn 7 = .ok (.if_icmp .ge 10, 3) := by decide +kernel
theorem dX0_alwaysIn_10 : decode cX0_alwaysIn 10 = .ok (.aload_n 0, 1) := by decide +kernel
theorem dX0_alwaysIn_11 : decode cX0_alwaysIn 11 = .ok (.getfield 21, 3) := by decide +kernel
theorem dX0_alwaysIn_14 : decode cX0_alwaysIn 14 = .ok (.iload_n 1, 1) := by decide +kernel
theorem dX0_alwaysIn_15 : decode cX0_alwaysIn 15 = .ok (.iload_n 2, 1) := by decide +kernel
theorem dX0_alwaysIn_16 : decode cX0_alwaysIn 16 = .ok (.iastore, 1) := by decide +kernel
theorem dX0_alwaysIn_17 : decode cX0_alwaysIn 17 = .ok (.return_, 1) := by decide +kernel
theorem dX0_bestFrom_0 : decode cX0_bestFrom 0 = .ok (.aload_n 0, 1) := by decide +kernel
theorem dX0_bestFrom_1 : decode cX0_bestFrom 1 = .ok (.getfield 9, 3) := by decide +kernel
theorem dX0_bestFrom_4 : decode cX0_bestFrom 4 = .ok (.iload_n 1, 1) := by decide +kernel
theorem dX0_bestFrom_5 : decode cX0_bestFrom 5 = .ok (.sipush 256, 3) := by decide +kernel
theorem dX0_bestFrom_8 : decode cX0_bestFrom 8 = .ok (.imul, 1) := by decide +kernel
theorem dX0_bestFrom_9 : decode cX0_bestFrom 9 = .ok (.iload_n 2, 1) := by decide +kernel
theorem dX0_bestFrom_10 : decode cX0_bestFrom 10 = .ok (.iadd, 1) := by decide +kernel
theorem dX0_bestFrom_11 : decode cX0_bestFrom 11 = .ok (.iaload, 1) := by decide +kernel
theorem dX0_bestFrom_12 : decode cX0_bestFrom 12 = .ok (.ireturn, 1) := by decide +kernel
theorem dX0_reckon_0 : decode cX0_reckon 0 = .ok (.aload_n 0, 1) := by decide +kernel
theorem dX0_reckon_1 : decode cX0_reckon 1 = .ok (.aload_n 1, 1) := by decide +kernel
theorem dX0_reckon_2 : decode cX0_reckon 2 = .ok (.putfield 50, 3) := by decide +kernel
theorem dX0_reckon_5 : decode cX0_reckon 5 = .ok (.iconst 0, 1) := by decide +kernel
theorem dX0_reckon_6 : decode cX0_reckon 6 = .ok (.istore 6, 2) := by decide +kernel
theorem dX0_reckon_8 : decode cX0_reckon 8 = .ok (.iload 6, 2) := by decide +kernel
theorem dX0_reckon_10 : decode cX0_reckon 10 = .ok (.iload_n 3, 1) := by decide +kernel
theorem dX0_reckon_11 : decode cX0_reckon 11 = .ok (.sipush 256, 3) := by decide +kernel
theorem dX0_reckon_14 : decode cX0_reckon 14 = .ok (.imul, 1) := by decide +kernel
theorem dX0_reckon_15 : decode cX0_reckon 15 = .ok (.if_icmp .ge 17, 3) := by decide +kernel
theorem dX0_reckon_18 : decode cX0_reckon 18 = .ok (.aload_n 0, 1) := by decide +kernel
theorem dX0_reckon_19 : decode cX0_reckon 19 = .ok (.getfield 18, 3) := by decide +kernel
theorem dX0_reckon_22 : decode cX0_reckon 22 = .ok (.iload 6, 2) := by decide +kernel
theorem dX0_reckon_24 : decode cX0_reckon 24 = .ok (.iconst 0, 1) := by decide +kernel
theorem dX0_reckon_25 : decode cX0_reckon 25 = .ok (.iastore, 1) := by decide +kernel
theorem dX0_reckon_26 : decode cX0_reckon 26 = .ok (.iinc 6 1, 3) := by decide +kernel
theorem dX0_reckon_29 : decode cX0_reckon 29 = .ok (.goto (-21), 3) := by decide +kernel
theorem dX0_reckon_32 : decode cX0_reckon 32 = .ok (.iload 4, 2) := by decide +kernel
theorem dX0_reckon_34 : decode cX0_reckon 34 = .ok (.iconst 1, 1) := by decide +kernel
theorem dX0_reckon_35 : decode cX0_reckon 35 = .ok (.isub, 1) := by decide +kernel
theorem dX0_reckon_36 : decode cX0_reckon 36 = .ok (.istore 6, 2) := by decide +kernel
theorem dX0_reckon_38 : decode cX0_reckon 38 = .ok (.iload 6, 2) := by decide +kernel
theorem dX0_reckon_40 : decode cX0_reckon 40 = .ok (.ifCond .lt 92, 3) := by decide +kernel
theorem dX0_reckon_43 : decode cX0_reckon 43 = .ok (.iload 6, 2) := by decide +kernel
theorem dX0_reckon_45 : decode cX0_reckon 45 = .ok (.iload 4, 2) := by decide +kernel
theorem dX0_reckon_47 : decode cX0_reckon 47 = .ok (.iconst 1, 1) := by decide +kernel
theorem dX0_reckon_48 : decode cX0_reckon 48 = .ok (.isub, 1) := by decide +kernel
theorem dX0_reckon_49 : decode cX0_reckon 49 = .ok (.if_icmp .ge 17, 3) := by decide +kernel
theorem dX0_reckon_52 : decode cX0_reckon 52 = .ok (.aload_n 0, 1) := by decide +kernel
theorem dX0_reckon_53 : decode cX0_reckon 53 = .ok (.aload_n 2, 1) := by decide +kernel
theorem dX0_reckon_54 : decode cX0_reckon 54 = .ok (.iload_n 3, 1) := by decide +kernel
theorem dX0_reckon_55 : decode cX0_reckon 55 = .ok (.iload 5, 2) := by decide +kernel
theorem dX0_reckon_57 : decode cX0_reckon 57 = .ok (.iload 6, 2) := by decide +kernel
theorem dX0_reckon_59 : decode cX0_reckon 59 = .ok (.iadd, 1) := by decide +kernel
theorem dX0_reckon_60 : decode cX0_reckon 60 = .ok (.bipush 7, 2) := by decide +kernel
theorem dX0_reckon_62 : decode cX0_reckon 62 = .ok (.irem, 1) := by decide +kernel
theorem dX0_reckon_63 : decode cX0_reckon 63 = .ok (.invokevirtual 54, 3) := by decide +kernel
theorem dX0_reckon_66 : decode cX0_reckon 66 = .ok (.iconst 0, 1) := by decide +kernel
theorem dX0_reckon_67 : decode cX0_reckon 67 = .ok (.istore 7, 2) := by decide +kernel
theorem dX0_reckon_69 : decode cX0_reckon 69 = .ok (.iload 7, 2) := by decide +kernel
theorem dX0_reckon_71 : decode cX0_reckon 71 = .ok (.iload_n 3, 1) := by decide +kernel
theorem dX0_reckon_72 : decode cX0_reckon 72 = .ok (.if_icmp .ge 54, 3) := by decide +kernel
theorem dX0_reckon_75 : decode cX0_reckon 75 = .ok (.aload_n 0, 1) := by decide +kernel
theorem dX0_reckon_76 : decode cX0_reckon 76 = .ok (.iload 7, 2) := by decide +kernel
theorem dX0_reckon_78 : decode cX0_reckon 78 = .ok (.invokevirtual 58, 3) := by decide +kernel
theorem dX0_reckon_81 : decode cX0_reckon 81 = .ok (.aload_n 0, 1) := by decide +kernel
theorem dX0_reckon_82 : decode cX0_reckon 82 = .ok (.getfield 24, 3) := by decide +kernel
theorem dX0_reckon_85 : decode cX0_reckon 85 = .ok (.iload 7, 2) := by decide +kernel
theorem dX0_reckon_87 : decode cX0_reckon 87 = .ok (.aload_n 0, 1) := by decide +kernel
theorem dX0_reckon_88 : decode cX0_reckon 88 = .ok (.getfield 9, 3) := by decide +kernel
theorem dX0_reckon_91 : decode cX0_reckon 91 = .ok (.iconst 0, 1) := by decide +kernel
theorem dX0_reckon_92 : decode cX0_reckon 92 = .ok (.iaload, 1) := by decide +kernel
theorem dX0_reckon_93 : decode cX0_reckon 93 = .ok (.iastore, 1) := by decide +kernel
theorem dX0_reckon_94 : decode cX0_reckon 94 = .ok (.iload 6, 2) := by decide +kernel
theorem dX0_reckon_96 : decode cX0_reckon 96 = .ok (.ifCond .le 24, 3) := by decide +kernel
theorem dX0_reckon_99 : decode cX0_reckon 99 = .ok (.aload_n 0, 1) := by decide +kernel
theorem dX0_reckon_100 : decode cX0_reckon 100 = .ok (.getfield 9, 3) := by decide +kernel
theorem dX0_reckon_103 : decode cX0_reckon 103 = .ok (.iconst 0, 1) := by decide +kernel
theorem dX0_reckon_104 : decode cX0_reckon 104 = .ok (.aload_n 0, 1) := by decide +kernel
theorem dX0_reckon_105 : decode cX0_reckon 105 = .ok (.getfield 15, 3) := by decide +kernel
theorem dX0_reckon_108 : decode cX0_reckon 108 = .ok (.iload 7, 2) := by decide +kernel
theorem dX0_reckon_110 : decode cX0_reckon 110 = .ok (.sipush 256, 3) := by decide +kernel
theorem dX0_reckon_113 : decode cX0_reckon 113 = .ok (.imul, 1) := by decide +kernel
theorem dX0_reckon_114 : decode cX0_reckon 114 = .ok (.sipush 256, 3) := by decide +kernel
theorem dX0_reckon_117 : decode cX0_reckon 117 = .ok (.invokestatic 62, 3) := by decide +kernel
theorem dX0_reckon_120 : decode cX0_reckon 120 = .ok (.iinc 7 1, 3) := by decide +kernel
theorem dX0_reckon_123 : decode cX0_reckon 123 = .ok (.goto (-54), 3) := by decide +kernel
theorem dX0_reckon_126 : decode cX0_reckon 126 = .ok (.iinc 6 (-1), 3) := by decide +kernel
theorem dX0_reckon_129 : decode cX0_reckon 129 = .ok (.goto (-91), 3) := by decide +kernel
theorem dX0_reckon_132 : decode cX0_reckon 132 = .ok (.return_, 1) := by decide +kernel
theorem dX0_reckonNight_0 : decode cX0_reckonNight 0 = .ok (.iconst 0, 1) := by decide +kernel
theorem dX0_reckonNight_1 : decode cX0_reckonNight 1 = .ok (.istore 4, 2) := by decide +kernel
theorem dX0_reckonNight_3 : decode cX0_reckonNight 3 = .ok (.iload 4, 2) := by decide +kernel
theorem dX0_reckonNight_5 : decode cX0_reckonNight 5 = .ok (.aload_n 0, 1) := by decide +kernel
theorem dX0_reckonNight_6 : decode cX0_reckonNight 6 = .ok (.getfield 50, 3) := by decide +kernel
theorem dX0_reckonNight_9 : decode cX0_reckonNight 9 = .ok (.invokevirtual 68, 3) := by decide +kernel
theorem dX0_reckonNight_12 : decode cX0_reckonNight 12 = .ok (.if_icmp .ge 121, 3) := by decide +kernel
theorem dX0_reckonNight_15 : decode cX0_reckonNight 15 = .ok (.aload_n 1, 1) := by decide +kernel
theorem dX0_reckonNight_16 : decode cX0_reckonNight 16 = .ok (.aload_n 0, 1) := by decide +kernel
theorem dX0_reckonNight_17 : decode cX0_reckonNight 17 = .ok (.getfield 50, 3) := by decide +kernel
theorem dX0_reckonNight_20 : decode cX0_reckonNight 20 = .ok (.iload 4, 2) := by decide +kernel
theorem dX0_reckonNight_22 : decode cX0_reckonNight 22 = .ok (.iload_n 3, 1) := by decide +kernel
theorem dX0_reckonNight_23 : decode cX0_reckonNight 23 = .ok (.invokevirtual 74, 3) := by decide +kernel
theorem dX0_reckonNight_26 : decode cX0_reckonNight 26 = .ok (.aload_n 1, 1) := by decide +kernel
theorem dX0_reckonNight_27 : decode cX0_reckonNight 27 = .ok (.aload_n 0, 1) := by decide +kernel
theorem dX0_reckonNight_28 : decode cX0_reckonNight 28 = .ok (.getfield 50, 3) := by decide +kernel
theorem dX0_reckonNight_31 : decode cX0_reckonNight 31 = .ok (.invokevirtual 80, 3) := by decide +kernel
theorem dX0_reckonNight_34 : decode cX0_reckonNight 34 = .ok (.iconst 0, 1) := by decide +kernel
theorem dX0_reckonNight_35 : decode cX0_reckonNight 35 = .ok (.istore 5, 2) := by decide +kernel
theorem dX0_reckonNight_37 : decode cX0_reckonNight 37 = .ok (.iload 5, 2) := by decide +kernel
theorem dX0_reckonNight_39 : decode cX0_reckonNight 39 = .ok (.iload_n 2, 1) := by decide +kernel
theorem dX0_reckonNight_40 : decode cX0_reckonNight 40 = .ok (.if_icmp .ge 87, 3) := by decide +kernel
theorem dX0_reckonNight_43 : decode cX0_reckonNight 43 = .ok (.iconst 0, 1) := by decide +kernel
theorem dX0_reckonNight_44 : decode cX0_reckonNight 44 = .ok (.istore 6, 2) := by decide +kernel
theorem dX0_reckonNight_46 : decode cX0_reckonNight 46 = .ok (.iconst 0, 1) := by decide +kernel
theorem dX0_reckonNight_47 : decode cX0_reckonNight 47 = .ok (.istore 7, 2) := by decide +kernel
theorem dX0_reckonNight_49 : decode cX0_reckonNight 49 = .ok (.iload 7, 2) := by decide +kernel
theorem dX0_reckonNight_51 : decode cX0_reckonNight 51 = .ok (.aload_n 1, 1) := by decide +kernel
theorem dX0_reckonNight_52 : decode cX0_reckonNight 52 = .ok (.getfield 84, 3) := by decide +kernel
theorem dX0_reckonNight_55 : decode cX0_reckonNight 55 = .ok (.if_icmp .ge 50, 3) := by decide +kernel
theorem dX0_reckonNight_58 : decode cX0_reckonNight 58 = .ok (.aload_n 1, 1) := by decide +kernel
theorem dX0_reckonNight_59 : decode cX0_reckonNight 59 = .ok (.getfield 88, 3) := by decide +kernel
theorem dX0_reckonNight_62 : decode cX0_reckonNight 62 = .ok (.iload 7, 2) := by decide +kernel
theorem dX0_reckonNight_64 : decode cX0_reckonNight 64 = .ok (.iaload, 1) := by decide +kernel
theorem dX0_reckonNight_65 : decode cX0_reckonNight 65 = .ok (.aload_n 0, 1) := by decide +kernel
theorem dX0_reckonNight_66 : decode cX0_reckonNight 66 = .ok (.getfield 21, 3) := by decide +kernel
theorem dX0_reckonNight_69 : decode cX0_reckonNight 69 = .ok (.iload 5, 2) := by decide +kernel
theorem dX0_reckonNight_71 : decode cX0_reckonNight 71 = .ok (.iaload, 1) := by decide +kernel
theorem dX0_reckonNight_72 : decode cX0_reckonNight 72 = .ok (.iload 4, 2) := by decide +kernel
theorem dX0_reckonNight_74 : decode cX0_reckonNight 74 = .ok (.iand, 1) := by decide +kernel
theorem dX0_reckonNight_75 : decode cX0_reckonNight 75 = .ok (.ior, 1) := by decide +kernel
theorem dX0_reckonNight_76 : decode cX0_reckonNight 76 = .ok (.istore 8, 2) := by decide +kernel
theorem dX0_reckonNight_78 : decode cX0_reckonNight 78 = .ok (.iload 6, 2) := by decide +kernel
theorem dX0_reckonNight_80 : decode cX0_reckonNight 80 = .ok (.aload_n 0, 1) := by decide +kernel
theorem dX0_reckonNight_81 : decode cX0_reckonNight 81 = .ok (.getfield 15, 3) := by decide +kernel
theorem dX0_reckonNight_84 : decode cX0_reckonNight 84 = .ok (.iload 5, 2) := by decide +kernel
theorem dX0_reckonNight_86 : decode cX0_reckonNight 86 = .ok (.sipush 256, 3) := by decide +kernel
theorem dX0_reckonNight_89 : decode cX0_reckonNight 89 = .ok (.imul, 1) := by decide +kernel
theorem dX0_reckonNight_90 : decode cX0_reckonNight 90 = .ok (.iload 8, 2) := by decide +kernel
theorem dX0_reckonNight_92 : decode cX0_reckonNight 92 = .ok (.iadd, 1) := by decide +kernel
theorem dX0_reckonNight_93 : decode cX0_reckonNight 93 = .ok (.iaload, 1) := by decide +kernel
theorem dX0_reckonNight_94 : decode cX0_reckonNight 94 = .ok (.invokestatic 91, 3) := by decide +kernel
theorem dX0_reckonNight_97 : decode cX0_reckonNight 97 = .ok (.istore 6, 2) := by decide +kernel
theorem dX0_reckonNight_99 : decode cX0_reckonNight 99 = .ok (.iinc 7 1, 3) := by decide +kernel
theorem dX0_reckonNight_102 : decode cX0_reckonNight 102 = .ok (.goto (-53), 3) := by decide +kernel
theorem dX0_reckonNight_105 : decode cX0_reckonNight 105 = .ok (.aload_n 0, 1) := by decide +kernel
theorem dX0_reckonNight_106 : decode cX0_reckonNight 106 = .ok (.getfield 18, 3) := by decide +kernel
theorem dX0_reckonNight_109 : decode cX0_reckonNight 109 = .ok (.iload 5, 2) := by decide +kernel
theorem dX0_reckonNight_111 : decode cX0_reckonNight 111 = .ok (.sipush 256, 3) := by decide +kernel
theorem dX0_reckonNight_114 : decode cX0_reckonNight 114 = .ok (.imul, 1) := by decide +kernel
theorem dX0_reckonNight_115 : decode cX0_reckonNight 115 = .ok (.iload 4, 2) := by decide +kernel
theorem dX0_reckonNight_117 : decode cX0_reckonNight 117 = .ok (.iadd, 1) := by decide +kernel
theorem dX0_reckonNight_118 : decode cX0_reckonNight 118 = .ok (.iload 6, 2) := by decide +kernel
theorem dX0_reckonNight_120 : decode cX0_reckonNight 120 = .ok (.iastore, 1) := by decide +kernel
theorem dX0_reckonNight_121 : decode cX0_reckonNight 121 = .ok (.iinc 5 1, 3) := by decide +kernel
theorem dX0_reckonNight_124 : decode cX0_reckonNight 124 = .ok (.goto (-87), 3) := by decide +kernel
theorem dX0_reckonNight_127 : decode cX0_reckonNight 127 = .ok (.iinc 4 1, 3) := by decide +kernel
theorem dX0_reckonNight_130 : decode cX0_reckonNight 130 = .ok (.goto (-127), 3) := by decide +kernel
theorem dX0_reckonNight_133 : decode cX0_reckonNight 133 = .ok (.return_, 1) := by decide +kernel
theorem dX0_reckonDay_0 : decode cX0_reckonDay 0 = .ok (.aload_n 0, 1) := by decide +kernel
theorem dX0_reckonDay_1 : decode cX0_reckonDay 1 = .ok (.getfield 18, 3) := by decide +kernel
theorem dX0_reckonDay_4 : decode cX0_reckonDay 4 = .ok (.iload_n 1, 1) := by decide +kernel
theorem dX0_reckonDay_5 : decode cX0_reckonDay 5 = .ok (.sipush 256, 3) := by decide +kernel
theorem dX0_reckonDay_8 : decode cX0_reckonDay 8 = .ok (.imul, 1) := by decide +kernel
theorem dX0_reckonDay_9 : decode cX0_reckonDay 9 = .ok (.aload_n 0, 1) := by decide +kernel
theorem dX0_reckonDay_10 : decode cX0_reckonDay 10 = .ok (.getfield 9, 3) := by decide +kernel
theorem dX0_reckonDay_13 : decode cX0_reckonDay 13 = .ok (.sipush 6144, 3) := by decide +kernel
theorem dX0_reckonDay_16 : decode cX0_reckonDay 16 = .ok (.sipush 256, 3) := by decide +kernel
theorem dX0_reckonDay_19 : decode cX0_reckonDay 19 = .ok (.invokestatic 62, 3) := by decide +kernel
theorem dX0_reckonDay_22 : decode cX0_reckonDay 22 = .ok (.aload_n 0, 1) := by decide +kernel
theorem dX0_reckonDay_23 : decode cX0_reckonDay 23 = .ok (.bipush 24, 2) := by decide +kernel
theorem dX0_reckonDay_25 : decode cX0_reckonDay 25 = .ok (.invokevirtual 97, 3) := by decide +kernel
theorem dX0_reckonDay_28 : decode cX0_reckonDay 28 = .ok (.bipush 23, 2) := by decide +kernel
theorem dX0_reckonDay_30 : decode cX0_reckonDay 30 = .ok (.istore_n 2, 1) := by decide +kernel
theorem dX0_reckonDay_31 : decode cX0_reckonDay 31 = .ok (.iload_n 2, 1) := by decide +kernel
theorem dX0_reckonDay_32 : decode cX0_reckonDay 32 = .ok (.ifCond .lt 77, 3) := by decide +kernel
theorem dX0_reckonDay_35 : decode cX0_reckonDay 35 = .ok (.aload_n 0, 1) := by decide +kernel
theorem dX0_reckonDay_36 : decode cX0_reckonDay 36 = .ok (.getfield 9, 3) := by decide +kernel
theorem dX0_reckonDay_39 : decode cX0_reckonDay 39 = .ok (.iload_n 2, 1) := by decide +kernel
theorem dX0_reckonDay_40 : decode cX0_reckonDay 40 = .ok (.iconst 1, 1) := by decide +kernel
theorem dX0_reckonDay_41 : decode cX0_reckonDay 41 = .ok (.iadd, 1) := by decide +kernel
theorem dX0_reckonDay_42 : decode cX0_reckonDay 42 = .ok (.sipush 256, 3) := by decide +kernel
theorem dX0_reckonDay_45 : decode cX0_reckonDay 45 = .ok (.imul, 1) := by decide +kernel
theorem dX0_reckonDay_46 : decode cX0_reckonDay 46 = .ok (.aload_n 0, 1) := by decide +kernel
theorem dX0_reckonDay_47 : decode cX0_reckonDay 47 = .ok (.getfield 9, 3) := by decide +kernel
theorem dX0_reckonDay_50 : decode cX0_reckonDay 50 = .ok (.iload_n 2, 1) := by decide +kernel
theorem dX0_reckonDay_51 : decode cX0_reckonDay 51 = .ok (.sipush 256, 3) := by decide +kernel
theorem dX0_reckonDay_54 : decode cX0_reckonDay 54 = .ok (.imul, 1) := by decide +kernel
theorem dX0_reckonDay_55 : decode cX0_reckonDay 55 = .ok (.sipush 256, 3) := by decide +kernel
theorem dX0_reckonDay_58 : decode cX0_reckonDay 58 = .ok (.invokestatic 62, 3) := by decide +kernel
theorem dX0_reckonDay_61 : decode cX0_reckonDay 61 = .ok (.iconst 0, 1) := by decide +kernel
theorem dX0_reckonDay_62 : decode cX0_reckonDay 62 = .ok (.istore_n 3, 1) := by decide +kernel
theorem dX0_reckonDay_63 : decode cX0_reckonDay 63 = .ok (.iload_n 3, 1) := by decide +kernel
theorem dX0_reckonDay_64 : decode cX0_reckonDay 64 = .ok (.aload_n 0, 1) := by decide +kernel
theorem dX0_reckonDay_65 : decode cX0_reckonDay 65 = .ok (.getfield 50, 3) := by decide +kernel
theorem dX0_reckonDay_68 : decode cX0_reckonDay 68 = .ok (.getfield 100, 3) := by decide +kernel
theorem dX0_reckonDay_71 : decode cX0_reckonDay 71 = .ok (.getfield 104, 3) := by decide +kernel
theorem dX0_reckonDay_74 : decode cX0_reckonDay 74 = .ok (.if_icmp .ge 24, 3) := by decide +kernel
theorem dX0_reckonDay_77 : decode cX0_reckonDay 77 = .ok (.aload_n 0, 1) := by decide +kernel
theorem dX0_reckonDay_78 : decode cX0_reckonDay 78 = .ok (.iload_n 3, 1) := by decide +kernel
theorem dX0_reckonDay_79 : decode cX0_reckonDay 79 = .ok (.iload_n 2, 1) := by decide +kernel
theorem dX0_reckonDay_80 : decode cX0_reckonDay 80 = .ok (.invokevirtual 109, 3) := by decide +kernel
theorem dX0_reckonDay_83 : decode cX0_reckonDay 83 = .ok (.ifCond .eq 9, 3) := by decide +kernel
theorem dX0_reckonDay_86 : decode cX0_reckonDay 86 = .ok (.aload_n 0, 1) := by decide +kernel
theorem dX0_reckonDay_87 : decode cX0_reckonDay 87 = .ok (.iload_n 3, 1) := by decide +kernel
theorem dX0_reckonDay_88 : decode cX0_reckonDay 88 = .ok (.iload_n 2, 1) := by decide +kernel
theorem dX0_reckonDay_89 : decode cX0_reckonDay 89 = .ok (.invokevirtual 113, 3) := by decide +kernel
theorem dX0_reckonDay_92 : decode cX0_reckonDay 92 = .ok (.iinc 3 1, 3) := by decide +kernel
theorem dX0_reckonDay_95 : decode cX0_reckonDay 95 = .ok (.goto (-32), 3) := by decide +kernel
theorem dX0_reckonDay_98 : decode cX0_reckonDay 98 = .ok (.aload_n 0, 1) := by decide +kernel
theorem dX0_reckonDay_99 : decode cX0_reckonDay 99 = .ok (.iload_n 2, 1) := by decide +kernel
theorem dX0_reckonDay_100 : decode cX0_reckonDay 100 = .ok (.invokevirtual 97, 3) := by decide +kernel
theorem dX0_reckonDay_103 : decode cX0_reckonDay 103 = .ok (.iinc 2 (-1), 3) := by decide +kernel
theorem dX0_reckonDay_106 : decode cX0_reckonDay 106 = .ok (.goto (-75), 3) := by decide +kernel
theorem dX0_reckonDay_109 : decode cX0_reckonDay 109 = .ok (.return_, 1) := by decide +kernel
theorem dX0_beginAll_0 : decode cX0_beginAll 0 = .ok (.aload_n 0, 1) := by decide +kernel
theorem dX0_beginAll_1 : decode cX0_beginAll 1 = .ok (.getfield 50, 3) := by decide +kernel
theorem dX0_beginAll_4 : decode cX0_beginAll 4 = .ok (.iload_n 1, 1) := by decide +kernel
theorem dX0_beginAll_5 : decode cX0_beginAll 5 = .ok (.invokevirtual 117, 3) := by decide +kernel
theorem dX0_beginAll_8 : decode cX0_beginAll 8 = .ok (.istore_n 3, 1) := by decide +kernel
theorem dX0_beginAll_9 : decode cX0_beginAll 9 = .ok (.iload_n 2, 1) := by decide +kernel
theorem dX0_beginAll_10 : decode cX0_beginAll 10 = .ok (.aload_n 0, 1) := by decide +kernel
theorem dX0_beginAll_11 : decode cX0_beginAll 11 = .ok (.getfield 50, 3) := by decide +kernel
theorem dX0_beginAll_14 : decode cX0_beginAll 14 = .ok (.getfield 121, 3) := by decide +kernel
theorem dX0_beginAll_17 : decode cX0_beginAll 17 = .ok (.iload_n 1, 1) := by decide +kernel
theorem dX0_beginAll_18 : decode cX0_beginAll 18 = .ok (.iaload, 1) := by decide +kernel
theorem dX0_beginAll_19 : decode cX0_beginAll 19 = .ok (.iadd, 1) := by decide +kernel
theorem dX0_beginAll_20 : decode cX0_beginAll 20 = .ok (.istore 4, 2) := by decide +kernel
theorem dX0_beginAll_22 : decode cX0_beginAll 22 = .ok (.aload_n 0, 1) := by decide +kernel
theorem dX0_beginAll_23 : decode cX0_beginAll 23 = .ok (.getfield 50, 3) := by decide +kernel
theorem dX0_beginAll_26 : decode cX0_beginAll 26 = .ok (.iload_n 2, 1) := by decide +kernel
theorem dX0_beginAll_27 : decode cX0_beginAll 27 = .ok (.iconst 1, 1) := by decide +kernel
theorem dX0_beginAll_28 : decode cX0_beginAll 28 = .ok (.iadd, 1) := by decide +kernel
theorem dX0_beginAll_29 : decode cX0_beginAll 29 = .ok (.iload 4, 2) := by decide +kernel
theorem dX0_beginAll_31 : decode cX0_beginAll 31 = .ok (.invokevirtual 124, 3) := by decide +kernel
theorem dX0_beginAll_34 : decode cX0_beginAll 34 = .ok (.istore 5, 2) := by decide +kernel
theorem dX0_beginAll_36 : decode cX0_beginAll 36 = .ok (.iload_n 3, 1) := by decide +kernel
theorem dX0_beginAll_37 : decode cX0_beginAll 37 = .ok (.istore 6, 2) := by decide +kernel
theorem dX0_beginAll_39 : decode cX0_beginAll 39 = .ok (.iload 6, 2) := by decide +kernel
theorem dX0_beginAll_41 : decode cX0_beginAll 41 = .ok (.aload_n 0, 1) := by decide +kernel
theorem dX0_beginAll_42 : decode cX0_beginAll 42 = .ok (.getfield 50, 3) := by decide +kernel
theorem dX0_beginAll_45 : decode cX0_beginAll 45 = .ok (.invokevirtual 68, 3) := by decide +kernel
theorem dX0_beginAll_48 : decode cX0_beginAll 48 = .ok (.if_icmp .ge 84, 3) := by decide +kernel
theorem dX0_beginAll_51 : decode cX0_beginAll 51 = .ok (.iload 5, 2) := by decide +kernel
theorem dX0_beginAll_53 : decode cX0_beginAll 53 = .ok (.ifCond .eq 14, 3) := by decide +kernel
theorem dX0_beginAll_56 : decode cX0_beginAll 56 = .ok (.aload_n 0, 1) := by decide +kernel
theorem dX0_beginAll_57 : decode cX0_beginAll 57 = .ok (.iload_n 1, 1) := by decide +kernel
theorem dX0_beginAll_58 : decode cX0_beginAll 58 = .ok (.iload_n 2, 1) := by decide +kernel
theorem dX0_beginAll_59 : decode cX0_beginAll 59 = .ok (.iload 6, 2) := by decide +kernel
theorem dX0_beginAll_61 : decode cX0_beginAll 61 = .ok (.invokevirtual 127, 3) := by decide +kernel
theorem dX0_beginAll_64 : decode cX0_beginAll 64 = .ok (.goto 22, 3) := by decide +kernel
theorem dX0_beginAll_67 : decode cX0_beginAll 67 = .ok (.aload_n 0, 1) := by decide +kernel
theorem dX0_beginAll_68 : decode cX0_beginAll 68 = .ok (.getfield 9, 3) := by decide +kernel
theorem dX0_beginAll_71 : decode cX0_beginAll 71 = .ok (.iload 4, 2) := by decide +kernel
theorem dX0_beginAll_73 : decode cX0_beginAll 73 = .ok (.sipush 256, 3) := by decide +kernel
theorem dX0_beginAll_76 : decode cX0_beginAll 76 = .ok (.imul, 1) := by decide +kernel
theorem dX0_beginAll_77 : decode cX0_beginAll 77 = .ok (.aload_n 0, 1) := by decide +kernel
theorem dX0_beginAll_78 : decode cX0_beginAll 78 = .ok (.iload_n 1, 1) := by decide +kernel
theorem dX0_beginAll_79 : decode cX0_beginAll 79 = .ok (.iload 6, 2) := by decide +kernel
theorem dX0_beginAll_81 : decode cX0_beginAll 81 = .ok (.invokevirtual 131, 3) := by decide +kernel
theorem dX0_beginAll_84 : decode cX0_beginAll 84 = .ok (.iadd, 1) := by decide +kernel
theorem dX0_beginAll_85 : decode cX0_beginAll 85 = .ok (.iaload, 1) := by decide +kernel
theorem dX0_beginAll_86 : decode cX0_beginAll 86 = .ok (.istore 7, 2) := by decide +kernel
theorem dX0_beginAll_88 : decode cX0_beginAll 88 = .ok (.iload 7, 2) := by decide +kernel
theorem dX0_beginAll_90 : decode cX0_beginAll 90 = .ok (.aload_n 0, 1) := by decide +kernel
theorem dX0_beginAll_91 : decode cX0_beginAll 91 = .ok (.getfield 9, 3) := by decide +kernel
theorem dX0_beginAll_94 : decode cX0_beginAll 94 = .ok (.iload_n 2, 1) := by decide +kernel
theorem dX0_beginAll_95 : decode cX0_beginAll 95 = .ok (.sipush 256, 3) := by decide +kernel
theorem dX0_beginAll_98 : decode cX0_beginAll 98 = .ok (.imul, 1) := by decide +kernel
theorem dX0_beginAll_99 : decode cX0_beginAll 99 = .ok (.iload 6, 2) := by decide +kernel
theorem dX0_beginAll_101 : decode cX0_beginAll 101 = .ok (.iadd, 1) := by decide +kernel
theorem dX0_beginAll_102 : decode cX0_beginAll 102 = .ok (.iaload, 1) := by decide +kernel
theorem dX0_beginAll_103 : decode cX0_beginAll 103 = .ok (.if_icmp .le 18, 3) := by decide +kernel
theorem dX0_beginAll_106 : decode cX0_beginAll 106 = .ok (.aload_n 0, 1) := by decide +kernel
theorem dX0_beginAll_107 : decode cX0_beginAll 107 = .ok (.getfield 9, 3) := by decide +kernel
theorem dX0_beginAll_110 : decode cX0_beginAll 110 = .ok (.iload_n 2, 1) := by decide +kernel
theorem dX0_beginAll_111 : decode cX0_beginAll 111 = .ok (.sipush 256, 3) := by decide +kernel
theorem dX0_beginAll_114 : decode cX0_beginAll 114 = .ok (.imul, 1) := by decide +kernel
theorem dX0_beginAll_115 : decode cX0_beginAll 115 = .ok (.iload 6, 2) := by decide +kernel
theorem dX0_beginAll_117 : decode cX0_beginAll 117 = .ok (.iadd, 1) := by decide +kernel
theorem dX0_beginAll_118 : decode cX0_beginAll 118 = .ok (.iload 7, 2) := by decide +kernel
theorem dX0_beginAll_120 : decode cX0_beginAll 120 = .ok (.iastore, 1) := by decide +kernel
theorem dX0_beginAll_121 : decode cX0_beginAll 121 = .ok (.iload 6, 2) := by decide +kernel
theorem dX0_beginAll_123 : decode cX0_beginAll 123 = .ok (.iconst 1, 1) := by decide +kernel
theorem dX0_beginAll_124 : decode cX0_beginAll 124 = .ok (.iadd, 1) := by decide +kernel
theorem dX0_beginAll_125 : decode cX0_beginAll 125 = .ok (.iload_n 3, 1) := by decide +kernel
theorem dX0_beginAll_126 : decode cX0_beginAll 126 = .ok (.ior, 1) := by decide +kernel
theorem dX0_beginAll_127 : decode cX0_beginAll 127 = .ok (.istore 6, 2) := by decide +kernel
theorem dX0_beginAll_129 : decode cX0_beginAll 129 = .ok (.goto (-90), 3) := by decide +kernel
theorem dX0_beginAll_132 : decode cX0_beginAll 132 = .ok (.return_, 1) := by decide +kernel
theorem dX0_serveAll_0 : decode cX0_serveAll 0 = .ok (.aload_n 0, 1) := by decide +kernel
theorem dX0_serveAll_1 : decode cX0_serveAll 1 = .ok (.getfield 50, 3) := by decide +kernel
theorem dX0_serveAll_4 : decode cX0_serveAll 4 = .ok (.iload_n 1, 1) := by decide +kernel
theorem dX0_serveAll_5 : decode cX0_serveAll 5 = .ok (.iload_n 1, 1) := by decide +kernel
theorem dX0_serveAll_6 : decode cX0_serveAll 6 = .ok (.iconst 1, 1) := by decide +kernel
theorem dX0_serveAll_7 : decode cX0_serveAll 7 = .ok (.iadd, 1) := by decide +kernel
theorem dX0_serveAll_8 : decode cX0_serveAll 8 = .ok (.invokevirtual 124, 3) := by decide +kernel
theorem dX0_serveAll_11 : decode cX0_serveAll 11 = .ok (.istore_n 2, 1) := by decide +kernel
theorem dX0_serveAll_12 : decode cX0_serveAll 12 = .ok (.aload_n 0, 1) := by decide +kernel
theorem dX0_serveAll_13 : decode cX0_serveAll 13 = .ok (.getfield 50, 3) := by decide +kernel
theorem dX0_serveAll_16 : decode cX0_serveAll 16 = .ok (.invokevirtual 68, 3) := by decide +kernel
theorem dX0_serveAll_19 : decode cX0_serveAll 19 = .ok (.iconst 1, 1) := by decide +kernel
theorem dX0_serveAll_20 : decode cX0_serveAll 20 = .ok (.isub, 1) := by decide +kernel
theorem dX0_serveAll_21 : decode cX0_serveAll 21 = .ok (.istore_n 3, 1) := by decide +kernel
theorem dX0_serveAll_22 : decode cX0_serveAll 22 = .ok (.iload_n 3, 1) := by decide +kernel
theorem dX0_serveAll_23 : decode cX0_serveAll 23 = .ok (.ifCond .lt 74, 3) := by decide +kernel
theorem dX0_serveAll_26 : decode cX0_serveAll 26 = .ok (.iload_n 2, 1) := by decide +kernel
theorem dX0_serveAll_27 : decode cX0_serveAll 27 = .ok (.ifCond .eq 70, 3) := by decide +kernel
theorem dX0_serveAll_30 : decode cX0_serveAll 30 = .ok (.aload_n 0, 1) := by decide +kernel
theorem dX0_serveAll_31 : decode cX0_serveAll 31 = .ok (.getfield 30, 3) := by decide +kernel
theorem dX0_serveAll_34 : decode cX0_serveAll 34 = .ok (.iload_n 3, 1) := by decide +kernel
theorem dX0_serveAll_35 : decode cX0_serveAll 35 = .ok (.invokevirtual 134, 3) := by decide +kernel
theorem dX0_serveAll_38 : decode cX0_serveAll 38 = .ok (.aload_n 0, 1) := by decide +kernel
theorem dX0_serveAll_39 : decode cX0_serveAll 39 = .ok (.getfield 30, 3) := by decide +kernel
theorem dX0_serveAll_42 : decode cX0_serveAll 42 = .ok (.aload_n 0, 1) := by decide +kernel
theorem dX0_serveAll_43 : decode cX0_serveAll 43 = .ok (.getfield 50, 3) := by decide +kernel
theorem dX0_serveAll_46 : decode cX0_serveAll 46 = .ok (.iload_n 1, 1) := by decide +kernel
theorem dX0_serveAll_47 : decode cX0_serveAll 47 = .ok (.iload_n 1, 1) := by decide +kernel
theorem dX0_serveAll_48 : decode cX0_serveAll 48 = .ok (.iconst 1, 1) := by decide +kernel
theorem dX0_serveAll_49 : decode cX0_serveAll 49 = .ok (.iadd, 1) := by decide +kernel
theorem dX0_serveAll_50 : decode cX0_serveAll 50 = .ok (.invokevirtual 137, 3) := by decide +kernel
theorem dX0_serveAll_53 : decode cX0_serveAll 53 = .ok (.aload_n 0, 1) := by decide +kernel
theorem dX0_serveAll_54 : decode cX0_serveAll 54 = .ok (.getfield 9, 3) := by decide +kernel
theorem dX0_serveAll_57 : decode cX0_serveAll 57 = .ok (.iload_n 1, 1) := by decide +kernel
theorem dX0_serveAll_58 : decode cX0_serveAll 58 = .ok (.sipush 256, 3) := by decide +kernel
theorem dX0_serveAll_61 : decode cX0_serveAll 61 = .ok (.imul, 1) := by decide +kernel
theorem dX0_serveAll_62 : decode cX0_serveAll 62 = .ok (.iload_n 3, 1) := by decide +kernel
theorem dX0_serveAll_63 : decode cX0_serveAll 63 = .ok (.iadd, 1) := by decide +kernel
theorem dX0_serveAll_64 : decode cX0_serveAll 64 = .ok (.aload_n 0, 1) := by decide +kernel
theorem dX0_serveAll_65 : decode cX0_serveAll 65 = .ok (.getfield 30, 3) := by decide +kernel
theorem dX0_serveAll_68 : decode cX0_serveAll 68 = .ok (.getfield 140, 3) := by decide +kernel
theorem dX0_serveAll_71 : decode cX0_serveAll 71 = .ok (.aload_n 0, 1) := by decide +kernel
theorem dX0_serveAll_72 : decode cX0_serveAll 72 = .ok (.getfield 9, 3) := by decide +kernel
theorem dX0_serveAll_75 : decode cX0_serveAll 75 = .ok (.iload_n 1, 1) := by decide +kernel
theorem dX0_serveAll_76 : decode cX0_serveAll 76 = .ok (.sipush 256, 3) := by decide +kernel
theorem dX0_serveAll_79 : decode cX0_serveAll 79 = .ok (.imul, 1) := by decide +kernel
theorem dX0_serveAll_80 : decode cX0_serveAll 80 = .ok (.aload_n 0, 1) := by decide +kernel
theorem dX0_serveAll_81 : decode cX0_serveAll 81 = .ok (.getfield 30, 3) := by decide +kernel
theorem dX0_serveAll_84 : decode cX0_serveAll 84 = .ok (.getfield 143, 3) := by decide +kernel
theorem dX0_serveAll_87 : decode cX0_serveAll 87 = .ok (.iadd, 1) := by decide +kernel
theorem dX0_serveAll_88 : decode cX0_serveAll 88 = .ok (.iaload, 1) := by decide +kernel
theorem dX0_serveAll_89 : decode cX0_serveAll 89 = .ok (.iadd, 1) := by decide +kernel
theorem dX0_serveAll_90 : decode cX0_serveAll 90 = .ok (.iastore, 1) := by decide +kernel
theorem dX0_serveAll_91 : decode cX0_serveAll 91 = .ok (.iinc 3 (-1), 3) := by decide +kernel
theorem dX0_serveAll_94 : decode cX0_serveAll 94 = .ok (.goto (-72), 3) := by decide +kernel
theorem dX0_serveAll_97 : decode cX0_serveAll 97 = .ok (.return_, 1) := by decide +kernel
theorem dX0_made_0 : decode cX0_made 0 = .ok (.iload_n 2, 1) := by decide +kernel
theorem dX0_made_1 : decode cX0_made 1 = .ok (.aload_n 0, 1) := by decide +kernel
theorem dX0_made_2 : decode cX0_made 2 = .ok (.getfield 50, 3) := by decide +kernel
theorem dX0_made_5 : decode cX0_made 5 = .ok (.getfield 146, 3) := by decide +kernel
theorem dX0_made_8 : decode cX0_made 8 = .ok (.iload_n 1, 1) := by decide +kernel
theorem dX0_made_9 : decode cX0_made 9 = .ok (.iaload, 1) := by decide +kernel
theorem dX0_made_10 : decode cX0_made 10 = .ok (.iconst (-1), 1) := by decide +kernel
theorem dX0_made_11 : decode cX0_made 11 = .ok (.ixor, 1) := by decide +kernel
theorem dX0_made_12 : decode cX0_made 12 = .ok (.iand, 1) := by decide +kernel
theorem dX0_made_13 : decode cX0_made 13 = .ok (.iconst 1, 1) := by decide +kernel
theorem dX0_made_14 : decode cX0_made 14 = .ok (.aload_n 0, 1) := by decide +kernel
theorem dX0_made_15 : decode cX0_made 15 = .ok (.getfield 50, 3) := by decide +kernel
theorem dX0_made_18 : decode cX0_made 18 = .ok (.getfield 149, 3) := by decide +kernel
theorem dX0_made_21 : decode cX0_made 21 = .ok (.iload_n 1, 1) := by decide +kernel
theorem dX0_made_22 : decode cX0_made 22 = .ok (.iaload, 1) := by decide +kernel
theorem dX0_made_23 : decode cX0_made 23 = .ok (.ishl, 1) := by decide +kernel
theorem dX0_made_24 : decode cX0_made 24 = .ok (.ior, 1) := by decide +kernel
theorem dX0_made_25 : decode cX0_made 25 = .ok (.ireturn, 1) := by decide +kernel
theorem dX0_canBegin_0 : decode cX0_canBegin 0 = .ok (.aload_n 0, 1) := by decide +kernel
theorem dX0_canBegin_1 : decode cX0_canBegin 1 = .ok (.getfield 50, 3) := by decide +kernel
theorem dX0_canBegin_4 : decode cX0_canBegin 4 = .ok (.getfield 152, 3) := by decide +kernel
theorem dX0_canBegin_7 : decode cX0_canBegin 7 = .ok (.iload_n 1, 1) := by decide +kernel
theorem dX0_canBegin_8 : decode cX0_canBegin 8 = .ok (.iaload, 1) := by decide +kernel
theorem dX0_canBegin_9 : decode cX0_canBegin 9 = .ok (.iconst 1, 1) := by decide +kernel
theorem dX0_canBegin_10 : decode cX0_canBegin 10 = .ok (.if_icmp .ne 23, 3) := by decide +kernel
theorem dX0_canBegin_13 : decode cX0_canBegin 13 = .ok (.iload_n 2, 1) := by decide +kernel
theorem dX0_canBegin_14 : decode cX0_canBegin 14 = .ok (.aload_n 0, 1) := by decide +kernel
theorem dX0_canBegin_15 : decode cX0_canBegin 15 = .ok (.getfield 50, 3) := by decide +kernel
theorem dX0_canBegin_18 : decode cX0_canBegin 18 = .ok (.getfield 121, 3) := by decide +kernel
theorem dX0_canBegin_21 : decode cX0_canBegin 21 = .ok (.iload_n 1, 1) := by decide +kernel
theorem dX0_canBegin_22 : decode cX0_canBegin 22 = .ok (.iaload, 1) := by decide +kernel
theorem dX0_canBegin_23 : decode cX0_canBegin 23 = .ok (.iadd, 1) := by decide +kernel
theorem dX0_canBegin_24 : decode cX0_canBegin 24 = .ok (.bipush 24, 2) := by decide +kernel
theorem dX0_canBegin_26 : decode cX0_canBegin 26 = .ok (.if_icmp .gt 7, 3) := by decide +kernel
theorem dX0_canBegin_29 : decode cX0_canBegin 29 = .ok (.iconst 1, 1) := by decide +kernel
theorem dX0_canBegin_30 : decode cX0_canBegin 30 = .ok (.goto 4, 3) := by decide +kernel
theorem dX0_canBegin_33 : decode cX0_canBegin 33 = .ok (.iconst 0, 1) := by decide +kernel
theorem dX0_canBegin_34 : decode cX0_canBegin 34 = .ok (.ireturn, 1) := by decide +kernel
theorem dX0_begun_0 : decode cX0_begun 0 = .ok (.aload_n 0, 1) := by decide +kernel
theorem dX0_begun_1 : decode cX0_begun 1 = .ok (.getfield 50, 3) := by decide +kernel
theorem dX0_begun_4 : decode cX0_begun 4 = .ok (.iload_n 1, 1) := by decide +kernel
theorem dX0_begun_5 : decode cX0_begun 5 = .ok (.invokevirtual 117, 3) := by decide +kernel
theorem dX0_begun_8 : decode cX0_begun 8 = .ok (.iload_n 3, 1) := by decide +kernel
theorem dX0_begun_9 : decode cX0_begun 9 = .ok (.iconst (-1), 1) := by decide +kernel
theorem dX0_begun_10 : decode cX0_begun 10 = .ok (.ixor, 1) := by decide +kernel
theorem dX0_begun_11 : decode cX0_begun 11 = .ok (.iand, 1) := by decide +kernel
theorem dX0_begun_12 : decode cX0_begun 12 = .ok (.ifCond .eq 5, 3) := by decide +kernel
theorem dX0_begun_15 : decode cX0_begun 15 = .ok (.iconst (-1), 1) := by decide +kernel
theorem dX0_begun_16 : decode cX0_begun 16 = .ok (.ireturn, 1) := by decide +kernel
theorem dX0_begun_17 : decode cX0_begun 17 = .ok (.aload_n 0, 1) := by decide +kernel
theorem dX0_begun_18 : decode cX0_begun 18 = .ok (.getfield 30, 3) := by decide +kernel
theorem dX0_begun_21 : decode cX0_begun 21 = .ok (.iload_n 3, 1) := by decide +kernel
theorem dX0_begun_22 : decode cX0_begun 22 = .ok (.invokevirtual 134, 3) := by decide +kernel
theorem dX0_begun_25 : decode cX0_begun 25 = .ok (.aload_n 0, 1) := by decide +kernel
theorem dX0_begun_26 : decode cX0_begun 26 = .ok (.iload_n 1, 1) := by decide +kernel
theorem dX0_begun_27 : decode cX0_begun 27 = .ok (.iload_n 2, 1) := by decide +kernel
theorem dX0_begun_28 : decode cX0_begun 28 = .ok (.invokevirtual 155, 3) := by decide +kernel
theorem dX0_begun_31 : decode cX0_begun 31 = .ok (.aload_n 0, 1) := by decide +kernel
theorem dX0_begun_32 : decode cX0_begun 32 = .ok (.getfield 30, 3) := by decide +kernel
theorem dX0_begun_35 : decode cX0_begun 35 = .ok (.getfield 140, 3) := by decide +kernel
theorem dX0_begun_38 : decode cX0_begun 38 = .ok (.aload_n 0, 1) := by decide +kernel
theorem dX0_begun_39 : decode cX0_begun 39 = .ok (.getfield 9, 3) := by decide +kernel
theorem dX0_begun_42 : decode cX0_begun 42 = .ok (.iload_n 2, 1) := by decide +kernel
theorem dX0_begun_43 : decode cX0_begun 43 = .ok (.aload_n 0, 1) := by decide +kernel
theorem dX0_begun_44 : decode cX0_begun 44 = .ok (.getfield 50, 3) := by decide +kernel
theorem dX0_begun_47 : decode cX0_begun 47 = .ok (.getfield 121, 3) := by decide +kernel
theorem dX0_begun_50 : decode cX0_begun 50 = .ok (.iload_n 1, 1) := by decide +kernel
theorem dX0_begun_51 : decode cX0_begun 51 = .ok (.iaload, 1) := by decide +kernel
theorem dX0_begun_52 : decode cX0_begun 52 = .ok (.iadd, 1) := by decide +kernel
theorem dX0_begun_53 : decode cX0_begun 53 = .ok (.sipush 256, 3) := by decide +kernel
theorem dX0_begun_56 : decode cX0_begun 56 = .ok (.imul, 1) := by decide +kernel
theorem dX0_begun_57 : decode cX0_begun 57 = .ok (.aload_n 0, 1) := by decide +kernel
theorem dX0_begun_58 : decode cX0_begun 58 = .ok (.getfield 30, 3) := by decide +kernel
theorem dX0_begun_61 : decode cX0_begun 61 = .ok (.getfield 143, 3) := by decide +kernel
theorem dX0_begun_64 : decode cX0_begun 64 = .ok (.iadd, 1) := by decide +kernel
theorem dX0_begun_65 : decode cX0_begun 65 = .ok (.iaload, 1) := by decide +kernel
theorem dX0_begun_66 : decode cX0_begun 66 = .ok (.iadd, 1) := by decide +kernel
theorem dX0_begun_67 : decode cX0_begun 67 = .ok (.ireturn, 1) := by decide +kernel
theorem dX0_make_0 : decode cX0_make 0 = .ok (.aload_n 0, 1) := by decide +kernel
theorem dX0_make_1 : decode cX0_make 1 = .ok (.getfield 30, 3) := by decide +kernel
theorem dX0_make_4 : decode cX0_make 4 = .ok (.dup, 1) := by decide +kernel
theorem dX0_make_5 : decode cX0_make 5 = .ok (.getfield 143, 3) := by decide +kernel
theorem dX0_make_8 : decode cX0_make 8 = .ok (.aload_n 0, 1) := by decide +kernel
theorem dX0_make_9 : decode cX0_make 9 = .ok (.getfield 50, 3) := by decide +kernel
theorem dX0_make_12 : decode cX0_make 12 = .ok (.getfield 146, 3) := by decide +kernel
theorem dX0_make_15 : decode cX0_make 15 = .ok (.iload_n 1, 1) := by decide +kernel
theorem dX0_make_16 : decode cX0_make 16 = .ok (.iaload, 1) := by decide +kernel
theorem dX0_make_17 : decode cX0_make 17 = .ok (.iconst (-1), 1) := by decide +kernel
theorem dX0_make_18 : decode cX0_make 18 = .ok (.ixor, 1) := by decide +kernel
theorem dX0_make_19 : decode cX0_make 19 = .ok (.iand, 1) := by decide +kernel
theorem dX0_make_20 : decode cX0_make 20 = .ok (.putfield 143, 3) := by decide +kernel
theorem dX0_make_23 : decode cX0_make 23 = .ok (.aload_n 0, 1) := by decide +kernel
theorem dX0_make_24 : decode cX0_make 24 = .ok (.getfield 30, 3) := by decide +kernel
theorem dX0_make_27 : decode cX0_make 27 = .ok (.aload_n 0, 1) := by decide +kernel
theorem dX0_make_28 : decode cX0_make 28 = .ok (.getfield 50, 3) := by decide +kernel
theorem dX0_make_31 : decode cX0_make 31 = .ok (.iload_n 2, 1) := by decide +kernel
theorem dX0_make_32 : decode cX0_make 32 = .ok (.iconst 1, 1) := by decide +kernel
theorem dX0_make_33 : decode cX0_make 33 = .ok (.iadd, 1) := by decide +kernel
theorem dX0_make_34 : decode cX0_make 34 = .ok (.iload_n 2, 1) := by decide +kernel
theorem dX0_make_35 : decode cX0_make 35 = .ok (.aload_n 0, 1) := by decide +kernel
theorem dX0_make_36 : decode cX0_make 36 = .ok (.getfield 50, 3) := by decide +kernel
theorem dX0_make_39 : decode cX0_make 39 = .ok (.getfield 121, 3) := by decide +kernel
theorem dX0_make_42 : decode cX0_make 42 = .ok (.iload_n 1, 1) := by decide +kernel
theorem dX0_make_43 : decode cX0_make 43 = .ok (.iaload, 1) := by decide +kernel
theorem dX0_make_44 : decode cX0_make 44 = .ok (.iadd, 1) := by decide +kernel
theorem dX0_make_45 : decode cX0_make 45 = .ok (.invokevirtual 137, 3) := by decide +kernel
theorem dX0_make_48 : decode cX0_make 48 = .ok (.aload_n 0, 1) := by decide +kernel
theorem dX0_make_49 : decode cX0_make 49 = .ok (.getfield 30, 3) := by decide +kernel
theorem dX0_make_52 : decode cX0_make 52 = .ok (.dup, 1) := by decide +kernel
theorem dX0_make_53 : decode cX0_make 53 = .ok (.getfield 143, 3) := by decide +kernel
theorem dX0_make_56 : decode cX0_make 56 = .ok (.iconst 1, 1) := by decide +kernel
theorem dX0_make_57 : decode cX0_make 57 = .ok (.aload_n 0, 1) := by decide +kernel
theorem dX0_make_58 : decode cX0_make 58 = .ok (.getfield 50, 3) := by decide +kernel
theorem dX0_make_61 : decode cX0_make 61 = .ok (.getfield 149, 3) := by decide +kernel
theorem dX0_make_64 : decode cX0_make 64 = .ok (.iload_n 1, 1) := by decide +kernel
theorem dX0_make_65 : decode cX0_make 65 = .ok (.iaload, 1) := by decide +kernel
theorem dX0_make_66 : decode cX0_make 66 = .ok (.ishl, 1) := by decide +kernel
theorem dX0_make_67 : decode cX0_make 67 = .ok (.ior, 1) := by decide +kernel
theorem dX0_make_68 : decode cX0_make 68 = .ok (.putfield 143, 3) := by decide +kernel
theorem dX0_make_71 : decode cX0_make 71 = .ok (.return_, 1) := by decide +kernel
theorem dX0_walk_0 : decode cX0_walk 0 = .ok (.iload_n 1, 1) := by decide +kernel
theorem dX0_walk_1 : decode cX0_walk 1 = .ok (.istore_n 3, 1) := by decide +kernel
theorem dX0_walk_2 : decode cX0_walk 2 = .ok (.iload_n 2, 1) := by decide +kernel
theorem dX0_walk_3 : decode cX0_walk 3 = .ok (.istore 4, 2) := by decide +kernel
theorem dX0_walk_5 : decode cX0_walk 5 = .ok (.aload_n 0, 1) := by decide +kernel
theorem dX0_walk_6 : decode cX0_walk 6 = .ok (.iconst 0, 1) := by decide +kernel
theorem dX0_walk_7 : decode cX0_walk 7 = .ok (.putfield 158, 3) := by decide +kernel
theorem dX0_walk_10 : decode cX0_walk 10 = .ok (.iconst 0, 1) := by decide +kernel
theorem dX0_walk_11 : decode cX0_walk 11 = .ok (.istore 5, 2) := by decide +kernel
theorem dX0_walk_13 : decode cX0_walk 13 = .ok (.iload 5, 2) := by decide +kernel
theorem dX0_walk_15 : decode cX0_walk 15 = .ok (.bipush 24, 2) := by decide +kernel
theorem dX0_walk_17 : decode cX0_walk 17 = .ok (.if_icmp .ge 137, 3) := by decide +kernel
theorem dX0_walk_20 : decode cX0_walk 20 = .ok (.iload 4, 2) := by decide +kernel
theorem dX0_walk_22 : decode cX0_walk 22 = .ok (.bipush 24, 2) := by decide +kernel
theorem dX0_walk_24 : decode cX0_walk 24 = .ok (.if_icmp .ge 130, 3) := by decide +kernel
theorem dX0_walk_27 : decode cX0_walk 27 = .ok (.aload_n 0, 1) := by decide +kernel
theorem dX0_walk_28 : decode cX0_walk 28 = .ok (.getfield 30, 3) := by decide +kernel
theorem dX0_walk_31 : decode cX0_walk 31 = .ok (.iload_n 3, 1) := by decide +kernel
theorem dX0_walk_32 : decode cX0_walk 32 = .ok (.invokevirtual 134, 3) := by decide +kernel
theorem dX0_walk_35 : decode cX0_walk 35 = .ok (.aload_n 0, 1) := by decide +kernel
theorem dX0_walk_36 : decode cX0_walk 36 = .ok (.getfield 30, 3) := by decide +kernel
theorem dX0_walk_39 : decode cX0_walk 39 = .ok (.aload_n 0, 1) := by decide +kernel
theorem dX0_walk_40 : decode cX0_walk 40 = .ok (.getfield 50, 3) := by decide +kernel
theorem dX0_walk_43 : decode cX0_walk 43 = .ok (.iload 4, 2) := by decide +kernel
theorem dX0_walk_45 : decode cX0_walk 45 = .ok (.iload 4, 2) := by decide +kernel
theorem dX0_walk_47 : decode cX0_walk 47 = .ok (.iconst 1, 1) := by decide +kernel
theorem dX0_walk_48 : decode cX0_walk 48 = .ok (.iadd, 1) := by decide +kernel
theorem dX0_walk_49 : decode cX0_walk 49 = .ok (.invokevirtual 137, 3) := by decide +kernel
theorem dX0_walk_52 : decode cX0_walk 52 = .ok (.aload_n 0, 1) := by decide +kernel
theorem dX0_walk_53 : decode cX0_walk 53 = .ok (.getfield 30, 3) := by decide +kernel
theorem dX0_walk_56 : decode cX0_walk 56 = .ok (.getfield 143, 3) := by decide +kernel
theorem dX0_walk_59 : decode cX0_walk 59 = .ok (.istore_n 3, 1) := by decide +kernel
theorem dX0_walk_60 : decode cX0_walk 60 = .ok (.aload_n 0, 1) := by decide +kernel
theorem dX0_walk_61 : decode cX0_walk 61 = .ok (.iload 4, 2) := by decide +kernel
theorem dX0_walk_63 : decode cX0_walk 63 = .ok (.iload_n 3, 1) := by decide +kernel
theorem dX0_walk_64 : decode cX0_walk 64 = .ok (.invokevirtual 161, 3) := by decide +kernel
theorem dX0_walk_67 : decode cX0_walk 67 = .ok (.istore 6, 2) := by decide +kernel
theorem dX0_walk_69 : decode cX0_walk 69 = .ok (.aload_n 0, 1) := by decide +kernel
theorem dX0_walk_70 : decode cX0_walk 70 = .ok (.getfield 34, 3) := by decide +kernel
theorem dX0_walk_73 : decode cX0_walk 73 = .ok (.iload 5, 2) := by decide +kernel
theorem dX0_walk_75 : decode cX0_walk 75 = .ok (.iload 6, 2) := by decide +kernel
theorem dX0_walk_77 : decode cX0_walk 77 = .ok (.iastore, 1) := by decide +kernel
theorem dX0_walk_78 : decode cX0_walk 78 = .ok (.aload_n 0, 1) := by decide +kernel
theorem dX0_walk_79 : decode cX0_walk 79 = .ok (.getfield 37, 3) := by decide +kernel
theorem dX0_walk_82 : decode cX0_walk 82 = .ok (.iload 5, 2) := by decide +kernel
theorem dX0_walk_84 : decode cX0_walk 84 = .ok (.iload 4, 2) := by decide +kernel
theorem dX0_walk_86 : decode cX0_walk 86 = .ok (.iastore, 1) := by decide +kernel
theorem dX0_walk_87 : decode cX0_walk 87 = .ok (.aload_n 0, 1) := by decide +kernel
theorem dX0_walk_88 : decode cX0_walk 88 = .ok (.dup, 1) := by decide +kernel
theorem dX0_walk_89 : decode cX0_walk 89 = .ok (.getfield 158, 3) := by decide +kernel
theorem dX0_walk_92 : decode cX0_walk 92 = .ok (.iconst 1, 1) := by decide +kernel
theorem dX0_walk_93 : decode cX0_walk 93 = .ok (.iadd, 1) := by decide +kernel
theorem dX0_walk_94 : decode cX0_walk 94 = .ok (.putfield 158, 3) := by decide +kernel
theorem dX0_walk_97 : decode cX0_walk 97 = .ok (.iload 6, 2) := by decide +kernel
theorem dX0_walk_99 : decode cX0_walk 99 = .ok (.iconst (-1), 1) := by decide +kernel
theorem dX0_walk_100 : decode cX0_walk 100 = .ok (.if_icmp .ne 9, 3) := by decide +kernel
theorem dX0_walk_103 : decode cX0_walk 103 = .ok (.iinc 4 1, 3) := by decide +kernel
theorem dX0_walk_106 : decode cX0_walk 106 = .ok (.goto 42, 3) := by decide +kernel
theorem dX0_walk_109 : decode cX0_walk 109 = .ok (.aload_n 0, 1) := by decide +kernel
theorem dX0_walk_110 : decode cX0_walk 110 = .ok (.getfield 30, 3) := by decide +kernel
theorem dX0_walk_113 : decode cX0_walk 113 = .ok (.iload_n 3, 1) := by decide +kernel
theorem dX0_walk_114 : decode cX0_walk 114 = .ok (.invokevirtual 134, 3) := by decide +kernel
theorem dX0_walk_117 : decode cX0_walk 117 = .ok (.aload_n 0, 1) := by decide +kernel
theorem dX0_walk_118 : decode cX0_walk 118 = .ok (.iload 6, 2) := by decide +kernel
theorem dX0_walk_120 : decode cX0_walk 120 = .ok (.iload 4, 2) := by decide +kernel
theorem dX0_walk_122 : decode cX0_walk 122 = .ok (.invokevirtual 155, 3) := by decide +kernel
theorem dX0_walk_125 : decode cX0_walk 125 = .ok (.aload_n 0, 1) := by decide +kernel
theorem dX0_walk_126 : decode cX0_walk 126 = .ok (.getfield 30, 3) := by decide +kernel
theorem dX0_walk_129 : decode cX0_walk 129 = .ok (.getfield 143, 3) := by decide +kernel
theorem dX0_walk_132 : decode cX0_walk 132 = .ok (.istore_n 3, 1) := by decide +kernel
theorem dX0_walk_133 : decode cX0_walk 133 = .ok (.iload 4, 2) := by decide +kernel
theorem dX0_walk_135 : decode cX0_walk 135 = .ok (.aload_n 0, 1) := by decide +kernel
theorem dX0_walk_136 : decode cX0_walk 136 = .ok (.getfield 50, 3) := by decide +kernel
theorem dX0_walk_139 : decode cX0_walk 139 = .ok (.getfield 121, 3) := by decide +kernel
theorem dX0_walk_142 : decode cX0_walk 142 = .ok (.iload 6, 2) := by decide +kernel
theorem dX0_walk_144 : decode cX0_walk 144 = .ok (.iaload, 1) := by decide +kernel
theorem dX0_walk_145 : decode cX0_walk 145 = .ok (.iadd, 1) := by decide +kernel
theorem dX0_walk_146 : decode cX0_walk 146 = .ok (.istore 4, 2) := by decide +kernel
theorem dX0_walk_148 : decode cX0_walk 148 = .ok (.iinc 5 1, 3) := by decide +kernel
theorem dX0_walk_151 : decode cX0_walk 151 = .ok (.goto (-138), 3) := by decide +kernel
theorem dX0_walk_154 : decode cX0_walk 154 = .ok (.aload_n 0, 1) := by decide +kernel
theorem dX0_walk_155 : decode cX0_walk 155 = .ok (.getfield 30, 3) := by decide +kernel
theorem dX0_walk_158 : decode cX0_walk 158 = .ok (.iload_n 3, 1) := by decide +kernel
theorem dX0_walk_159 : decode cX0_walk 159 = .ok (.invokevirtual 134, 3) := by decide +kernel
theorem dX0_walk_162 : decode cX0_walk 162 = .ok (.aload_n 0, 1) := by decide +kernel
theorem dX0_walk_163 : decode cX0_walk 163 = .ok (.getfield 30, 3) := by decide +kernel
theorem dX0_walk_166 : decode cX0_walk 166 = .ok (.aload_n 0, 1) := by decide +kernel
theorem dX0_walk_167 : decode cX0_walk 167 = .ok (.getfield 50, 3) := by decide +kernel
theorem dX0_walk_170 : decode cX0_walk 170 = .ok (.bipush 24, 2) := by decide +kernel
theorem dX0_walk_172 : decode cX0_walk 172 = .ok (.bipush 25, 2) := by decide +kernel
theorem dX0_walk_174 : decode cX0_walk 174 = .ok (.invokevirtual 137, 3) := by decide +kernel
theorem dX0_walk_177 : decode cX0_walk 177 = .ok (.aload_n 0, 1) := by decide +kernel
theorem dX0_walk_178 : decode cX0_walk 178 = .ok (.aload_n 0, 1) := by decide +kernel
theorem dX0_walk_179 : decode cX0_walk 179 = .ok (.getfield 30, 3) := by decide +kernel
theorem dX0_walk_182 : decode cX0_walk 182 = .ok (.getfield 143, 3) := by decide +kernel
theorem dX0_walk_185 : decode cX0_walk 185 = .ok (.putfield 164, 3) := by decide +kernel
theorem dX0_walk_188 : decode cX0_walk 188 = .ok (.return_, 1) := by decide +kernel
theorem dX0_firstBest_0 : decode cX0_firstBest 0 = .ok (.iconst (-1), 1) := by decide +kernel
theorem dX0_firstBest_1 : decode cX0_firstBest 1 = .ok (.istore_n 3, 1) := by decide +kernel
theorem dX0_firstBest_2 : decode cX0_firstBest 2 = .ok (.aload_n 0, 1) := by decide +kernel
theorem dX0_firstBest_3 : decode cX0_firstBest 3 = .ok (.getfield 9, 3) := by decide +kernel
theorem dX0_firstBest_6 : decode cX0_firstBest 6 = .ok (.iload_n 1, 1) := by decide +kernel
theorem dX0_firstBest_7 : decode cX0_firstBest 7 = .ok (.iconst 1, 1) := by decide +kernel
theorem dX0_firstBest_8 : decode cX0_firstBest 8 = .ok (.iadd, 1) := by decide +kernel
theorem dX0_firstBest_9 : decode cX0_firstBest 9 = .ok (.sipush 256, 3) := by decide +kernel
theorem dX0_firstBest_12 : decode cX0_firstBest 12 = .ok (.imul, 1) := by decide +kernel
theorem dX0_firstBest_13 : decode cX0_firstBest 13 = .ok (.iload_n 2, 1) := by decide +kernel
theorem dX0_firstBest_14 : decode cX0_firstBest 14 = .ok (.iadd, 1) := by decide +kernel
theorem dX0_firstBest_15 : decode cX0_firstBest 15 = .ok (.iaload, 1) := by decide +kernel
theorem dX0_firstBest_16 : decode cX0_firstBest 16 = .ok (.istore 4, 2) := by decide +kernel
theorem dX0_firstBest_18 : decode cX0_firstBest 18 = .ok (.iconst 0, 1) := by decide +kernel
theorem dX0_firstBest_19 : decode cX0_firstBest 19 = .ok (.istore 5, 2) := by decide +kernel
theorem dX0_firstBest_21 : decode cX0_firstBest 21 = .ok (.iload 5, 2) := by decide +kernel
theorem dX0_firstBest_23 : decode cX0_firstBest 23 = .ok (.aload_n 0, 1) := by decide +kernel
theorem dX0_firstBest_24 : decode cX0_firstBest 24 = .ok (.getfield 50, 3) := by decide +kernel
theorem dX0_firstBest_27 : decode cX0_firstBest 27 = .ok (.getfield 100, 3) := by decide +kernel
theorem dX0_firstBest_30 : decode cX0_firstBest 30 = .ok (.getfield 104, 3) := by decide +kernel
theorem dX0_firstBest_33 : decode cX0_firstBest 33 = .ok (.if_icmp .ge 59, 3) := by decide +kernel
theorem dX0_firstBest_36 : decode cX0_firstBest 36 = .ok (.aload_n 0, 1) := by decide +kernel
theorem dX0_firstBest_37 : decode cX0_firstBest 37 = .ok (.iload 5, 2) := by decide +kernel
theorem dX0_firstBest_39 : decode cX0_firstBest 39 = .ok (.iload_n 1, 1) := by decide +kernel
theorem dX0_firstBest_40 : decode cX0_firstBest 40 = .ok (.invokevirtual 109, 3) := by decide +kernel
theorem dX0_firstBest_43 : decode cX0_firstBest 43 = .ok (.ifCond .eq 14, 3) := by decide +kernel
theorem dX0_firstBest_46 : decode cX0_firstBest 46 = .ok (.aload_n 0, 1) := by decide +kernel
theorem dX0_firstBest_47 : decode cX0_firstBest 47 = .ok (.iload 5, 2) := by decide +kernel
theorem dX0_firstBest_49 : decode cX0_firstBest 49 = .ok (.iload_n 1, 1) := by decide +kernel
theorem dX0_firstBest_50 : decode cX0_firstBest 50 = .ok (.iload_n 2, 1) := by decide +kernel
theorem dX0_firstBest_51 : decode cX0_firstBest 51 = .ok (.invokevirtual 127, 3) := by decide +kernel
theorem dX0_firstBest_54 : decode cX0_firstBest 54 = .ok (.goto 4, 3) := by decide +kernel
theorem dX0_firstBest_57 : decode cX0_firstBest 57 = .ok (.iconst (-1), 1) := by decide +kernel
theorem dX0_firstBest_58 : decode cX0_firstBest 58 = .ok (.istore 6, 2) := by decide +kernel
theorem dX0_firstBest_60 : decode cX0_firstBest 60 = .ok (.iload 6, 2) := by decide +kernel
theorem dX0_firstBest_62 : decode cX0_firstBest 62 = .ok (.iload 4, 2) := by decide +kernel
theorem dX0_firstBest_64 : decode cX0_firstBest 64 = .ok (.if_icmp .gt 15, 3) := by decide +kernel
theorem dX0_firstBest_67 : decode cX0_firstBest 67 = .ok (.iload 6, 2) := by decide +kernel
theorem dX0_firstBest_69 : decode cX0_firstBest 69 = .ok (.iload 4, 2) := by decide +kernel
theorem dX0_firstBest_71 : decode cX0_firstBest 71 = .ok (.if_icmp .ne 15, 3) := by decide +kernel
theorem dX0_firstBest_74 : decode cX0_firstBest 74 = .ok (.iload_n 3, 1) := by decide +kernel
theorem dX0_firstBest_75 : decode cX0_firstBest 75 = .ok (.iconst (-1), 1) := by decide +kernel
theorem dX0_firstBest_76 : decode cX0_firstBest 76 = .ok (.if_icmp .ne 10, 3) := by decide +kernel
theorem dX0_firstBest_79 : decode cX0_firstBest 79 = .ok (.iload 5, 2) := by decide +kernel
theorem dX0_firstBest_81 : decode cX0_firstBest 81 = .ok (.istore_n 3, 1) := by decide +kernel
theorem dX0_firstBest_82 : decode cX0_firstBest 82 = .ok (.iload 6, 2) := by decide +kernel
theorem dX0_firstBest_84 : decode cX0_firstBest 84 = .ok (.istore 4, 2) := by decide +kernel
theorem dX0_firstBest_86 : decode cX0_firstBest 86 = .ok (.iinc 5 1, 3) := by decide +kernel
theorem dX0_firstBest_89 : decode cX0_firstBest 89 = .ok (.goto (-68), 3) := by decide +kernel
theorem dX0_firstBest_92 : decode cX0_firstBest 92 = .ok (.iload_n 3, 1) := by decide +kernel
theorem dX0_firstBest_93 : decode cX0_firstBest 93 = .ok (.ireturn, 1) := by decide +kernel
theorem dX0_chooseNight_0 : decode cX0_chooseNight 0 = .ok (.aload_n 0, 1) := by decide +kernel
theorem dX0_chooseNight_1 : decode cX0_chooseNight 1 = .ok (.iload_n 2, 1) := by decide +kernel
theorem dX0_chooseNight_2 : decode cX0_chooseNight 2 = .ok (.iconst 1, 1) := by decide +kernel
theorem dX0_chooseNight_3 : decode cX0_chooseNight 3 = .ok (.if_icmp .le 7, 3) := by decide +kernel
theorem dX0_chooseNight_6 : decode cX0_chooseNight 6 = .ok (.iconst 1, 1) := by decide +kernel
theorem dX0_chooseNight_7 : decode cX0_chooseNight 7 = .ok (.goto 4, 3) := by decide +kernel
theorem dX0_chooseNight_10 : decode cX0_chooseNight 10 = .ok (.iconst 0, 1) := by decide +kernel
theorem dX0_chooseNight_11 : decode cX0_chooseNight 11 = .ok (.putfield 167, 3) := by decide +kernel
theorem dX0_chooseNight_14 : decode cX0_chooseNight 14 = .ok (.aload_n 0, 1) := by decide +kernel
theorem dX0_chooseNight_15 : decode cX0_chooseNight 15 = .ok (.getfield 167, 3) := by decide +kernel
theorem dX0_chooseNight_18 : decode cX0_chooseNight 18 = .ok (.ifCond .ne 4, 3) := by decide +kernel
theorem dX0_chooseNight_21 : decode cX0_chooseNight 21 = .ok (.return_, 1) := by decide +kernel
theorem dX0_chooseNight_22 : decode cX0_chooseNight 22 = .ok (.aload_n 1, 1) := by decide +kernel
theorem dX0_chooseNight_23 : decode cX0_chooseNight 23 = .ok (.aload_n 0, 1) := by decide +kernel
theorem dX0_chooseNight_24 : decode cX0_chooseNight 24 = .ok (.getfield 50, 3) := by decide +kernel
theorem dX0_chooseNight_27 : decode cX0_chooseNight 27 = .ok (.aload_n 0, 1) := by decide +kernel
theorem dX0_chooseNight_28 : decode cX0_chooseNight 28 = .ok (.getfield 164, 3) := by decide +kernel
theorem dX0_chooseNight_31 : decode cX0_chooseNight 31 = .ok (.iload_n 3, 1) := by decide +kernel
theorem dX0_chooseNight_32 : decode cX0_chooseNight 32 = .ok (.bipush 7, 2) := by decide +kernel
theorem dX0_chooseNight_34 : decode cX0_chooseNight 34 = .ok (.irem, 1) := by decide +kernel
theorem dX0_chooseNight_35 : decode cX0_chooseNight 35 = .ok (.invokevirtual 74, 3) := by decide +kernel
theorem dX0_chooseNight_38 : decode cX0_chooseNight 38 = .ok (.aload_n 1, 1) := by decide +kernel
theorem dX0_chooseNight_39 : decode cX0_chooseNight 39 = .ok (.aload_n 0, 1) := by decide +kernel
theorem dX0_chooseNight_40 : decode cX0_chooseNight 40 = .ok (.getfield 50, 3) := by decide +kernel
theorem dX0_chooseNight_43 : decode cX0_chooseNight 43 = .ok (.invokevirtual 80, 3) := by decide +kernel
theorem dX0_chooseNight_46 : decode cX0_chooseNight 46 = .ok (.iconst 0, 1) := by decide +kernel
theorem dX0_chooseNight_47 : decode cX0_chooseNight 47 = .ok (.istore 4, 2) := by decide +kernel
theorem dX0_chooseNight_49 : decode cX0_chooseNight 49 = .ok (.iconst 1, 1) := by decide +kernel
theorem dX0_chooseNight_50 : decode cX0_chooseNight 50 = .ok (.istore 5, 2) := by decide +kernel
theorem dX0_chooseNight_52 : decode cX0_chooseNight 52 = .ok (.iload 5, 2) := by decide +kernel
theorem dX0_chooseNight_54 : decode cX0_chooseNight 54 = .ok (.aload_n 1, 1) := by decide +kernel
theorem dX0_chooseNight_55 : decode cX0_chooseNight 55 = .ok (.getfield 84, 3) := by decide +kernel
theorem dX0_chooseNight_58 : decode cX0_chooseNight 58 = .ok (.if_icmp .ge 40, 3) := by decide +kernel
theorem dX0_chooseNight_61 : decode cX0_chooseNight 61 = .ok (.aload_n 0, 1) := by decide +kernel
theorem dX0_chooseNight_62 : decode cX0_chooseNight 62 = .ok (.getfield 15, 3) := by decide +kernel
theorem dX0_chooseNight_65 : decode cX0_chooseNight 65 = .ok (.aload_n 1, 1) := by decide +kernel
theorem dX0_chooseNight_66 : decode cX0_chooseNight 66 = .ok (.getfield 88, 3) := by decide +kernel
theorem dX0_chooseNight_69 : decode cX0_chooseNight 69 = .ok (.iload 5, 2) := by decide +kernel
theorem dX0_chooseNight_71 : decode cX0_chooseNight 71 = .ok (.iaload, 1) := by decide +kernel
theorem dX0_chooseNight_72 : decode cX0_chooseNight 72 = .ok (.iaload, 1) := by decide +kernel
theorem dX0_chooseNight_73 : decode cX0_chooseNight 73 = .ok (.aload_n 0, 1) := by decide +kernel
theorem dX0_chooseNight_74 : decode cX0_chooseNight 74 = .ok (.getfield 15, 3) := by decide +kernel
theorem dX0_chooseNight_77 : decode cX0_chooseNight 77 = .ok (.aload_n 1, 1) := by decide +kernel
theorem dX0_chooseNight_78 : decode cX0_chooseNight 78 = .ok (.getfield 88, 3) := by decide +kernel
theorem dX0_chooseNight_81 : decode cX0_chooseNight 81 = .ok (.iload 4, 2) := by decide +kernel
theorem dX0_chooseNight_83 : decode cX0_chooseNight 83 = .ok (.iaload, 1) := by decide +kernel
theorem dX0_chooseNight_84 : decode cX0_chooseNight 84 = .ok (.iaload, 1) := by decide +kernel
theorem dX0_chooseNight_85 : decode cX0_chooseNight 85 = .ok (.if_icmp .le 7, 3) := by decide +kernel
theorem dX0_chooseNight_88 : decode cX0_chooseNight 88 = .ok (.iload 5, 2) := by decide +kernel
theorem dX0_chooseNight_90 : decode cX0_chooseNight 90 = .ok (.istore 4, 2) := by decide +kernel
theorem dX0_chooseNight_92 : decode cX0_chooseNight 92 = .ok (.iinc 5 1, 3) := by decide +kernel
theorem dX0_chooseNight_95 : decode cX0_chooseNight 95 = .ok (.goto (-43), 3) := by decide +kernel
theorem dX0_chooseNight_98 : decode cX0_chooseNight 98 = .ok (.aload_n 0, 1) := by decide +kernel
theorem dX0_chooseNight_99 : decode cX0_chooseNight 99 = .ok (.getfield 40, 3) := by decide +kernel
theorem dX0_chooseNight_102 : decode cX0_chooseNight 102 = .ok (.iconst 0, 1) := by decide +kernel
theorem dX0_chooseNight_103 : decode cX0_chooseNight 103 = .ok (.aload_n 1, 1) := by decide +kernel
theorem dX0_chooseNight_104 : decode cX0_chooseNight 104 = .ok (.getfield 171, 3) := by decide +kernel
theorem dX0_chooseNight_107 : decode cX0_chooseNight 107 = .ok (.iload 4, 2) := by decide +kernel
theorem dX0_chooseNight_109 : decode cX0_chooseNight 109 = .ok (.iaload, 1) := by decide +kernel
theorem dX0_chooseNight_110 : decode cX0_chooseNight 110 = .ok (.iastore, 1) := by decide +kernel
theorem dX0_chooseNight_111 : decode cX0_chooseNight 111 = .ok (.aload_n 0, 1) := by decide +kernel
theorem dX0_chooseNight_112 : decode cX0_chooseNight 112 = .ok (.getfield 40, 3) := by decide +kernel
theorem dX0_chooseNight_115 : decode cX0_chooseNight 115 = .ok (.iconst 1, 1) := by decide +kernel
theorem dX0_chooseNight_116 : decode cX0_chooseNight 116 = .ok (.aload_n 1, 1) := by decide +kernel
theorem dX0_chooseNight_117 : decode cX0_chooseNight 117 = .ok (.getfield 174, 3) := by decide +kernel
theorem dX0_chooseNight_120 : decode cX0_chooseNight 120 = .ok (.iload 4, 2) := by decide +kernel
theorem dX0_chooseNight_122 : decode cX0_chooseNight 122 = .ok (.iaload, 1) := by decide +kernel
theorem dX0_chooseNight_123 : decode cX0_chooseNight 123 = .ok (.iastore, 1) := by decide +kernel
theorem dX0_chooseNight_124 : decode cX0_chooseNight 124 = .ok (.aload_n 0, 1) := by decide +kernel
theorem dX0_chooseNight_125 : decode cX0_chooseNight 125 = .ok (.getfield 40, 3) := by decide +kernel
theorem dX0_chooseNight_128 : decode cX0_chooseNight 128 = .ok (.iconst 2, 1) := by decide +kernel
theorem dX0_chooseNight_129 : decode cX0_chooseNight 129 = .ok (.aload_n 1, 1) := by decide +kernel
theorem dX0_chooseNight_130 : decode cX0_chooseNight 130 = .ok (.getfield 177, 3) := by decide +kernel
theorem dX0_chooseNight_133 : decode cX0_chooseNight 133 = .ok (.iload 4, 2) := by decide +kernel
theorem dX0_chooseNight_135 : decode cX0_chooseNight 135 = .ok (.iaload, 1) := by decide +kernel
theorem dX0_chooseNight_136 : decode cX0_chooseNight 136 = .ok (.iastore, 1) := by decide +kernel
theorem dX0_chooseNight_137 : decode cX0_chooseNight 137 = .ok (.aload_n 0, 1) := by decide +kernel
theorem dX0_chooseNight_138 : decode cX0_chooseNight 138 = .ok (.getfield 40, 3) := by decide +kernel
theorem dX0_chooseNight_141 : decode cX0_chooseNight 141 = .ok (.iconst 3, 1) := by decide +kernel
theorem dX0_chooseNight_142 : decode cX0_chooseNight 142 = .ok (.aload_n 1, 1) := by decide +kernel
theorem dX0_chooseNight_143 : decode cX0_chooseNight 143 = .ok (.getfield 88, 3) := by decide +kernel
theorem dX0_chooseNight_146 : decode cX0_chooseNight 146 = .ok (.iload 4, 2) := by decide +kernel
theorem dX0_chooseNight_148 : decode cX0_chooseNight 148 = .ok (.iaload, 1) := by decide +kernel
theorem dX0_chooseNight_149 : decode cX0_chooseNight 149 = .ok (.iastore, 1) := by decide +kernel
theorem dX0_chooseNight_150 : decode cX0_chooseNight 150 = .ok (.return_, 1) := by decide +kernel
theorem dX0_fewestHours_0 : decode cX0_fewestHours 0 = .ok (.aload_n 0, 1) := by decide +kernel
theorem dX0_fewestHours_1 : decode cX0_fewestHours 1 = .ok (.aload_n 1, 1) := by decide +kernel
theorem dX0_fewestHours_2 : decode cX0_fewestHours 2 = .ok (.putfield 50, 3) := by decide +kernel
theorem dX0_fewestHours_5 : decode cX0_fewestHours 5 = .ok (.iconst 0, 1) := by decide +kernel
theorem dX0_fewestHours_6 : decode cX0_fewestHours 6 = .ok (.istore 4, 2) := by decide +kernel
theorem dX0_fewestHours_8 : decode cX0_fewestHours 8 = .ok (.iload 4, 2) := by decide +kernel
theorem dX0_fewestHours_10 : decode cX0_fewestHours 10 = .ok (.sipush 256, 3) := by decide +kernel
theorem dX0_fewestHours_13 : decode cX0_fewestHours 13 = .ok (.if_icmp .ge 25, 3) := by decide +kernel
theorem dX0_fewestHours_16 : decode cX0_fewestHours 16 = .ok (.aload_n 0, 1) := by decide +kernel
theorem dX0_fewestHours_17 : decode cX0_fewestHours 17 = .ok (.getfield 43, 3) := by decide +kernel
theorem dX0_fewestHours_20 : decode cX0_fewestHours 20 = .ok (.iload 4, 2) := by decide +kernel
theorem dX0_fewestHours_22 : decode cX0_fewestHours 22 = .ok (.iconst (-1), 1) := by decide +kernel
theorem dX0_fewestHours_23 : decode cX0_fewestHours 23 = .ok (.iastore, 1) := by decide +kernel
theorem dX0_fewestHours_24 : decode cX0_fewestHours 24 = .ok (.aload_n 0, 1) := by decide +kernel
theorem dX0_fewestHours_25 : decode cX0_fewestHours 25 = .ok (.getfield 46, 3) := by decide +kernel
theorem dX0_fewestHours_28 : decode cX0_fewestHours 28 = .ok (.iload 4, 2) := by decide +kernel
theorem dX0_fewestHours_30 : decode cX0_fewestHours 30 = .ok (.iconst 0, 1) := by decide +kernel
theorem dX0_fewestHours_31 : decode cX0_fewestHours 31 = .ok (.bastore, 1) := by decide +kernel
theorem dX0_fewestHours_32 : decode cX0_fewestHours 32 = .ok (.iinc 4 1, 3) := by decide +kernel
theorem dX0_fewestHours_35 : decode cX0_fewestHours 35 = .ok (.goto (-27), 3) := by decide +kernel
theorem dX0_fewestHours_38 : decode cX0_fewestHours 38 = .ok (.aload_n 0, 1) := by decide +kernel
theorem dX0_fewestHours_39 : decode cX0_fewestHours 39 = .ok (.getfield 43, 3) := by decide +kernel
theorem dX0_fewestHours_42 : decode cX0_fewestHours 42 = .ok (.iload_n 3, 1) := by decide +kernel
theorem dX0_fewestHours_43 : decode cX0_fewestHours 43 = .ok (.iconst 0, 1) := by decide +kernel
theorem dX0_fewestHours_44 : decode cX0_fewestHours 44 = .ok (.iastore, 1) := by decide +kernel
theorem dX0_fewestHours_45 : decode cX0_fewestHours 45 = .ok (.iconst 0, 1) := by decide +kernel
theorem dX0_fewestHours_46 : decode cX0_fewestHours 46 = .ok (.istore 4, 2) := by decide +kernel
theorem dX0_fewestHours_48 : decode cX0_fewestHours 48 = .ok (.iload 4, 2) := by decide +kernel
theorem dX0_fewestHours_50 : decode cX0_fewestHours 50 = .ok (.aload_n 0, 1) := by decide +kernel
theorem dX0_fewestHours_51 : decode cX0_fewestHours 51 = .ok (.getfield 50, 3) := by decide +kernel
theorem dX0_fewestHours_54 : decode cX0_fewestHours 54 = .ok (.invokevirtual 68, 3) := by decide +kernel
theorem dX0_fewestHours_57 : decode cX0_fewestHours 57 = .ok (.if_icmp .ge 141, 3) := by decide +kernel
theorem dX0_fewestHours_60 : decode cX0_fewestHours 60 = .ok (.aload_n 0, 1) := by decide +kernel
theorem dX0_fewestHours_61 : decode cX0_fewestHours 61 = .ok (.invokevirtual 180, 3) := by decide +kernel
theorem dX0_fewestHours_64 : decode cX0_fewestHours 64 = .ok (.istore 5, 2) := by decide +kernel
theorem dX0_fewestHours_66 : decode cX0_fewestHours 66 = .ok (.iload 5, 2) := by decide +kernel
theorem dX0_fewestHours_68 : decode cX0_fewestHours 68 = .ok (.iconst (-1), 1) := by decide +kernel
theorem dX0_fewestHours_69 : decode cX0_fewestHours 69 = .ok (.if_icmp .eq 12, 3) := by decide +kernel
theorem dX0_fewestHours_72 : decode cX0_fewestHours 72 = .ok (.iload_n 2, 1) := by decide +kernel
theorem dX0_fewestHours_73 : decode cX0_fewestHours 73 = .ok (.iload 5, 2) := by decide +kernel
theorem dX0_fewestHours_75 : decode cX0_fewestHours 75 = .ok (.iconst (-1), 1) := by decide +kernel
theorem dX0_fewestHours_76 : decode cX0_fewestHours 76 = .ok (.ixor, 1) := by decide +kernel
theorem dX0_fewestHours_77 : decode cX0_fewestHours 77 = .ok (.iand, 1) := by decide +kernel
theorem dX0_fewestHours_78 : decode cX0_fewestHours 78 = .ok (.ifCond .ne 21, 3) := by decide +kernel
theorem dX0_fewestHours_81 : decode cX0_fewestHours 81 = .ok (.iload 5, 2) := by decide +kernel
theorem dX0_fewestHours_83 : decode cX0_fewestHours 83 = .ok (.iconst (-1), 1) := by decide +kernel
theorem dX0_fewestHours_84 : decode cX0_fewestHours 84 = .ok (.if_icmp .ne 7, 3) := by decide +kernel
theorem dX0_fewestHours_87 : decode cX0_fewestHours 87 = .ok (.iconst (-1), 1) := by decide +kernel
theorem dX0_fewestHours_88 : decode cX0_fewestHours 88 = .ok (.goto 10, 3) := by decide +kernel
theorem dX0_fewestHours_91 : decode cX0_fewestHours 91 = .ok (.aload_n 0, 1) := by decide +kernel
theorem dX0_fewestHours_92 : decode cX0_fewestHours 92 = .ok (.getfield 43, 3) := by decide +kernel
theorem dX0_fewestHours_95 : decode cX0_fewestHours 95 = .ok (.iload 5, 2) := by decide +kernel
theorem dX0_fewestHours_97 : decode cX0_fewestHours 97 = .ok (.iaload, 1) := by decide +kernel
theorem dX0_fewestHours_98 : decode cX0_fewestHours 98 = .ok (.ireturn, 1) := by decide +kernel
theorem dX0_fewestHours_99 : decode cX0_fewestHours 99 = .ok (.aload_n 0, 1) := by decide +kernel
theorem dX0_fewestHours_100 : decode cX0_fewestHours 100 = .ok (.getfield 46, 3) := by decide +kernel
theorem dX0_fewestHours_103 : decode cX0_fewestHours 103 = .ok (.iload 5, 2) := by decide +kernel
theorem dX0_fewestHours_105 : decode cX0_fewestHours 105 = .ok (.iconst 1, 1) := by decide +kernel
theorem dX0_fewestHours_106 : decode cX0_fewestHours 106 = .ok (.bastore, 1) := by decide +kernel
theorem dX0_fewestHours_107 : decode cX0_fewestHours 107 = .ok (.iconst 0, 1) := by decide +kernel
theorem dX0_fewestHours_108 : decode cX0_fewestHours 108 = .ok (.istore 6, 2) := by decide +kernel
theorem dX0_fewestHours_110 : decode cX0_fewestHours 110 = .ok (.iload 6, 2) := by decide +kernel
theorem dX0_fewestHours_112 : decode cX0_fewestHours 112 = .ok (.aload_n 0, 1) := by decide +kernel
theorem dX0_fewestHours_113 : decode cX0_fewestHours 113 = .ok (.getfield 50, 3) := by decide +kernel
theorem dX0_fewestHours_116 : decode cX0_fewestHours 116 = .ok (.getfield 100, 3) := by decide +kernel
theorem dX0_fewestHours_119 : decode cX0_fewestHours 119 = .ok (.getfield 104, 3) := by decide +kernel
theorem dX0_fewestHours_122 : decode cX0_fewestHours 122 = .ok (.if_icmp .ge 70, 3) := by decide +kernel
theorem dX0_fewestHours_125 : decode cX0_fewestHours 125 = .ok (.aload_n 0, 1) := by decide +kernel
theorem dX0_fewestHours_126 : decode cX0_fewestHours 126 = .ok (.getfield 50, 3) := by decide +kernel
theorem dX0_fewestHours_129 : decode cX0_fewestHours 129 = .ok (.getfield 152, 3) := by decide +kernel
theorem dX0_fewestHours_132 : decode cX0_fewestHours 132 = .ok (.iload 6, 2) := by decide +kernel
theorem dX0_fewestHours_134 : decode cX0_fewestHours 134 = .ok (.iaload, 1) := by decide +kernel
theorem dX0_fewestHours_135 : decode cX0_fewestHours 135 = .ok (.iconst 1, 1) := by decide +kernel
theorem dX0_fewestHours_136 : decode cX0_fewestHours 136 = .ok (.if_icmp .ne 50, 3) := by decide +kernel
theorem dX0_fewestHours_139 : decode cX0_fewestHours 139 = .ok (.aload_n 0, 1) := by decide +kernel
theorem dX0_fewestHours_140 : decode cX0_fewestHours 140 = .ok (.getfield 50, 3) := by decide +kernel
theorem dX0_fewestHours_143 : decode cX0_fewestHours 143 = .ok (.iload 6, 2) := by decide +kernel
theorem dX0_fewestHours_145 : decode cX0_fewestHours 145 = .ok (.invokevirtual 117, 3) := by decide +kernel
theorem dX0_fewestHours_148 : decode cX0_fewestHours 148 = .ok (.iload 5, 2) := by decide +kernel
theorem dX0_fewestHours_150 : decode cX0_fewestHours 150 = .ok (.iconst (-1), 1) := by decide +kernel
theorem dX0_fewestHours_151 : decode cX0_fewestHours 151 = .ok (.ixor, 1) := by decide +kernel
theorem dX0_fewestHours_152 : decode cX0_fewestHours 152 = .ok (.iand, 1) := by decide +kernel
theorem dX0_fewestHours_153 : decode cX0_fewestHours 153 = .ok (.ifCond .ne 33, 3) := by decide +kernel
theorem dX0_fewestHours_156 : decode cX0_fewestHours 156 = .ok (.aload_n 0, 1) := by decide +kernel
theorem dX0_fewestHours_157 : decode cX0_fewestHours 157 = .ok (.aload_n 0, 1) := by decide +kernel
theorem dX0_fewestHours_158 : decode cX0_fewestHours 158 = .ok (.iload 6, 2) := by decide +kernel
theorem dX0_fewestHours_160 : decode cX0_fewestHours 160 = .ok (.iload 5, 2) := by decide +kernel
theorem dX0_fewestHours_162 : decode cX0_fewestHours 162 = .ok (.invokevirtual 131, 3) := by decide +kernel
theorem dX0_fewestHours_165 : decode cX0_fewestHours 165 = .ok (.aload_n 0, 1) := by decide +kernel
theorem dX0_fewestHours_166 : decode cX0_fewestHours 166 = .ok (.getfield 43, 3) := by decide +kernel
theorem dX0_fewestHours_169 : decode cX0_fewestHours 169 = .ok (.iload 5, 2) := by decide +kernel
theorem dX0_fewestHours_171 : decode cX0_fewestHours 171 = .ok (.iaload, 1) := by decide +kernel
theorem dX0_fewestHours_172 : decode cX0_fewestHours 172 = .ok (.aload_n 0, 1) := by decide +kernel
theorem dX0_fewestHours_173 : decode cX0_fewestHours 173 = .ok (.getfield 50, 3) := by decide +kernel
theorem dX0_fewestHours_176 : decode cX0_fewestHours 176 = .ok (.getfield 121, 3) := by decide +kernel
theorem dX0_fewestHours_179 : decode cX0_fewestHours 179 = .ok (.iload 6, 2) := by decide +kernel
theorem dX0_fewestHours_181 : decode cX0_fewestHours 181 = .ok (.iaload, 1) := by decide +kernel
theorem dX0_fewestHours_182 : decode cX0_fewestHours 182 = .ok (.iadd, 1) := by decide +kernel
theorem dX0_fewestHours_183 : decode cX0_fewestHours 183 = .ok (.invokevirtual 183, 3) := by decide +kernel
theorem dX0_fewestHours_186 : decode cX0_fewestHours 186 = .ok (.iinc 6 1, 3) := by decide +kernel
theorem dX0_fewestHours_189 : decode cX0_fewestHours 189 = .ok (.goto (-79), 3) := by decide +kernel
theorem dX0_fewestHours_192 : decode cX0_fewestHours 192 = .ok (.iinc 4 1, 3) := by decide +kernel
theorem dX0_fewestHours_195 : decode cX0_fewestHours 195 = .ok (.goto (-147), 3) := by decide +kernel
theorem dX0_fewestHours_198 : decode cX0_fewestHours 198 = .ok (.iconst (-1), 1) := by decide +kernel
theorem dX0_fewestHours_199 : decode cX0_fewestHours 199 = .ok (.ireturn, 1) := by decide +kernel
theorem dX0_soonestUnsettled_0 : decode cX0_soonestUnsettled 0 = .ok (.iconst (-1), 1) := by decide +kernel
theorem dX0_soonestUnsettled_1 : decode cX0_soonestUnsettled 1 = .ok (.istore_n 1, 1) := by decide +kernel
theorem dX0_soonestUnsettled_2 : decode cX0_soonestUnsettled 2 = .ok (.iconst 0, 1) := by decide +kernel
theorem dX0_soonestUnsettled_3 : decode cX0_soonestUnsettled 3 = .ok (.istore_n 2, 1) := by decide +kernel
theorem dX0_soonestUnsettled_4 : decode cX0_soonestUnsettled 4 = .ok (.iload_n 2, 1) := by decide +kernel
theorem dX0_soonestUnsettled_5 : decode cX0_soonestUnsettled 5 = .ok (.aload_n 0, 1) := by decide +kernel
theorem dX0_soonestUnsettled_6 : decode cX0_soonestUnsettled 6 = .ok (.getfield 50, 3) := by decide +kernel
theorem dX0_soonestUnsettled_9 : decode cX0_soonestUnsettled 9 = .ok (.invokevirtual 68, 3) := by decide +kernel
theorem dX0_soonestUnsettled_12 : decode cX0_soonestUnsettled 12 = .ok (.if_icmp .ge 60, 3) := by decide +kernel
theorem dX0_soonestUnsettled_15 : decode cX0_soonestUnsettled 15 = .ok (.aload_n 0, 1) := by decide +kernel
theorem dX0_soonestUnsettled_16 : decode cX0_soonestUnsettled 16 = .ok (.getfield 43, 3) := by decide +kernel
theorem dX0_soonestUnsettled_19 : decode cX0_soonestUnsettled 19 = .ok (.iload_n 2, 1) := by decide +kernel
theorem dX0_soonestUnsettled_20 : decode cX0_soonestUnsettled 20 = .ok (.iaload, 1) := by decide +kernel
theorem dX0_soonestUnsettled_21 : decode cX0_soonestUnsettled 21 = .ok (.iconst (-1), 1) := by decide +kernel
theorem dX0_soonestUnsettled_22 : decode cX0_soonestUnsettled 22 = .ok (.if_icmp .eq 16, 3) := by decide +kernel
theorem dX0_soonestUnsettled_25 : decode cX0_soonestUnsettled 25 = .ok (.aload_n 0, 1) := by decide +kernel
theorem dX0_soonestUnsettled_26 : decode cX0_soonestUnsettled 26 = .ok (.getfield 46, 3) := by decide +kernel
theorem dX0_soonestUnsettled_29 : decode cX0_soonestUnsettled 29 = .ok (.iload_n 2, 1) := by decide +kernel
theorem dX0_soonestUnsettled_30 : decode cX0_soonestUnsettled 30 = .ok (.baload, 1) := by decide +kernel
theorem dX0_soonestUnsettled_31 : decode cX0_soonestUnsettled 31 = .ok (.ifCond .ne 7, 3) := by decide +kernel
theorem dX0_soonestUnsettled_34 : decode cX0_soonestUnsettled 34 = .ok (.iconst 1, 1) := by decide +kernel
theorem dX0_soonestUnsettled_35 : decode cX0_soonestUnsettled 35 = .ok (.goto 4, 3) := by decide +kernel
theorem dX0_soonestUnsettled_38 : decode cX0_soonestUnsettled 38 = .ok (.iconst 0, 1) := by decide +kernel
theorem dX0_soonestUnsettled_39 : decode cX0_soonestUnsettled 39 = .ok (.istore_n 3, 1) := by decide +kernel
theorem dX0_soonestUnsettled_40 : decode cX0_soonestUnsettled 40 = .ok (.iload_n 3, 1) := by decide +kernel
theorem dX0_soonestUnsettled_41 : decode cX0_soonestUnsettled 41 = .ok (.ifCond .eq 25, 3) := by decide +kernel
theorem dX0_soonestUnsettled_44 : decode cX0_soonestUnsettled 44 = .ok (.iload_n 1, 1) := by decide +kernel
theorem dX0_soonestUnsettled_45 : decode cX0_soonestUnsettled 45 = .ok (.iconst (-1), 1) := by decide +kernel
theorem dX0_soonestUnsettled_46 : decode cX0_soonestUnsettled 46 = .ok (.if_icmp .eq 18, 3) := by decide +kernel
theorem dX0_soonestUnsettled_49 : decode cX0_soonestUnsettled 49 = .ok (.aload_n 0, 1) := by decide +kernel
theorem dX0_soonestUnsettled_50 : decode cX0_soonestUnsettled 50 = .ok (.getfield 43, 3) := by decide +kernel
theorem dX0_soonestUnsettled_53 : decode cX0_soonestUnsettled 53 = .ok (.iload_n 2, 1) := by decide +kernel
theorem dX0_soonestUnsettled_54 : decode cX0_soonestUnsettled 54 = .ok (.iaload, 1) := by decide +kernel
theorem dX0_soonestUnsettled_55 : decode cX0_soonestUnsettled 55 = .ok (.aload_n 0, 1) := by decide +kernel
theorem dX0_soonestUnsettled_56 : decode cX0_soonestUnsettled 56 = .ok (.getfield 43, 3) := by decide +kernel
theorem dX0_soonestUnsettled_59 : decode cX0_soonestUnsettled 59 = .ok (.iload_n 1, 1) := by decide +kernel
theorem dX0_soonestUnsettled_60 : decode cX0_soonestUnsettled 60 = .ok (.iaload, 1) := by decide +kernel
theorem dX0_soonestUnsettled_61 : decode cX0_soonestUnsettled 61 = .ok (.if_icmp .ge 5, 3) := by decide +kernel
theorem dX0_soonestUnsettled_64 : decode cX0_soonestUnsettled 64 = .ok (.iload_n 2, 1) := by decide +kernel
theorem dX0_soonestUnsettled_65 : decode cX0_soonestUnsettled 65 = .ok (.istore_n 1, 1) := by decide +kernel
theorem dX0_soonestUnsettled_66 : decode cX0_soonestUnsettled 66 = .ok (.iinc 2 1, 3) := by decide +kernel
theorem dX0_soonestUnsettled_69 : decode cX0_soonestUnsettled 69 = .ok (.goto (-65), 3) := by decide +kernel
theorem dX0_soonestUnsettled_72 : decode cX0_soonestUnsettled 72 = .ok (.iload_n 1, 1) := by decide +kernel
theorem dX0_soonestUnsettled_73 : decode cX0_soonestUnsettled 73 = .ok (.ireturn, 1) := by decide +kernel
theorem dX0_shorten_0 : decode cX0_shorten 0 = .ok (.aload_n 0, 1) := by decide +kernel
theorem dX0_shorten_1 : decode cX0_shorten 1 = .ok (.getfield 43, 3) := by decide +kernel
theorem dX0_shorten_4 : decode cX0_shorten 4 = .ok (.iload_n 1, 1) := by decide +kernel
theorem dX0_shorten_5 : decode cX0_shorten 5 = .ok (.iaload, 1) := by decide +kernel
theorem dX0_shorten_6 : decode cX0_shorten 6 = .ok (.iconst (-1), 1) := by decide +kernel
theorem dX0_shorten_7 : decode cX0_shorten 7 = .ok (.if_icmp .eq 13, 3) := by decide +kernel
theorem dX0_shorten_10 : decode cX0_shorten 10 = .ok (.aload_n 0, 1) := by decide +kernel
theorem dX0_shorten_11 : decode cX0_shorten 11 = .ok (.getfield 43, 3) := by decide +kernel
theorem dX0_shorten_14 : decode cX0_shorten 14 = .ok (.iload_n 1, 1) := by decide +kernel
theorem dX0_shorten_15 : decode cX0_shorten 15 = .ok (.iaload, 1) := by decide +kernel
theorem dX0_shorten_16 : decode cX0_shorten 16 = .ok (.iload_n 2, 1) := by decide +kernel
theorem dX0_shorten_17 : decode cX0_shorten 17 = .ok (.if_icmp .le 10, 3) := by decide +kernel
theorem dX0_shorten_20 : decode cX0_shorten 20 = .ok (.aload_n 0, 1) := by decide +kernel
theorem dX0_shorten_21 : decode cX0_shorten 21 = .ok (.getfield 43, 3) := by decide +kernel
theorem dX0_shorten_24 : decode cX0_shorten 24 = .ok (.iload_n 1, 1) := by decide +kernel
theorem dX0_shorten_25 : decode cX0_shorten 25 = .ok (.iload_n 2, 1) := by decide +kernel
theorem dX0_shorten_26 : decode cX0_shorten 26 = .ok (.iastore, 1) := by decide +kernel
theorem dX0_shorten_27 : decode cX0_shorten 27 = .ok (.return_, 1) := by decide +kernel
theorem dX1_init_0 : decode cX1_init 0 = .ok (.aload_n 0, 1) := by decide +kernel
theorem dX1_init_1 : decode cX1_init 1 = .ok (.invokespecial 3, 3) := by decide +kernel
theorem dX1_init_4 : decode cX1_init 4 = .ok (.aload_n 0, 1) := by decide +kernel
theorem dX1_init_5 : decode cX1_init 5 = .ok (.bipush 26, 2) := by decide +kernel
theorem dX1_init_7 : decode cX1_init 7 = .ok (.newarray .int, 2) := by decide +kernel
theorem dX1_init_9 : decode cX1_init 9 = .ok (.putfield 9, 3) := by decide +kernel
theorem dX1_init_12 : decode cX1_init 12 = .ok (.aload_n 0, 1) := by decide +kernel
theorem dX1_init_13 : decode cX1_init 13 = .ok (.iconst 4, 1) := by decide +kernel
theorem dX1_init_14 : decode cX1_init 14 = .ok (.newarray .int, 2) := by decide +kernel
theorem dX1_init_16 : decode cX1_init 16 = .ok (.putfield 15, 3) := by decide +kernel
theorem dX1_init_19 : decode cX1_init 19 = .ok (.aload_n 0, 1) := by decide +kernel
theorem dX1_init_20 : decode cX1_init 20 = .ok (.new 18, 3) := by decide +kernel
theorem dX1_init_23 : decode cX1_init 23 = .ok (.dup, 1) := by decide +kernel
theorem dX1_init_24 : decode cX1_init 24 = .ok (.invokespecial 20, 3) := by decide +kernel
theorem dX1_init_27 : decode cX1_init 27 = .ok (.putfield 21, 3) := by decide +kernel
theorem dX1_init_30 : decode cX1_init 30 = .ok (.aload_n 0, 1) := by decide +kernel
theorem dX1_init_31 : decode cX1_init 31 = .ok (.bipush 24, 2) := by decide +kernel
theorem dX1_init_33 : decode cX1_init 33 = .ok (.newarray .int, 2) := by decide +kernel
theorem dX1_init_35 : decode cX1_init 35 = .ok (.putfield 25, 3) := by decide +kernel
theorem dX1_init_38 : decode cX1_init 38 = .ok (.aload_n 0, 1) := by decide +kernel
theorem dX1_init_39 : decode cX1_init 39 = .ok (.bipush 24, 2) := by decide +kernel
theorem dX1_init_41 : decode cX1_init 41 = .ok (.newarray .boolean, 2) := by decide +kernel
theorem dX1_init_43 : decode cX1_init 43 = .ok (.putfield 28, 3) := by decide +kernel
theorem dX1_init_46 : decode cX1_init 46 = .ok (.aload_n 0, 1) := by decide +kernel
theorem dX1_init_47 : decode cX1_init 47 = .ok (.bipush 25, 2) := by decide +kernel
theorem dX1_init_49 : decode cX1_init 49 = .ok (.newarray .int, 2) := by decide +kernel
theorem dX1_init_51 : decode cX1_init 51 = .ok (.putfield 32, 3) := by decide +kernel
theorem dX1_init_54 : decode cX1_init 54 = .ok (.aload_n 0, 1) := by decide +kernel
theorem dX1_init_55 : decode cX1_init 55 = .ok (.bipush 26, 2) := by decide +kernel
theorem dX1_init_57 : decode cX1_init 57 = .ok (.newarray .int, 2) := by decide +kernel
theorem dX1_init_59 : decode cX1_init 59 = .ok (.putfield 35, 3) := by decide +kernel
theorem dX1_init_62 : decode cX1_init 62 = .ok (.return_, 1) := by decide +kernel
theorem dX1_judge_0 : decode cX1_judge 0 = .ok (.aload_n 0, 1) := by decide +kernel
theorem dX1_judge_1 : decode cX1_judge 1 = .ok (.aload_n 1, 1) := by decide +kernel
theorem dX1_judge_2 : decode cX1_judge 2 = .ok (.invokevirtual 38, 3) := by decide +kernel
theorem dX1_judge_5 : decode cX1_judge 5 = .ok (.aload_n 0, 1) := by decide +kernel
theorem dX1_judge_6 : decode cX1_judge 6 = .ok (.iconst 0, 1) := by decide +kernel
theorem dX1_judge_7 : decode cX1_judge 7 = .ok (.putfield 42, 3) := by decide +kernel
theorem dX1_judge_10 : decode cX1_judge 10 = .ok (.aload_n 0, 1) := by decide +kernel
theorem dX1_judge_11 : decode cX1_judge 11 = .ok (.iconst (-1), 1) := by decide +kernel
theorem dX1_judge_12 : decode cX1_judge 12 = .ok (.putfield 46, 3) := by decide +kernel
theorem dX1_judge_15 : decode cX1_judge 15 = .ok (.iconst 0, 1) := by decide +kernel
theorem dX1_judge_16 : decode cX1_judge 16 = .ok (.istore_n 3, 1) := by decide +kernel
theorem dX1_judge_17 : decode cX1_judge 17 = .ok (.iload_n 3, 1) := by decide +kernel
theorem dX1_judge_18 : decode cX1_judge 18 = .ok (.aload_n 1, 1) := by decide +kernel
theorem dX1_judge_19 : decode cX1_judge 19 = .ok (.getfield 49, 3) := by decide +kernel
theorem dX1_judge_22 : decode cX1_judge 22 = .ok (.getfield 55, 3) := by decide +kernel
theorem dX1_judge_25 : decode cX1_judge 25 = .ok (.if_icmp .ge 31, 3) := by decide +kernel
theorem dX1_judge_28 : decode cX1_judge 28 = .ok (.aload_n 0, 1) := by decide +kernel
theorem dX1_judge_29 : decode cX1_judge 29 = .ok (.getfield 42, 3) := by decide +kernel
theorem dX1_judge_32 : decode cX1_judge 32 = .ok (.ifCond .ne 24, 3) := by decide +kernel
theorem dX1_judge_35 : decode cX1_judge 35 = .ok (.aload_n 0, 1) := by decide +kernel
theorem dX1_judge_36 : decode cX1_judge 36 = .ok (.aload_n 0, 1) := by decide +kernel
theorem dX1_judge_37 : decode cX1_judge 37 = .ok (.getfield 25, 3) := by decide +kernel
theorem dX1_judge_40 : decode cX1_judge 40 = .ok (.iload_n 3, 1) := by decide +kernel
theorem dX1_judge_41 : decode cX1_judge 41 = .ok (.iaload, 1) := by decide +kernel
theorem dX1_judge_42 : decode cX1_judge 42 = .ok (.putfield 42, 3) := by decide +kernel
theorem dX1_judge_45 : decode cX1_judge 45 = .ok (.aload_n 0, 1) := by decide +kernel
theorem dX1_judge_46 : decode cX1_judge 46 = .ok (.iload_n 3, 1) := by decide +kernel
theorem dX1_judge_47 : decode cX1_judge 47 = .ok (.putfield 46, 3) := by decide +kernel
theorem dX1_judge_50 : decode cX1_judge 50 = .ok (.iinc 3 1, 3) := by decide +kernel
theorem dX1_judge_53 : decode cX1_judge 53 = .ok (.goto (-36), 3) := by decide +kernel
theorem dX1_judge_56 : decode cX1_judge 56 = .ok (.aload_n 0, 1) := by decide +kernel
theorem dX1_judge_57 : decode cX1_judge 57 = .ok (.getfield 42, 3) := by decide +kernel
theorem dX1_judge_60 : decode cX1_judge 60 = .ok (.ifCond .ne 46, 3) := by decide +kernel
theorem dX1_judge_63 : decode cX1_judge 63 = .ok (.aload_n 0, 1) := by decide +kernel
theorem dX1_judge_64 : decode cX1_judge 64 = .ok (.getfield 21, 3) := by decide +kernel
theorem dX1_judge_67 : decode cX1_judge 67 = .ok (.iconst 0, 1) := by decide +kernel
theorem dX1_judge_68 : decode cX1_judge 68 = .ok (.invokevirtual 60, 3) := by decide +kernel
theorem dX1_judge_71 : decode cX1_judge 71 = .ok (.aload_n 0, 1) := by decide +kernel
theorem dX1_judge_72 : decode cX1_judge 72 = .ok (.aload_n 1, 1) := by decide +kernel
theorem dX1_judge_73 : decode cX1_judge 73 = .ok (.aload_n 2, 1) := by decide +kernel
theorem dX1_judge_74 : decode cX1_judge 74 = .ok (.iconst 0, 1) := by decide +kernel
theorem dX1_judge_75 : decode cX1_judge 75 = .ok (.iconst 0, 1) := by decide +kernel
theorem dX1_judge_76 : decode cX1_judge 76 = .ok (.invokevirtual 64, 3) := by decide +kernel
theorem dX1_judge_79 : decode cX1_judge 79 = .ok (.pop, 1) := by decide +kernel
theorem dX1_judge_80 : decode cX1_judge 80 = .ok (.aload_n 0, 1) := by decide +kernel
theorem dX1_judge_81 : decode cX1_judge 81 = .ok (.aload_n 0, 1) := by decide +kernel
theorem dX1_judge_82 : decode cX1_judge 82 = .ok (.getfield 68, 3) := by decide +kernel
theorem dX1_judge_85 : decode cX1_judge 85 = .ok (.iconst (-1), 1) := by decide +kernel
theorem dX1_judge_86 : decode cX1_judge 86 = .ok (.if_icmp .ne 7, 3) := by decide +kernel
theorem dX1_judge_89 : decode cX1_judge 89 = .ok (.iconst 0, 1) := by decide +kernel
theorem dX1_judge_90 : decode cX1_judge 90 = .ok (.goto 5, 3) := by decide +kernel
theorem dX1_judge_93 : decode cX1_judge 93 = .ok (.bipush 6, 2) := by decide +kernel
theorem dX1_judge_95 : decode cX1_judge 95 = .ok (.putfield 42, 3) := by decide +kernel
theorem dX1_judge_98 : decode cX1_judge 98 = .ok (.aload_n 0, 1) := by decide +kernel
theorem dX1_judge_99 : decode cX1_judge 99 = .ok (.aload_n 0, 1) := by decide +kernel
theorem dX1_judge_100 : decode cX1_judge 100 = .ok (.getfield 68, 3) := by decide +kernel
theorem dX1_judge_103 : decode cX1_judge 103 = .ok (.putfield 46, 3) := by decide +kernel
theorem dX1_judge_106 : decode cX1_judge 106 = .ok (.return_, 1) := by decide +kernel
theorem dX1_doDay_0 : decode cX1_doDay 0 = .ok (.aload_n 0, 1) := by decide +kernel
theorem dX1_doDay_1 : decode cX1_doDay 1 = .ok (.aload_n 1, 1) := by decide +kernel
theorem dX1_doDay_2 : decode cX1_doDay 2 = .ok (.invokevirtual 38, 3) := by decide +kernel
theorem dX1_doDay_5 : decode cX1_doDay 5 = .ok (.aload_n 0, 1) := by decide +kernel
theorem dX1_doDay_6 : decode cX1_doDay 6 = .ok (.getfield 21, 3) := by decide +kernel
theorem dX1_doDay_9 : decode cX1_doDay 9 = .ok (.iload_n 3, 1) := by decide +kernel
theorem dX1_doDay_10 : decode cX1_doDay 10 = .ok (.invokevirtual 60, 3) := by decide +kernel
theorem dX1_doDay_13 : decode cX1_doDay 13 = .ok (.aload_n 0, 1) := by decide +kernel
theorem dX1_doDay_14 : decode cX1_doDay 14 = .ok (.aload_n 1, 1) := by decide +kernel
theorem dX1_doDay_15 : decode cX1_doDay 15 = .ok (.aload_n 2, 1) := by decide +kernel
theorem dX1_doDay_16 : decode cX1_doDay 16 = .ok (.iload 4, 2) := by decide +kernel
theorem dX1_doDay_18 : decode cX1_doDay 18 = .ok (.iconst 0, 1) := by decide +kernel
theorem dX1_doDay_19 : decode cX1_doDay 19 = .ok (.invokevirtual 64, 3) := by decide +kernel
theorem dX1_doDay_22 : decode cX1_doDay 22 = .ok (.pop, 1) := by decide +kernel
theorem dX1_doDay_23 : decode cX1_doDay 23 = .ok (.aload_n 0, 1) := by decide +kernel
theorem dX1_doDay_24 : decode cX1_doDay 24 = .ok (.getfield 35, 3) := by decide +kernel
theorem dX1_doDay_27 : decode cX1_doDay 27 = .ok (.iconst 0, 1) := by decide +kernel
theorem dX1_doDay_28 : decode cX1_doDay 28 = .ok (.aload_n 0, 1) := by decide +kernel
theorem dX1_doDay_29 : decode cX1_doDay 29 = .ok (.getfield 9, 3) := by decide +kernel
theorem dX1_doDay_32 : decode cX1_doDay 32 = .ok (.iconst 0, 1) := by decide +kernel
theorem dX1_doDay_33 : decode cX1_doDay 33 = .ok (.aload_n 0, 1) := by decide +kernel
theorem dX1_doDay_34 : decode cX1_doDay 34 = .ok (.getfield 9, 3) := by decide +kernel
theorem dX1_doDay_37 : decode cX1_doDay 37 = .ok (.arraylength, 1) := by decide +kernel
theorem dX1_doDay_38 : decode cX1_doDay 38 = .ok (.invokestatic 71, 3) := by decide +kernel
theorem dX1_doDay_41 : decode cX1_doDay 41 = .ok (.aload_n 0, 1) := by decide +kernel
theorem dX1_doDay_42 : decode cX1_doDay 42 = .ok (.iconst 1, 1) := by decide +kernel
theorem dX1_doDay_43 : decode cX1_doDay 43 = .ok (.putfield 77, 3) := by decide +kernel
theorem dX1_doDay_46 : decode cX1_doDay 46 = .ok (.aload_n 0, 1) := by decide +kernel
theorem dX1_doDay_47 : decode cX1_doDay 47 = .ok (.getfield 21, 3) := by decide +kernel
theorem dX1_doDay_50 : decode cX1_doDay 50 = .ok (.getfield 81, 3) := by decide +kernel
theorem dX1_doDay_53 : decode cX1_doDay 53 = .ok (.ireturn, 1) := by decide +kernel
theorem dX1_doDays_0 : decode cX1_doDays 0 = .ok (.aload_n 0, 1) := by decide +kernel
theorem dX1_doDays_1 : decode cX1_doDays 1 = .ok (.aload_n 1, 1) := by decide +kernel
theorem dX1_doDays_2 : decode cX1_doDays 2 = .ok (.invokevirtual 38, 3) := by decide +kernel
theorem dX1_doDays_5 : decode cX1_doDays 5 = .ok (.aload_n 0, 1) := by decide +kernel
theorem dX1_doDays_6 : decode cX1_doDays 6 = .ok (.getfield 21, 3) := by decide +kernel
theorem dX1_doDays_9 : decode cX1_doDays 9 = .ok (.iconst 0, 1) := by decide +kernel
theorem dX1_doDays_10 : decode cX1_doDays 10 = .ok (.invokevirtual 60, 3) := by decide +kernel
theorem dX1_doDays_13 : decode cX1_doDays 13 = .ok (.iconst 0, 1) := by decide +kernel
theorem dX1_doDays_14 : decode cX1_doDays 14 = .ok (.istore 5, 2) := by decide +kernel
theorem dX1_doDays_16 : decode cX1_doDays 16 = .ok (.iconst 0, 1) := by decide +kernel
theorem dX1_doDays_17 : decode cX1_doDays 17 = .ok (.istore 6, 2) := by decide +kernel
theorem dX1_doDays_19 : decode cX1_doDays 19 = .ok (.iconst 0, 1) := by decide +kernel
theorem dX1_doDays_20 : decode cX1_doDays 20 = .ok (.istore 7, 2) := by decide +kernel
theorem dX1_doDays_22 : decode cX1_doDays 22 = .ok (.iload 4, 2) := by decide +kernel
theorem dX1_doDays_24 : decode cX1_doDays 24 = .ok (.istore 8, 2) := by decide +kernel
theorem dX1_doDays_26 : decode cX1_doDays 26 = .ok (.iconst 0, 1) := by decide +kernel
theorem dX1_doDays_27 : decode cX1_doDays 27 = .ok (.istore 9, 2) := by decide +kernel
theorem dX1_doDays_29 : decode cX1_doDays 29 = .ok (.iload 9, 2) := by decide +kernel
theorem dX1_doDays_31 : decode cX1_doDays 31 = .ok (.iload_n 3, 1) := by decide +kernel
theorem dX1_doDays_32 : decode cX1_doDays 32 = .ok (.if_icmp .ge 152, 3) := by decide +kernel
theorem dX1_doDays_35 : decode cX1_doDays 35 = .ok (.iconst 0, 1) := by decide +kernel
theorem dX1_doDays_36 : decode cX1_doDays 36 = .ok (.istore 10, 2) := by decide +kernel
theorem dX1_doDays_38 : decode cX1_doDays 38 = .ok (.iconst 0, 1) := by decide +kernel
theorem dX1_doDays_39 : decode cX1_doDays 39 = .ok (.istore 11, 2) := by decide +kernel
theorem dX1_doDays_41 : decode cX1_doDays 41 = .ok (.iload 11, 2) := by decide +kernel
theorem dX1_doDays_43 : decode cX1_doDays 43 = .ok (.aload_n 1, 1) := by decide +kernel
theorem dX1_doDays_44 : decode cX1_doDays 44 = .ok (.getfield 84, 3) := by decide +kernel
theorem dX1_doDays_47 : decode cX1_doDays 47 = .ok (.getfield 88, 3) := by decide +kernel
theorem dX1_doDays_50 : decode cX1_doDays 50 = .ok (.if_icmp .ge 61, 3) := by decide +kernel
theorem dX1_doDays_53 : decode cX1_doDays 53 = .ok (.iload 4, 2) := by decide +kernel
theorem dX1_doDays_55 : decode cX1_doDays 55 = .ok (.iconst (-1), 1) := by decide +kernel
theorem dX1_doDays_56 : decode cX1_doDays 56 = .ok (.if_icmp .eq 55, 3) := by decide +kernel
theorem dX1_doDays_59 : decode cX1_doDays 59 = .ok (.iload 8, 2) := by decide +kernel
theorem dX1_doDays_61 : decode cX1_doDays 61 = .ok (.sipush 2333, 3) := by decide +kernel
theorem dX1_doDays_64 : decode cX1_doDays 64 = .ok (.imul, 1) := by decide +kernel
theorem dX1_doDays_65 : decode cX1_doDays 65 = .ok (.sipush 10007, 3) := by decide +kernel
theorem dX1_doDays_68 : decode cX1_doDays 68 = .ok (.iadd, 1) := by decide +kernel
theorem dX1_doDays_69 : decode cX1_doDays 69 = .ok (.ldc 93, 2) := by decide +kernel
theorem dX1_doDays_71 : decode cX1_doDays 71 = .ok (.irem, 1) := by decide +kernel
theorem dX1_doDays_72 : decode cX1_doDays 72 = .ok (.istore 8, 2) := by decide +kernel
theorem dX1_doDays_74 : decode cX1_doDays 74 = .ok (.iload 10, 2) := by decide +kernel
theorem dX1_doDays_76 : decode cX1_doDays 76 = .ok (.iload 8, 2) := by decide +kernel
theorem dX1_doDays_78 : decode cX1_doDays 78 = .ok (.bipush 8, 2) := by decide +kernel
theorem dX1_doDays_80 : decode cX1_doDays 80 = .ok (.idiv, 1) := by decide +kernel
theorem dX1_doDays_81 : decode cX1_doDays 81 = .ok (.bipush 16, 2) := by decide +kernel
theorem dX1_doDays_83 : decode cX1_doDays 83 = .ok (.irem, 1) := by decide +kernel
theorem dX1_doDays_84 : decode cX1_doDays 84 = .ok (.aload_n 1, 1) := by decide +kernel
theorem dX1_doDays_85 : decode cX1_doDays 85 = .ok (.getfield 94, 3) := by decide +kernel
theorem dX1_doDays_88 : decode cX1_doDays 88 = .ok (.iload 11, 2) := by decide +kernel
theorem dX1_doDays_90 : decode cX1_doDays 90 = .ok (.iaload, 1) := by decide +kernel
theorem dX1_doDays_91 : decode cX1_doDays 91 = .ok (.if_icmp .ge 10, 3) := by decide +kernel
theorem dX1_doDays_94 : decode cX1_doDays 94 = .ok (.iconst 1, 1) := by decide +kernel
theorem dX1_doDays_95 : decode cX1_doDays 95 = .ok (.iload 11, 2) := by decide +kernel
theorem dX1_doDays_97 : decode cX1_doDays 97 = .ok (.ishl, 1) := by decide +kernel
theorem dX1_doDays_98 : decode cX1_doDays 98 = .ok (.goto 4, 3) := by decide +kernel
theorem dX1_doDays_101 : decode cX1_doDays 101 = .ok (.iconst 0, 1) := by decide +kernel
theorem dX1_doDays_102 : decode cX1_doDays 102 = .ok (.ior, 1) := by decide +kernel
theorem dX1_doDays_103 : decode cX1_doDays 103 = .ok (.istore 10, 2) := by decide +kernel
theorem dX1_doDays_105 : decode cX1_doDays 105 = .ok (.iinc 11 1, 3) := by decide +kernel
theorem dX1_doDays_108 : decode cX1_doDays 108 = .ok (.goto (-67), 3) := by decide +kernel
theorem dX1_doDays_111 : decode cX1_doDays 111 = .ok (.aload_n 0, 1) := by decide +kernel
theorem dX1_doDays_112 : decode cX1_doDays 112 = .ok (.getfield 21, 3) := by decide +kernel
theorem dX1_doDays_115 : decode cX1_doDays 115 = .ok (.iconst 0, 1) := by decide +kernel
theorem dX1_doDays_116 : decode cX1_doDays 116 = .ok (.putfield 97, 3) := by decide +kernel
theorem dX1_doDays_119 : decode cX1_doDays 119 = .ok (.iload 5, 2) := by decide +kernel
theorem dX1_doDays_121 : decode cX1_doDays 121 = .ok (.aload_n 0, 1) := by decide +kernel
theorem dX1_doDays_122 : decode cX1_doDays 122 = .ok (.aload_n 1, 1) := by decide +kernel
theorem dX1_doDays_123 : decode cX1_doDays 123 = .ok (.aload_n 2, 1) := by decide +kernel
theorem dX1_doDays_124 : decode cX1_doDays 124 = .ok (.iload 9, 2) := by decide +kernel
theorem dX1_doDays_126 : decode cX1_doDays 126 = .ok (.iload 10, 2) := by decide +kernel
theorem dX1_doDays_128 : decode cX1_doDays 128 = .ok (.invokevirtual 64, 3) := by decide +kernel
theorem dX1_doDays_131 : decode cX1_doDays 131 = .ok (.iadd, 1) := by decide +kernel
theorem dX1_doDays_132 : decode cX1_doDays 132 = .ok (.istore 5, 2) := by decide +kernel
theorem dX1_doDays_134 : decode cX1_doDays 134 = .ok (.iload 6, 2) := by decide +kernel
theorem dX1_doDays_136 : decode cX1_doDays 136 = .ok (.aload_n 0, 1) := by decide +kernel
theorem dX1_doDays_137 : decode cX1_doDays 137 = .ok (.getfield 21, 3) := by decide +kernel
theorem dX1_doDays_140 : decode cX1_doDays 140 = .ok (.getfield 97, 3) := by decide +kernel
theorem dX1_doDays_143 : decode cX1_doDays 143 = .ok (.aload_n 1, 1) := by decide +kernel
theorem dX1_doDays_144 : decode cX1_doDays 144 = .ok (.getfield 100, 3) := by decide +kernel
theorem dX1_doDays_147 : decode cX1_doDays 147 = .ok (.if_icmp .ne 7, 3) := by decide +kernel
theorem dX1_doDays_150 : decode cX1_doDays 150 = .ok (.iconst 1, 1) := by decide +kernel
theorem dX1_doDays_151 : decode cX1_doDays 151 = .ok (.goto 4, 3) := by decide +kernel
theorem dX1_doDays_154 : decode cX1_doDays 154 = .ok (.iconst 0, 1) := by decide +kernel
theorem dX1_doDays_155 : decode cX1_doDays 155 = .ok (.iadd, 1) := by decide +kernel
theorem dX1_doDays_156 : decode cX1_doDays 156 = .ok (.istore 6, 2) := by decide +kernel
theorem dX1_doDays_158 : decode cX1_doDays 158 = .ok (.iload 7, 2) := by decide +kernel
theorem dX1_doDays_160 : decode cX1_doDays 160 = .ok (.aload_n 0, 1) := by decide +kernel
theorem dX1_doDays_161 : decode cX1_doDays 161 = .ok (.getfield 21, 3) := by decide +kernel
theorem dX1_doDays_164 : decode cX1_doDays 164 = .ok (.getfield 97, 3) := by decide +kernel
theorem dX1_doDays_167 : decode cX1_doDays 167 = .ok (.ifCond .ne 7, 3) := by decide +kernel
theorem dX1_doDays_170 : decode cX1_doDays 170 = .ok (.iconst 1, 1) := by decide +kernel
theorem dX1_doDays_171 : decode cX1_doDays 171 = .ok (.goto 4, 3) := by decide +kernel
theorem dX1_doDays_174 : decode cX1_doDays 174 = .ok (.iconst 0, 1) := by decide +kernel
theorem dX1_doDays_175 : decode cX1_doDays 175 = .ok (.iadd, 1) := by decide +kernel
theorem dX1_doDays_176 : decode cX1_doDays 176 = .ok (.istore 7, 2) := by decide +kernel
theorem dX1_doDays_178 : decode cX1_doDays 178 = .ok (.iinc 9 1, 3) := by decide +kernel
theorem dX1_doDays_181 : decode cX1_doDays 181 = .ok (.goto (-152), 3) := by decide +kernel
theorem dX1_doDays_184 : decode cX1_doDays 184 = .ok (.aload_n 0, 1) := by decide +kernel
theorem dX1_doDays_185 : decode cX1_doDays 185 = .ok (.getfield 15, 3) := by decide +kernel
theorem dX1_doDays_188 : decode cX1_doDays 188 = .ok (.iconst 0, 1) := by decide +kernel
theorem dX1_doDays_189 : decode cX1_doDays 189 = .ok (.iload 5, 2) := by decide +kernel
theorem dX1_doDays_191 : decode cX1_doDays 191 = .ok (.iastore, 1) := by decide +kernel
theorem dX1_doDays_192 : decode cX1_doDays 192 = .ok (.aload_n 0, 1) := by decide +kernel
theorem dX1_doDays_193 : decode cX1_doDays 193 = .ok (.getfield 15, 3) := by decide +kernel
theorem dX1_doDays_196 : decode cX1_doDays 196 = .ok (.iconst 1, 1) := by decide +kernel
theorem dX1_doDays_197 : decode cX1_doDays 197 = .ok (.aload_n 0, 1) := by decide +kernel
theorem dX1_doDays_198 : decode cX1_doDays 198 = .ok (.getfield 21, 3) := by decide +kernel
theorem dX1_doDays_201 : decode cX1_doDays 201 = .ok (.getfield 103, 3) := by decide +kernel
theorem dX1_doDays_204 : decode cX1_doDays 204 = .ok (.iastore, 1) := by decide +kernel
theorem dX1_doDays_205 : decode cX1_doDays 205 = .ok (.aload_n 0, 1) := by decide +kernel
theorem dX1_doDays_206 : decode cX1_doDays 206 = .ok (.getfield 15, 3) := by decide +kernel
theorem dX1_doDays_209 : decode cX1_doDays 209 = .ok (.iconst 2, 1) := by decide +kernel
theorem dX1_doDays_210 : decode cX1_doDays 210 = .ok (.iload 6, 2) := by decide +kernel
theorem dX1_doDays_212 : decode cX1_doDays 212 = .ok (.iastore, 1) := by decide +kernel
theorem dX1_doDays_213 : decode cX1_doDays 213 = .ok (.aload_n 0, 1) := by decide +kernel
theorem dX1_doDays_214 : decode cX1_doDays 214 = .ok (.getfield 15, 3) := by decide +kernel
theorem dX1_doDays_217 : decode cX1_doDays 217 = .ok (.iconst 3, 1) := by decide +kernel
theorem dX1_doDays_218 : decode cX1_doDays 218 = .ok (.iload 7, 2) := by decide +kernel
theorem dX1_doDays_220 : decode cX1_doDays 220 = .ok (.iastore, 1) := by decide +kernel
theorem dX1_doDays_221 : decode cX1_doDays 221 = .ok (.aload_n 0, 1) := by decide +kernel
theorem dX1_doDays_222 : decode cX1_doDays 222 = .ok (.iconst 1, 1) := by decide +kernel
theorem dX1_doDays_223 : decode cX1_doDays 223 = .ok (.putfield 106, 3) := by decide +kernel
theorem dX1_doDays_226 : decode cX1_doDays 226 = .ok (.aload_n 0, 1) := by decide +kernel
theorem dX1_doDays_227 : decode cX1_doDays 227 = .ok (.getfield 21, 3) := by decide +kernel
theorem dX1_doDays_230 : decode cX1_doDays 230 = .ok (.getfield 81, 3) := by decide +kernel
theorem dX1_doDays_233 : decode cX1_doDays 233 = .ok (.ireturn, 1) := by decide +kernel
theorem dX1_judgeJobs_0 : decode cX1_judgeJobs 0 = .ok (.iconst 0, 1) := by decide +kernel
theorem dX1_judgeJobs_1 : decode cX1_judgeJobs 1 = .ok (.istore_n 2, 1) := by decide +kernel
theorem dX1_judgeJobs_2 : decode cX1_judgeJobs 2 = .ok (.iload_n 2, 1) := by decide +kernel
theorem dX1_judgeJobs_3 : decode cX1_judgeJobs 3 = .ok (.aload_n 1, 1) := by decide +kernel
theorem dX1_judgeJobs_4 : decode cX1_judgeJobs 4 = .ok (.getfield 49, 3) := by decide +kernel
theorem dX1_judgeJobs_7 : decode cX1_judgeJobs 7 = .ok (.getfield 55, 3) := by decide +kernel
theorem dX1_judgeJobs_10 : decode cX1_judgeJobs 10 = .ok (.if_icmp .ge 40, 3) := by decide +kernel
theorem dX1_judgeJobs_13 : decode cX1_judgeJobs 13 = .ok (.aload_n 0, 1) := by decide +kernel
theorem dX1_judgeJobs_14 : decode cX1_judgeJobs 14 = .ok (.getfield 25, 3) := by decide +kernel
theorem dX1_judgeJobs_17 : decode cX1_judgeJobs 17 = .ok (.iload_n 2, 1) := by decide +kernel
theorem dX1_judgeJobs_18 : decode cX1_judgeJobs 18 = .ok (.aload_n 1, 1) := by decide +kernel
theorem dX1_judgeJobs_19 : decode cX1_judgeJobs 19 = .ok (.getfield 49, 3) := by decide +kernel
theorem dX1_judgeJobs_22 : decode cX1_judgeJobs 22 = .ok (.getfield 109, 3) := by decide +kernel
theorem dX1_judgeJobs_25 : decode cX1_judgeJobs 25 = .ok (.iload_n 2, 1) := by decide +kernel
theorem dX1_judgeJobs_26 : decode cX1_judgeJobs 26 = .ok (.iaload, 1) := by decide +kernel
theorem dX1_judgeJobs_27 : decode cX1_judgeJobs 27 = .ok (.ifCond .ne 11, 3) := by decide +kernel
theorem dX1_judgeJobs_30 : decode cX1_judgeJobs 30 = .ok (.aload_n 1, 1) := by decide +kernel
theorem dX1_judgeJobs_31 : decode cX1_judgeJobs 31 = .ok (.iload_n 2, 1) := by decide +kernel
theorem dX1_judgeJobs_32 : decode cX1_judgeJobs 32 = .ok (.invokestatic 112, 3) := by decide +kernel
theorem dX1_judgeJobs_35 : decode cX1_judgeJobs 35 = .ok (.goto 8, 3) := by decide +kernel
theorem dX1_judgeJobs_38 : decode cX1_judgeJobs 38 = .ok (.aload_n 1, 1) := by decide +kernel
theorem dX1_judgeJobs_39 : decode cX1_judgeJobs 39 = .ok (.iload_n 2, 1) := by decide +kernel
theorem dX1_judgeJobs_40 : decode cX1_judgeJobs 40 = .ok (.invokestatic 116, 3) := by decide +kernel
theorem dX1_judgeJobs_43 : decode cX1_judgeJobs 43 = .ok (.iastore, 1) := by decide +kernel
theorem dX1_judgeJobs_44 : decode cX1_judgeJobs 44 = .ok (.iinc 2 1, 3) := by decide +kernel
theorem dX1_judgeJobs_47 : decode cX1_judgeJobs 47 = .ok (.goto (-45), 3) := by decide +kernel
theorem dX1_judgeJobs_50 : decode cX1_judgeJobs 50 = .ok (.return_, 1) := by decide +kernel
theorem dX1_whyNotMade_0 : decode cX1_whyNotMade 0 = .ok (.aload_n 0, 1) := by decide +kernel
theorem dX1_whyNotMade_1 : decode cX1_whyNotMade 1 = .ok (.getfield 49, 3) := by decide +kernel
theorem dX1_whyNotMade_4 : decode cX1_whyNotMade 4 = .ok (.astore_n 2, 1) := by decide +kernel
theorem dX1_whyNotMade_5 : decode cX1_whyNotMade 5 = .ok (.aload_n 2, 1) := by decide +kernel
theorem dX1_whyNotMade_6 : decode cX1_whyNotMade 6 = .ok (.getfield 119, 3) := by decide +kernel
theorem dX1_whyNotMade_9 : decode cX1_whyNotMade 9 = .ok (.iload_n 1, 1) := by decide +kernel
theorem dX1_whyNotMade_10 : decode cX1_whyNotMade 10 = .ok (.iaload, 1) := by decide +kernel
theorem dX1_whyNotMade_11 : decode cX1_whyNotMade 11 = .ok (.istore_n 3, 1) := by decide +kernel
theorem dX1_whyNotMade_12 : decode cX1_whyNotMade 12 = .ok (.aload_n 2, 1) := by decide +kernel
theorem dX1_whyNotMade_13 : decode cX1_whyNotMade 13 = .ok (.getfield 122, 3) := by decide +kernel
theorem dX1_whyNotMade_16 : decode cX1_whyNotMade 16 = .ok (.iload_n 1, 1) := by decide +kernel
theorem dX1_whyNotMade_17 : decode cX1_whyNotMade 17 = .ok (.iaload, 1) := by decide +kernel
theorem dX1_whyNotMade_18 : decode cX1_whyNotMade 18 = .ok (.invokestatic 125, 3) := by decide +kernel
theorem dX1_whyNotMade_21 : decode cX1_whyNotMade 21 = .ok (.aload_n 0, 1) := by decide +kernel
theorem dX1_whyNotMade_22 : decode cX1_whyNotMade 22 = .ok (.getfield 131, 3) := by decide +kernel
theorem dX1_whyNotMade_25 : decode cX1_whyNotMade 25 = .ok (.iload_n 3, 1) := by decide +kernel
theorem dX1_whyNotMade_26 : decode cX1_whyNotMade 26 = .ok (.iaload, 1) := by decide +kernel
theorem dX1_whyNotMade_27 : decode cX1_whyNotMade 27 = .ok (.if_icmp .eq 5, 3) := by decide +kernel
theorem dX1_whyNotMade_30 : decode cX1_whyNotMade 30 = .ok (.iconst 1, 1) := by decide +kernel
theorem dX1_whyNotMade_31 : decode cX1_whyNotMade 31 = .ok (.ireturn, 1) := by decide +kernel
theorem dX1_whyNotMade_32 : decode cX1_whyNotMade 32 = .ok (.aload_n 0, 1) := by decide +kernel
theorem dX1_whyNotMade_33 : decode cX1_whyNotMade 33 = .ok (.iload_n 1, 1) := by decide +kernel
theorem dX1_whyNotMade_34 : decode cX1_whyNotMade 34 = .ok (.invokestatic 134, 3) := by decide +kernel
theorem dX1_whyNotMade_37 : decode cX1_whyNotMade 37 = .ok (.istore 4, 2) := by decide +kernel
theorem dX1_whyNotMade_39 : decode cX1_whyNotMade 39 = .ok (.iconst 0, 1) := by decide +kernel
theorem dX1_whyNotMade_40 : decode cX1_whyNotMade 40 = .ok (.istore 5, 2) := by decide +kernel
theorem dX1_whyNotMade_42 : decode cX1_whyNotMade 42 = .ok (.iload 5, 2) := by decide +kernel
theorem dX1_whyNotMade_44 : decode cX1_whyNotMade 44 = .ok (.aload_n 0, 1) := by decide +kernel
theorem dX1_whyNotMade_45 : decode cX1_whyNotMade 45 = .ok (.getfield 84, 3) := by decide +kernel
theorem dX1_whyNotMade_48 : decode cX1_whyNotMade 48 = .ok (.getfield 88, 3) := by decide +kernel
theorem dX1_whyNotMade_51 : decode cX1_whyNotMade 51 = .ok (.if_icmp .ge 40, 3) := by decide +kernel
theorem dX1_whyNotMade_54 : decode cX1_whyNotMade 54 = .ok (.aload_n 2, 1) := by decide +kernel
theorem dX1_whyNotMade_55 : decode cX1_whyNotMade 55 = .ok (.getfield 122, 3) := by decide +kernel
theorem dX1_whyNotMade_58 : decode cX1_whyNotMade 58 = .ok (.iload_n 1, 1) := by decide +kernel
theorem dX1_whyNotMade_59 : decode cX1_whyNotMade 59 = .ok (.iaload, 1) := by decide +kernel
theorem dX1_whyNotMade_60 : decode cX1_whyNotMade 60 = .ok (.iload 5, 2) := by decide +kernel
theorem dX1_whyNotMade_62 : decode cX1_whyNotMade 62 = .ok (.ishr, 1) := by decide +kernel
theorem dX1_whyNotMade_63 : decode cX1_whyNotMade 63 = .ok (.iconst 1, 1) := by decide +kernel
theorem dX1_whyNotMade_64 : decode cX1_whyNotMade 64 = .ok (.iand, 1) := by decide +kernel
theorem dX1_whyNotMade_65 : decode cX1_whyNotMade 65 = .ok (.ifCond .eq 20, 3) := by decide +kernel
theorem dX1_whyNotMade_68 : decode cX1_whyNotMade 68 = .ok (.iload 4, 2) := by decide +kernel
theorem dX1_whyNotMade_70 : decode cX1_whyNotMade 70 = .ok (.aload_n 0, 1) := by decide +kernel
theorem dX1_whyNotMade_71 : decode cX1_whyNotMade 71 = .ok (.getfield 137, 3) := by decide +kernel
theorem dX1_whyNotMade_74 : decode cX1_whyNotMade 74 = .ok (.iload 5, 2) := by decide +kernel
theorem dX1_whyNotMade_76 : decode cX1_whyNotMade 76 = .ok (.iaload, 1) := by decide +kernel
theorem dX1_whyNotMade_77 : decode cX1_whyNotMade 77 = .ok (.iconst (-1), 1) := by decide +kernel
theorem dX1_whyNotMade_78 : decode cX1_whyNotMade 78 = .ok (.ixor, 1) := by decide +kernel
theorem dX1_whyNotMade_79 : decode cX1_whyNotMade 79 = .ok (.iand, 1) := by decide +kernel
theorem dX1_whyNotMade_80 : decode cX1_whyNotMade 80 = .ok (.ifCond .eq 5, 3) := by decide +kernel
theorem dX1_whyNotMade_83 : decode cX1_whyNotMade 83 = .ok (.iconst 2, 1) := by decide +kernel
theorem dX1_whyNotMade_84 : decode cX1_whyNotMade 84 = .ok (.ireturn, 1) := by decide +kernel
theorem dX1_whyNotMade_85 : decode cX1_whyNotMade 85 = .ok (.iinc 5 1, 3) := by decide +kernel
theorem dX1_whyNotMade_88 : decode cX1_whyNotMade 88 = .ok (.goto (-46), 3) := by decide +kernel
theorem dX1_whyNotMade_91 : decode cX1_whyNotMade 91 = .ok (.iconst 0, 1) := by decide +kernel
theorem dX1_whyNotMade_92 : decode cX1_whyNotMade 92 = .ok (.istore 5, 2) := by decide +kernel
theorem dX1_whyNotMade_94 : decode cX1_whyNotMade 94 = .ok (.iload 5, 2) := by decide +kernel
theorem dX1_whyNotMade_96 : decode cX1_whyNotMade 96 = .ok (.iload_n 1, 1) := by decide +kernel
theorem dX1_whyNotMade_97 : decode cX1_whyNotMade 97 = .ok (.if_icmp .ge 62, 3) := by decide +kernel
theorem dX1_whyNotMade_100 : decode cX1_whyNotMade 100 = .ok (.aload_n 2, 1) := by decide +kernel
theorem dX1_whyNotMade_101 : decode cX1_whyNotMade 101 = .ok (.getfield 109, 3) := by decide +kernel
theorem dX1_whyNotMade_104 : decode cX1_whyNotMade 104 = .ok (.iload 5, 2) := by decide +kernel
theorem dX1_whyNotMade_106 : decode cX1_whyNotMade 106 = .ok (.iaload, 1) := by decide +kernel
theorem dX1_whyNotMade_107 : decode cX1_whyNotMade 107 = .ok (.ifCond .ne 7, 3) := by decide +kernel
theorem dX1_whyNotMade_110 : decode cX1_whyNotMade 110 = .ok (.iconst 1, 1) := by decide +kernel
theorem dX1_whyNotMade_111 : decode cX1_whyNotMade 111 = .ok (.goto 4, 3) := by decide +kernel
theorem dX1_whyNotMade_114 : decode cX1_whyNotMade 114 = .ok (.iconst 0, 1) := by decide +kernel
theorem dX1_whyNotMade_115 : decode cX1_whyNotMade 115 = .ok (.istore 6, 2) := by decide +kernel
theorem dX1_whyNotMade_117 : decode cX1_whyNotMade 117 = .ok (.iload 6, 2) := by decide +kernel
theorem dX1_whyNotMade_119 : decode cX1_whyNotMade 119 = .ok (.ifCond .eq 34, 3) := by decide +kernel
theorem dX1_whyNotMade_122 : decode cX1_whyNotMade 122 = .ok (.aload_n 2, 1) := by decide +kernel
theorem dX1_whyNotMade_123 : decode cX1_whyNotMade 123 = .ok (.getfield 122, 3) := by decide +kernel
theorem dX1_whyNotMade_126 : decode cX1_whyNotMade 126 = .ok (.iload 5, 2) := by decide +kernel
theorem dX1_whyNotMade_128 : decode cX1_whyNotMade 128 = .ok (.iaload, 1) := by decide +kernel
theorem dX1_whyNotMade_129 : decode cX1_whyNotMade 129 = .ok (.aload_n 2, 1) := by decide +kernel
theorem dX1_whyNotMade_130 : decode cX1_whyNotMade 130 = .ok (.getfield 122, 3) := by decide +kernel
theorem dX1_whyNotMade_133 : decode cX1_whyNotMade 133 = .ok (.iload_n 1, 1) := by decide +kernel
theorem dX1_whyNotMade_134 : decode cX1_whyNotMade 134 = .ok (.iaload, 1) := by decide +kernel
theorem dX1_whyNotMade_135 : decode cX1_whyNotMade 135 = .ok (.iand, 1) := by decide +kernel
theorem dX1_whyNotMade_136 : decode cX1_whyNotMade 136 = .ok (.ifCond .eq 17, 3) := by decide +kernel
theorem dX1_whyNotMade_139 : decode cX1_whyNotMade 139 = .ok (.aload_n 0, 1) := by decide +kernel
theorem dX1_whyNotMade_140 : decode cX1_whyNotMade 140 = .ok (.iload 5, 2) := by decide +kernel
theorem dX1_whyNotMade_142 : decode cX1_whyNotMade 142 = .ok (.invokestatic 134, 3) := by decide +kernel
theorem dX1_whyNotMade_145 : decode cX1_whyNotMade 145 = .ok (.iload 4, 2) := by decide +kernel
theorem dX1_whyNotMade_147 : decode cX1_whyNotMade 147 = .ok (.iand, 1) := by decide +kernel
theorem dX1_whyNotMade_148 : decode cX1_whyNotMade 148 = .ok (.ifCond .eq 5, 3) := by decide +kernel
theorem dX1_whyNotMade_151 : decode cX1_whyNotMade 151 = .ok (.iconst 3, 1) := by decide +kernel
theorem dX1_whyNotMade_152 : decode cX1_whyNotMade 152 = .ok (.ireturn, 1) := by decide +kernel
theorem dX1_whyNotMade_153 : decode cX1_whyNotMade 153 = .ok (.iinc 5 1, 3) := by decide +kernel
theorem dX1_whyNotMade_156 : decode cX1_whyNotMade 156 = .ok (.goto (-62), 3) := by decide +kernel
theorem dX1_whyNotMade_159 : decode cX1_whyNotMade 159 = .ok (.aload_n 2, 1) := by decide +kernel
theorem dX1_whyNotMade_160 : decode cX1_whyNotMade 160 = .ok (.getfield 140, 3) := by decide +kernel
theorem dX1_whyNotMade_163 : decode cX1_whyNotMade 163 = .ok (.iload_n 1, 1) := by decide +kernel
theorem dX1_whyNotMade_164 : decode cX1_whyNotMade 164 = .ok (.iaload, 1) := by decide +kernel
theorem dX1_whyNotMade_165 : decode cX1_whyNotMade 165 = .ok (.aload_n 0, 1) := by decide +kernel
theorem dX1_whyNotMade_166 : decode cX1_whyNotMade 166 = .ok (.getfield 143, 3) := by decide +kernel
theorem dX1_whyNotMade_169 : decode cX1_whyNotMade 169 = .ok (.iload_n 3, 1) := by decide +kernel
theorem dX1_whyNotMade_170 : decode cX1_whyNotMade 170 = .ok (.iaload, 1) := by decide +kernel
theorem dX1_whyNotMade_171 : decode cX1_whyNotMade 171 = .ok (.iadd, 1) := by decide +kernel
theorem dX1_whyNotMade_172 : decode cX1_whyNotMade 172 = .ok (.bipush 24, 2) := by decide +kernel
theorem dX1_whyNotMade_174 : decode cX1_whyNotMade 174 = .ok (.if_icmp .le 7, 3) := by decide +kernel
theorem dX1_whyNotMade_177 : decode cX1_whyNotMade 177 = .ok (.iconst 4, 1) := by decide +kernel
theorem dX1_whyNotMade_178 : decode cX1_whyNotMade 178 = .ok (.goto 4, 3) := by decide +kernel
theorem dX1_whyNotMade_181 : decode cX1_whyNotMade 181 = .ok (.iconst 0, 1) := by decide +kernel
theorem dX1_whyNotMade_182 : decode cX1_whyNotMade 182 = .ok (.ireturn, 1) := by decide +kernel
theorem dX1_whyNotKept_0 : decode cX1_whyNotKept 0 = .ok (.aload_n 0, 1) := by decide +kernel
theorem dX1_whyNotKept_1 : decode cX1_whyNotKept 1 = .ok (.getfield 49, 3) := by decide +kernel
theorem dX1_whyNotKept_4 : decode cX1_whyNotKept 4 = .ok (.getfield 109, 3) := by decide +kernel
theorem dX1_whyNotKept_7 : decode cX1_whyNotKept 7 = .ok (.iload_n 1, 1) := by decide +kernel
theorem dX1_whyNotKept_8 : decode cX1_whyNotKept 8 = .ok (.iaload, 1) := by decide +kernel
theorem dX1_whyNotKept_9 : decode cX1_whyNotKept 9 = .ok (.lookupswitch 83 #[(1, 27), (3, 55)], 27) := by decide +kernel
theorem dX1_whyNotKept_36 : decode cX1_whyNotKept 36 = .ok (.aload_n 0, 1) := by decide +kernel
theorem dX1_whyNotKept_37 : decode cX1_whyNotKept 37 = .ok (.getfield 146, 3) := by decide +kernel
theorem dX1_whyNotKept_40 : decode cX1_whyNotKept 40 = .ok (.aload_n 0, 1) := by decide +kernel
theorem dX1_whyNotKept_41 : decode cX1_whyNotKept 41 = .ok (.getfield 49, 3) := by decide +kernel
theorem dX1_whyNotKept_44 : decode cX1_whyNotKept 44 = .ok (.getfield 119, 3) := by decide +kernel
theorem dX1_whyNotKept_47 : decode cX1_whyNotKept 47 = .ok (.iload_n 1, 1) := by decide +kernel
theorem dX1_whyNotKept_48 : decode cX1_whyNotKept 48 = .ok (.iaload, 1) := by decide +kernel
theorem dX1_whyNotKept_49 : decode cX1_whyNotKept 49 = .ok (.ishr, 1) := by decide +kernel
theorem dX1_whyNotKept_50 : decode cX1_whyNotKept 50 = .ok (.iconst 1, 1) := by decide +kernel
theorem dX1_whyNotKept_51 : decode cX1_whyNotKept 51 = .ok (.iand, 1) := by decide +kernel
theorem dX1_whyNotKept_52 : decode cX1_whyNotKept 52 = .ok (.ifCond .eq 7, 3) := by decide +kernel
theorem dX1_whyNotKept_55 : decode cX1_whyNotKept 55 = .ok (.iconst 1, 1) := by decide +kernel
theorem dX1_whyNotKept_56 : decode cX1_whyNotKept 56 = .ok (.goto 4, 3) := by decide +kernel
theorem dX1_whyNotKept_59 : decode cX1_whyNotKept 59 = .ok (.iconst 0, 1) := by decide +kernel
theorem dX1_whyNotKept_60 : decode cX1_whyNotKept 60 = .ok (.istore_n 2, 1) := by decide +kernel
theorem dX1_whyNotKept_61 : decode cX1_whyNotKept 61 = .ok (.goto 36, 3) := by decide +kernel
theorem dX1_whyNotKept_64 : decode cX1_whyNotKept 64 = .ok (.aload_n 0, 1) := by decide +kernel
theorem dX1_whyNotKept_65 : decode cX1_whyNotKept 65 = .ok (.getfield 149, 3) := by decide +kernel
theorem dX1_whyNotKept_68 : decode cX1_whyNotKept 68 = .ok (.aload_n 0, 1) := by decide +kernel
theorem dX1_whyNotKept_69 : decode cX1_whyNotKept 69 = .ok (.getfield 49, 3) := by decide +kernel
theorem dX1_whyNotKept_72 : decode cX1_whyNotKept 72 = .ok (.getfield 119, 3) := by decide +kernel
theorem dX1_whyNotKept_75 : decode cX1_whyNotKept 75 = .ok (.iload_n 1, 1) := by decide +kernel
theorem dX1_whyNotKept_76 : decode cX1_whyNotKept 76 = .ok (.iaload, 1) := by decide +kernel
theorem dX1_whyNotKept_77 : decode cX1_whyNotKept 77 = .ok (.ishr, 1) := by decide +kernel
theorem dX1_whyNotKept_78 : decode cX1_whyNotKept 78 = .ok (.iconst 1, 1) := by decide +kernel
theorem dX1_whyNotKept_79 : decode cX1_whyNotKept 79 = .ok (.iand, 1) := by decide +kernel
theorem dX1_whyNotKept_80 : decode cX1_whyNotKept 80 = .ok (.ifCond .eq 7, 3) := by decide +kernel
theorem dX1_whyNotKept_83 : decode cX1_whyNotKept 83 = .ok (.iconst 1, 1) := by decide +kernel
theorem dX1_whyNotKept_84 : decode cX1_whyNotKept 84 = .ok (.goto 4, 3) := by decide +kernel
theorem dX1_whyNotKept_87 : decode cX1_whyNotKept 87 = .ok (.iconst 0, 1) := by decide +kernel
theorem dX1_whyNotKept_88 : decode cX1_whyNotKept 88 = .ok (.istore_n 2, 1) := by decide +kernel
theorem dX1_whyNotKept_89 : decode cX1_whyNotKept 89 = .ok (.goto 8, 3) := by decide +kernel
theorem dX1_whyNotKept_92 : decode cX1_whyNotKept 92 = .ok (.aload_n 0, 1) := by decide +kernel
theorem dX1_whyNotKept_93 : decode cX1_whyNotKept 93 = .ok (.invokevirtual 152, 3) := by decide +kernel
theorem dX1_whyNotKept_96 : decode cX1_whyNotKept 96 = .ok (.istore_n 2, 1) := by decide +kernel
theorem dX1_whyNotKept_97 : decode cX1_whyNotKept 97 = .ok (.iload_n 2, 1) := by decide +kernel
theorem dX1_whyNotKept_98 : decode cX1_whyNotKept 98 = .ok (.ifCond .eq 7, 3) := by decide +kernel
theorem dX1_whyNotKept_101 : decode cX1_whyNotKept 101 = .ok (.iconst 0, 1) := by decide +kernel
theorem dX1_whyNotKept_102 : decode cX1_whyNotKept 102 = .ok (.goto 4, 3) := by decide +kernel
theorem dX1_whyNotKept_105 : decode cX1_whyNotKept 105 = .ok (.iconst 5, 1) := by decide +kernel
theorem dX1_whyNotKept_106 : decode cX1_whyNotKept 106 = .ok (.ireturn, 1) := by decide +kernel
theorem dX1_span_0 : decode cX1_span 0 = .ok (.aload_n 0, 1) := by decide +kernel
theorem dX1_span_1 : decode cX1_span 1 = .ok (.getfield 143, 3) := by decide +kernel
theorem dX1_span_4 : decode cX1_span 4 = .ok (.aload_n 0, 1) := by decide +kernel
theorem dX1_span_5 : decode cX1_span 5 = .ok (.getfield 49, 3) := by decide +kernel
theorem dX1_span_8 : decode cX1_span 8 = .ok (.getfield 119, 3) := by decide +kernel
theorem dX1_span_11 : decode cX1_span 11 = .ok (.iload_n 1, 1) := by decide +kernel
theorem dX1_span_12 : decode cX1_span 12 = .ok (.iaload, 1) := by decide +kernel
theorem dX1_span_13 : decode cX1_span 13 = .ok (.iaload, 1) := by decide +kernel
theorem dX1_span_14 : decode cX1_span 14 = .ok (.istore_n 2, 1) := by decide +kernel
theorem dX1_span_15 : decode cX1_span 15 = .ok (.iconst 1, 1) := by decide +kernel
theorem dX1_span_16 : decode cX1_span 16 = .ok (.iload_n 2, 1) := by decide +kernel
theorem dX1_span_17 : decode cX1_span 17 = .ok (.ishl, 1) := by decide +kernel
theorem dX1_span_18 : decode cX1_span 18 = .ok (.iconst 1, 1) := by decide +kernel
theorem dX1_span_19 : decode cX1_span 19 = .ok (.isub, 1) := by decide +kernel
theorem dX1_span_20 : decode cX1_span 20 = .ok (.aload_n 0, 1) := by decide +kernel
theorem dX1_span_21 : decode cX1_span 21 = .ok (.getfield 49, 3) := by decide +kernel
theorem dX1_span_24 : decode cX1_span 24 = .ok (.getfield 140, 3) := by decide +kernel
theorem dX1_span_27 : decode cX1_span 27 = .ok (.iload_n 1, 1) := by decide +kernel
theorem dX1_span_28 : decode cX1_span 28 = .ok (.iaload, 1) := by decide +kernel
theorem dX1_span_29 : decode cX1_span 29 = .ok (.ishl, 1) := by decide +kernel
theorem dX1_span_30 : decode cX1_span 30 = .ok (.ldc 156, 2) := by decide +kernel
theorem dX1_span_32 : decode cX1_span 32 = .ok (.iand, 1) := by decide +kernel
theorem dX1_span_33 : decode cX1_span 33 = .ok (.ireturn, 1) := by decide +kernel
theorem dX1_live_0 : decode cX1_live 0 = .ok (.aload_n 1, 1) := by decide +kernel
theorem dX1_live_1 : decode cX1_live 1 = .ok (.getfield 49, 3) := by decide +kernel
theorem dX1_live_4 : decode cX1_live 4 = .ok (.astore 5, 2) := by decide +kernel
theorem dX1_live_6 : decode cX1_live 6 = .ok (.aload_n 0, 1) := by decide +kernel
theorem dX1_live_7 : decode cX1_live 7 = .ok (.iconst (-1), 1) := by decide +kernel
theorem dX1_live_8 : decode cX1_live 8 = .ok (.putfield 68, 3) := by decide +kernel
theorem dX1_live_11 : decode cX1_live 11 = .ok (.iconst 0, 1) := by decide +kernel
theorem dX1_live_12 : decode cX1_live 12 = .ok (.istore 6, 2) := by decide +kernel
theorem dX1_live_14 : decode cX1_live 14 = .ok (.iload 6, 2) := by decide +kernel
theorem dX1_live_16 : decode cX1_live 16 = .ok (.aload 5, 2) := by decide +kernel
theorem dX1_live_18 : decode cX1_live 18 = .ok (.getfield 55, 3) := by decide +kernel
theorem dX1_live_21 : decode cX1_live 21 = .ok (.if_icmp .ge 45, 3) := by decide +kernel
theorem dX1_live_24 : decode cX1_live 24 = .ok (.aload_n 0, 1) := by decide +kernel
theorem dX1_live_25 : decode cX1_live 25 = .ok (.getfield 28, 3) := by decide +kernel
theorem dX1_live_28 : decode cX1_live 28 = .ok (.iload 6, 2) := by decide +kernel
theorem dX1_live_30 : decode cX1_live 30 = .ok (.aload_n 0, 1) := by decide +kernel
theorem dX1_live_31 : decode cX1_live 31 = .ok (.getfield 25, 3) := by decide +kernel
theorem dX1_live_34 : decode cX1_live 34 = .ok (.iload 6, 2) := by decide +kernel
theorem dX1_live_36 : decode cX1_live 36 = .ok (.iaload, 1) := by decide +kernel
theorem dX1_live_37 : decode cX1_live 37 = .ok (.ifCond .ne 17, 3) := by decide +kernel
theorem dX1_live_40 : decode cX1_live 40 = .ok (.aload 5, 2) := by decide +kernel
theorem dX1_live_42 : decode cX1_live 42 = .ok (.getfield 122, 3) := by decide +kernel
theorem dX1_live_45 : decode cX1_live 45 = .ok (.iload 6, 2) := by decide +kernel
theorem dX1_live_47 : decode cX1_live 47 = .ok (.iaload, 1) := by decide +kernel
theorem dX1_live_48 : decode cX1_live 48 = .ok (.iload 4, 2) := by decide +kernel
theorem dX1_live_50 : decode cX1_live 50 = .ok (.iand, 1) := by decide +kernel
theorem dX1_live_51 : decode cX1_live 51 = .ok (.ifCond .eq 7, 3) := by decide +kernel
theorem dX1_live_54 : decode cX1_live 54 = .ok (.iconst 1, 1) := by decide +kernel
theorem dX1_live_55 : decode cX1_live 55 = .ok (.goto 4, 3) := by decide +kernel
theorem dX1_live_58 : decode cX1_live 58 = .ok (.iconst 0, 1) := by decide +kernel
theorem dX1_live_59 : decode cX1_live 59 = .ok (.bastore, 1) := by decide +kernel
theorem dX1_live_60 : decode cX1_live 60 = .ok (.iinc 6 1, 3) := by decide +kernel
theorem dX1_live_63 : decode cX1_live 63 = .ok (.goto (-49), 3) := by decide +kernel
theorem dX1_live_66 : decode cX1_live 66 = .ok (.iconst 0, 1) := by decide +kernel
theorem dX1_live_67 : decode cX1_live 67 = .ok (.istore 6, 2) := by decide +kernel
theorem dX1_live_69 : decode cX1_live 69 = .ok (.iload 6, 2) := by decide +kernel
theorem dX1_live_71 : decode cX1_live 71 = .ok (.bipush 24, 2) := by decide +kernel
theorem dX1_live_73 : decode cX1_live 73 = .ok (.if_icmp .gt 17, 3) := by decide +kernel
theorem dX1_live_76 : decode cX1_live 76 = .ok (.aload_n 0, 1) := by decide +kernel
theorem dX1_live_77 : decode cX1_live 77 = .ok (.getfield 32, 3) := by decide +kernel
theorem dX1_live_80 : decode cX1_live 80 = .ok (.iload 6, 2) := by decide +kernel
theorem dX1_live_82 : decode cX1_live 82 = .ok (.iconst 0, 1) := by decide +kernel
theorem dX1_live_83 : decode cX1_live 83 = .ok (.iastore, 1) := by decide +kernel
theorem dX1_live_84 : decode cX1_live 84 = .ok (.iinc 6 1, 3) := by decide +kernel
theorem dX1_live_87 : decode cX1_live 87 = .ok (.goto (-18), 3) := by decide +kernel
theorem dX1_live_90 : decode cX1_live 90 = .ok (.iconst 0, 1) := by decide +kernel
theorem dX1_live_91 : decode cX1_live 91 = .ok (.istore 6, 2) := by decide +kernel
theorem dX1_live_93 : decode cX1_live 93 = .ok (.iload 6, 2) := by decide +kernel
theorem dX1_live_95 : decode cX1_live 95 = .ok (.bipush 24, 2) := by decide +kernel
theorem dX1_live_97 : decode cX1_live 97 = .ok (.if_icmp .gt 116, 3) := by decide +kernel
theorem dX1_live_100 : decode cX1_live 100 = .ok (.aload_n 0, 1) := by decide +kernel
theorem dX1_live_101 : decode cX1_live 101 = .ok (.getfield 21, 3) := by decide +kernel
theorem dX1_live_104 : decode cX1_live 104 = .ok (.dup, 1) := by decide +kernel
theorem dX1_live_105 : decode cX1_live 105 = .ok (.getfield 103, 3) := by decide +kernel
theorem dX1_live_108 : decode cX1_live 108 = .ok (.aload_n 0, 1) := by decide +kernel
theorem dX1_live_109 : decode cX1_live 109 = .ok (.getfield 32, 3) := by decide +kernel
theorem dX1_live_112 : decode cX1_live 112 = .ok (.iload 6, 2) := by decide +kernel
theorem dX1_live_114 : decode cX1_live 114 = .ok (.iaload, 1) := by decide +kernel
theorem dX1_live_115 : decode cX1_live 115 = .ok (.ior, 1) := by decide +kernel
theorem dX1_live_116 : decode cX1_live 116 = .ok (.putfield 103, 3) := by decide +kernel
theorem dX1_live_119 : decode cX1_live 119 = .ok (.aload_n 0, 1) := by decide +kernel
theorem dX1_live_120 : decode cX1_live 120 = .ok (.getfield 21, 3) := by decide +kernel
theorem dX1_live_123 : decode cX1_live 123 = .ok (.aload_n 1, 1) := by decide +kernel
theorem dX1_live_124 : decode cX1_live 124 = .ok (.iload 6, 2) := by decide +kernel
theorem dX1_live_126 : decode cX1_live 126 = .ok (.iload 6, 2) := by decide +kernel
theorem dX1_live_128 : decode cX1_live 128 = .ok (.iconst 1, 1) := by decide +kernel
theorem dX1_live_129 : decode cX1_live 129 = .ok (.iadd, 1) := by decide +kernel
theorem dX1_live_130 : decode cX1_live 130 = .ok (.invokevirtual 157, 3) := by decide +kernel
theorem dX1_live_133 : decode cX1_live 133 = .ok (.iconst 0, 1) := by decide +kernel
theorem dX1_live_134 : decode cX1_live 134 = .ok (.istore 7, 2) := by decide +kernel
theorem dX1_live_136 : decode cX1_live 136 = .ok (.iload 7, 2) := by decide +kernel
theorem dX1_live_138 : decode cX1_live 138 = .ok (.aload 5, 2) := by decide +kernel
theorem dX1_live_140 : decode cX1_live 140 = .ok (.getfield 55, 3) := by decide +kernel
theorem dX1_live_143 : decode cX1_live 143 = .ok (.if_icmp .ge 50, 3) := by decide +kernel
theorem dX1_live_146 : decode cX1_live 146 = .ok (.aload 5, 2) := by decide +kernel
theorem dX1_live_148 : decode cX1_live 148 = .ok (.getfield 109, 3) := by decide +kernel
theorem dX1_live_151 : decode cX1_live 151 = .ok (.iload 7, 2) := by decide +kernel
theorem dX1_live_153 : decode cX1_live 153 = .ok (.iaload, 1) := by decide +kernel
theorem dX1_live_154 : decode cX1_live 154 = .ok (.ifCond .ne 33, 3) := by decide +kernel
theorem dX1_live_157 : decode cX1_live 157 = .ok (.aload 5, 2) := by decide +kernel
theorem dX1_live_159 : decode cX1_live 159 = .ok (.getfield 140, 3) := by decide +kernel
theorem dX1_live_162 : decode cX1_live 162 = .ok (.iload 7, 2) := by decide +kernel
theorem dX1_live_164 : decode cX1_live 164 = .ok (.iaload, 1) := by decide +kernel
theorem dX1_live_165 : decode cX1_live 165 = .ok (.iload 6, 2) := by decide +kernel
theorem dX1_live_167 : decode cX1_live 167 = .ok (.if_icmp .ne 20, 3) := by decide +kernel
theorem dX1_live_170 : decode cX1_live 170 = .ok (.aload_n 0, 1) := by decide +kernel
theorem dX1_live_171 : decode cX1_live 171 = .ok (.getfield 28, 3) := by decide +kernel
theorem dX1_live_174 : decode cX1_live 174 = .ok (.iload 7, 2) := by decide +kernel
theorem dX1_live_176 : decode cX1_live 176 = .ok (.baload, 1) := by decide +kernel
theorem dX1_live_177 : decode cX1_live 177 = .ok (.ifCond .ne 10, 3) := by decide +kernel
theorem dX1_live_180 : decode cX1_live 180 = .ok (.aload_n 0, 1) := by decide +kernel
theorem dX1_live_181 : decode cX1_live 181 = .ok (.aload_n 1, 1) := by decide +kernel
theorem dX1_live_182 : decode cX1_live 182 = .ok (.iload 7, 2) := by decide +kernel
theorem dX1_live_184 : decode cX1_live 184 = .ok (.invokevirtual 161, 3) := by decide +kernel
theorem dX1_live_187 : decode cX1_live 187 = .ok (.iinc 7 1, 3) := by decide +kernel
theorem dX1_live_190 : decode cX1_live 190 = .ok (.goto (-54), 3) := by decide +kernel
theorem dX1_live_193 : decode cX1_live 193 = .ok (.aload_n 0, 1) := by decide +kernel
theorem dX1_live_194 : decode cX1_live 194 = .ok (.getfield 35, 3) := by decide +kernel
theorem dX1_live_197 : decode cX1_live 197 = .ok (.iload 6, 2) := by decide +kernel
theorem dX1_live_199 : decode cX1_live 199 = .ok (.aload_n 0, 1) := by decide +kernel
theorem dX1_live_200 : decode cX1_live 200 = .ok (.getfield 21, 3) := by decide +kernel
theorem dX1_live_203 : decode cX1_live 203 = .ok (.getfield 103, 3) := by decide +kernel
theorem dX1_live_206 : decode cX1_live 206 = .ok (.iastore, 1) := by decide +kernel
theorem dX1_live_207 : decode cX1_live 207 = .ok (.iinc 6 1, 3) := by decide +kernel
theorem dX1_live_210 : decode cX1_live 210 = .ok (.goto (-117), 3) := by decide +kernel
theorem dX1_live_213 : decode cX1_live 213 = .ok (.aload_n 0, 1) := by decide +kernel
theorem dX1_live_214 : decode cX1_live 214 = .ok (.getfield 21, 3) := by decide +kernel
theorem dX1_live_217 : decode cX1_live 217 = .ok (.aload_n 0, 1) := by decide +kernel
theorem dX1_live_218 : decode cX1_live 218 = .ok (.aload_n 1, 1) := by decide +kernel
theorem dX1_live_219 : decode cX1_live 219 = .ok (.aload_n 2, 1) := by decide +kernel
theorem dX1_live_220 : decode cX1_live 220 = .ok (.iload_n 3, 1) := by decide +kernel
theorem dX1_live_221 : decode cX1_live 221 = .ok (.invokevirtual 164, 3) := by decide +kernel
theorem dX1_live_224 : decode cX1_live 224 = .ok (.putfield 103, 3) := by decide +kernel
theorem dX1_live_227 : decode cX1_live 227 = .ok (.aload_n 0, 1) := by decide +kernel
theorem dX1_live_228 : decode cX1_live 228 = .ok (.getfield 35, 3) := by decide +kernel
theorem dX1_live_231 : decode cX1_live 231 = .ok (.bipush 25, 2) := by decide +kernel
theorem dX1_live_233 : decode cX1_live 233 = .ok (.aload_n 0, 1) := by decide +kernel
theorem dX1_live_234 : decode cX1_live 234 = .ok (.getfield 21, 3) := by decide +kernel
theorem dX1_live_237 : decode cX1_live 237 = .ok (.getfield 103, 3) := by decide +kernel
theorem dX1_live_240 : decode cX1_live 240 = .ok (.iastore, 1) := by decide +kernel
theorem dX1_live_241 : decode cX1_live 241 = .ok (.iconst 0, 1) := by decide +kernel
theorem dX1_live_242 : decode cX1_live 242 = .ok (.istore 6, 2) := by decide +kernel
theorem dX1_live_244 : decode cX1_live 244 = .ok (.iconst 0, 1) := by decide +kernel
theorem dX1_live_245 : decode cX1_live 245 = .ok (.istore 7, 2) := by decide +kernel
theorem dX1_live_247 : decode cX1_live 247 = .ok (.iload 7, 2) := by decide +kernel
theorem dX1_live_249 : decode cX1_live 249 = .ok (.aload 5, 2) := by decide +kernel
theorem dX1_live_251 : decode cX1_live 251 = .ok (.getfield 55, 3) := by decide +kernel
theorem dX1_live_254 : decode cX1_live 254 = .ok (.if_icmp .ge 29, 3) := by decide +kernel
theorem dX1_live_257 : decode cX1_live 257 = .ok (.iload 6, 2) := by decide +kernel
theorem dX1_live_259 : decode cX1_live 259 = .ok (.aload_n 0, 1) := by decide +kernel
theorem dX1_live_260 : decode cX1_live 260 = .ok (.getfield 28, 3) := by decide +kernel
theorem dX1_live_263 : decode cX1_live 263 = .ok (.iload 7, 2) := by decide +kernel
theorem dX1_live_265 : decode cX1_live 265 = .ok (.baload, 1) := by decide +kernel
theorem dX1_live_266 : decode cX1_live 266 = .ok (.ifCond .eq 7, 3) := by decide +kernel
theorem dX1_live_269 : decode cX1_live 269 = .ok (.iconst 1, 1) := by decide +kernel
theorem dX1_live_270 : decode cX1_live 270 = .ok (.goto 4, 3) := by decide +kernel
theorem dX1_live_273 : decode cX1_live 273 = .ok (.iconst 0, 1) := by decide +kernel
theorem dX1_live_274 : decode cX1_live 274 = .ok (.iadd, 1) := by decide +kernel
theorem dX1_live_275 : decode cX1_live 275 = .ok (.istore 6, 2) := by decide +kernel
theorem dX1_live_277 : decode cX1_live 277 = .ok (.iinc 7 1, 3) := by decide +kernel
theorem dX1_live_280 : decode cX1_live 280 = .ok (.goto (-33), 3) := by decide +kernel
theorem dX1_live_283 : decode cX1_live 283 = .ok (.iload 6, 2) := by decide +kernel
theorem dX1_live_285 : decode cX1_live 285 = .ok (.ireturn, 1) := by decide +kernel
theorem dX1_begin_0 : decode cX1_begin 0 = .ok (.aload_n 1, 1) := by decide +kernel
theorem dX1_begin_1 : decode cX1_begin 1 = .ok (.getfield 49, 3) := by decide +kernel
theorem dX1_begin_4 : decode cX1_begin 4 = .ok (.getfield 119, 3) := by decide +kernel
theorem dX1_begin_7 : decode cX1_begin 7 = .ok (.iload_n 2, 1) := by decide +kernel
theorem dX1_begin_8 : decode cX1_begin 8 = .ok (.iaload, 1) := by decide +kernel
theorem dX1_begin_9 : decode cX1_begin 9 = .ok (.istore_n 3, 1) := by decide +kernel
theorem dX1_begin_10 : decode cX1_begin 10 = .ok (.aload_n 1, 1) := by decide +kernel
theorem dX1_begin_11 : decode cX1_begin 11 = .ok (.getfield 49, 3) := by decide +kernel
theorem dX1_begin_14 : decode cX1_begin 14 = .ok (.getfield 140, 3) := by decide +kernel
theorem dX1_begin_17 : decode cX1_begin 17 = .ok (.iload_n 2, 1) := by decide +kernel
theorem dX1_begin_18 : decode cX1_begin 18 = .ok (.iaload, 1) := by decide +kernel
theorem dX1_begin_19 : decode cX1_begin 19 = .ok (.aload_n 1, 1) := by decide +kernel
theorem dX1_begin_20 : decode cX1_begin 20 = .ok (.getfield 143, 3) := by decide +kernel
theorem dX1_begin_23 : decode cX1_begin 23 = .ok (.iload_n 3, 1) := by decide +kernel
theorem dX1_begin_24 : decode cX1_begin 24 = .ok (.iaload, 1) := by decide +kernel
theorem dX1_begin_25 : decode cX1_begin 25 = .ok (.iadd, 1) := by decide +kernel
theorem dX1_begin_26 : decode cX1_begin 26 = .ok (.istore 4, 2) := by decide +kernel
theorem dX1_begin_28 : decode cX1_begin 28 = .ok (.aload_n 0, 1) := by decide +kernel
theorem dX1_begin_29 : decode cX1_begin 29 = .ok (.iload_n 2, 1) := by decide +kernel
theorem dX1_begin_30 : decode cX1_begin 30 = .ok (.aload_n 1, 1) := by decide +kernel
theorem dX1_begin_31 : decode cX1_begin 31 = .ok (.iload_n 3, 1) := by decide +kernel
theorem dX1_begin_32 : decode cX1_begin 32 = .ok (.invokevirtual 168, 3) := by decide +kernel
theorem dX1_begin_35 : decode cX1_begin 35 = .ok (.invokevirtual 171, 3) := by decide +kernel
theorem dX1_begin_38 : decode cX1_begin 38 = .ok (.ifCond .eq 48, 3) := by decide +kernel
theorem dX1_begin_41 : decode cX1_begin 41 = .ok (.iload 4, 2) := by decide +kernel
theorem dX1_begin_43 : decode cX1_begin 43 = .ok (.bipush 24, 2) := by decide +kernel
theorem dX1_begin_45 : decode cX1_begin 45 = .ok (.if_icmp .gt 41, 3) := by decide +kernel
theorem dX1_begin_48 : decode cX1_begin 48 = .ok (.aload_n 0, 1) := by decide +kernel
theorem dX1_begin_49 : decode cX1_begin 49 = .ok (.getfield 21, 3) := by decide +kernel
theorem dX1_begin_52 : decode cX1_begin 52 = .ok (.dup, 1) := by decide +kernel
theorem dX1_begin_53 : decode cX1_begin 53 = .ok (.getfield 103, 3) := by decide +kernel
theorem dX1_begin_56 : decode cX1_begin 56 = .ok (.aload_n 1, 1) := by decide +kernel
theorem dX1_begin_57 : decode cX1_begin 57 = .ok (.getfield 175, 3) := by decide +kernel
theorem dX1_begin_60 : decode cX1_begin 60 = .ok (.iload_n 3, 1) := by decide +kernel
theorem dX1_begin_61 : decode cX1_begin 61 = .ok (.iaload, 1) := by decide +kernel
theorem dX1_begin_62 : decode cX1_begin 62 = .ok (.iconst (-1), 1) := by decide +kernel
theorem dX1_begin_63 : decode cX1_begin 63 = .ok (.ixor, 1) := by decide +kernel
theorem dX1_begin_64 : decode cX1_begin 64 = .ok (.iand, 1) := by decide +kernel
theorem dX1_begin_65 : decode cX1_begin 65 = .ok (.putfield 103, 3) := by decide +kernel
theorem dX1_begin_68 : decode cX1_begin 68 = .ok (.aload_n 0, 1) := by decide +kernel
theorem dX1_begin_69 : decode cX1_begin 69 = .ok (.getfield 32, 3) := by decide +kernel
theorem dX1_begin_72 : decode cX1_begin 72 = .ok (.iload 4, 2) := by decide +kernel
theorem dX1_begin_74 : decode cX1_begin 74 = .ok (.dup2, 1) := by decide +kernel
theorem dX1_begin_75 : decode cX1_begin 75 = .ok (.iaload, 1) := by decide +kernel
theorem dX1_begin_76 : decode cX1_begin 76 = .ok (.iconst 1, 1) := by decide +kernel
theorem dX1_begin_77 : decode cX1_begin 77 = .ok (.aload_n 1, 1) := by decide +kernel
theorem dX1_begin_78 : decode cX1_begin 78 = .ok (.getfield 178, 3) := by decide +kernel
theorem dX1_begin_81 : decode cX1_begin 81 = .ok (.iload_n 3, 1) := by decide +kernel
theorem dX1_begin_82 : decode cX1_begin 82 = .ok (.iaload, 1) := by decide +kernel
theorem dX1_begin_83 : decode cX1_begin 83 = .ok (.ishl, 1) := by decide +kernel
theorem dX1_begin_84 : decode cX1_begin 84 = .ok (.ior, 1) := by decide +kernel
theorem dX1_begin_85 : decode cX1_begin 85 = .ok (.iastore, 1) := by decide +kernel
theorem dX1_begin_86 : decode cX1_begin 86 = .ok (.return_, 1) := by decide +kernel
theorem dX1_areThere_0 : decode cX1_areThere 0 = .ok (.iload_n 2, 1) := by decide +kernel
theorem dX1_areThere_1 : decode cX1_areThere 1 = .ok (.aload_n 0, 1) := by decide +kernel
theorem dX1_areThere_2 : decode cX1_areThere 2 = .ok (.getfield 21, 3) := by decide +kernel
theorem dX1_areThere_5 : decode cX1_areThere 5 = .ok (.getfield 103, 3) := by decide +kernel
theorem dX1_areThere_8 : decode cX1_areThere 8 = .ok (.iconst (-1), 1) := by decide +kernel
theorem dX1_areThere_9 : decode cX1_areThere 9 = .ok (.ixor, 1) := by decide +kernel
theorem dX1_areThere_10 : decode cX1_areThere 10 = .ok (.iand, 1) := by decide +kernel
theorem dX1_areThere_11 : decode cX1_areThere 11 = .ok (.istore_n 3, 1) := by decide +kernel
theorem dX1_areThere_12 : decode cX1_areThere 12 = .ok (.iload_n 3, 1) := by decide +kernel
theorem dX1_areThere_13 : decode cX1_areThere 13 = .ok (.ifCond .ne 5, 3) := by decide +kernel
theorem dX1_areThere_16 : decode cX1_areThere 16 = .ok (.iconst 1, 1) := by decide +kernel
theorem dX1_areThere_17 : decode cX1_areThere 17 = .ok (.ireturn, 1) := by decide +kernel
theorem dX1_areThere_18 : decode cX1_areThere 18 = .ok (.aload_n 0, 1) := by decide +kernel
theorem dX1_areThere_19 : decode cX1_areThere 19 = .ok (.getfield 28, 3) := by decide +kernel
theorem dX1_areThere_22 : decode cX1_areThere 22 = .ok (.iload_n 1, 1) := by decide +kernel
theorem dX1_areThere_23 : decode cX1_areThere 23 = .ok (.iconst 1, 1) := by decide +kernel
theorem dX1_areThere_24 : decode cX1_areThere 24 = .ok (.bastore, 1) := by decide +kernel
theorem dX1_areThere_25 : decode cX1_areThere 25 = .ok (.aload_n 0, 1) := by decide +kernel
theorem dX1_areThere_26 : decode cX1_areThere 26 = .ok (.getfield 68, 3) := by decide +kernel
theorem dX1_areThere_29 : decode cX1_areThere 29 = .ok (.iconst (-1), 1) := by decide +kernel
theorem dX1_areThere_30 : decode cX1_areThere 30 = .ok (.if_icmp .ne 16, 3) := by decide +kernel
theorem dX1_areThere_33 : decode cX1_areThere 33 = .ok (.aload_n 0, 1) := by decide +kernel
theorem dX1_areThere_34 : decode cX1_areThere 34 = .ok (.iload_n 1, 1) := by decide +kernel
theorem dX1_areThere_35 : decode cX1_areThere 35 = .ok (.putfield 68, 3) := by decide +kernel
theorem dX1_areThere_38 : decode cX1_areThere 38 = .ok (.aload_n 0, 1) := by decide +kernel
theorem dX1_areThere_39 : decode cX1_areThere 39 = .ok (.iload_n 3, 1) := by decide +kernel
theorem dX1_areThere_40 : decode cX1_areThere 40 = .ok (.invokestatic 181, 3) := by decide +kernel
theorem dX1_areThere_43 : decode cX1_areThere 43 = .ok (.putfield 184, 3) := by decide +kernel
theorem dX1_areThere_46 : decode cX1_areThere 46 = .ok (.iconst 0, 1) := by decide +kernel
theorem dX1_areThere_47 : decode cX1_areThere 47 = .ok (.ireturn, 1) := by decide +kernel
theorem dX1_overNight_0 : decode cX1_overNight 0 = .ok (.aload_n 1, 1) := by decide +kernel
theorem dX1_overNight_1 : decode cX1_overNight 1 = .ok (.getfield 49, 3) := by decide +kernel
theorem dX1_overNight_4 : decode cX1_overNight 4 = .ok (.astore 4, 2) := by decide +kernel
theorem dX1_overNight_6 : decode cX1_overNight 6 = .ok (.iconst (-1), 1) := by decide +kernel
theorem dX1_overNight_7 : decode cX1_overNight 7 = .ok (.istore 5, 2) := by decide +kernel
theorem dX1_overNight_9 : decode cX1_overNight 9 = .ok (.iconst (-1), 1) := by decide +kernel
theorem dX1_overNight_10 : decode cX1_overNight 10 = .ok (.istore 6, 2) := by decide +kernel
theorem dX1_overNight_12 : decode cX1_overNight 12 = .ok (.iconst (-1), 1) := by decide +kernel
theorem dX1_overNight_13 : decode cX1_overNight 13 = .ok (.istore 7, 2) := by decide +kernel
theorem dX1_overNight_15 : decode cX1_overNight 15 = .ok (.iconst 0, 1) := by decide +kernel
theorem dX1_overNight_16 : decode cX1_overNight 16 = .ok (.istore 8, 2) := by decide +kernel
theorem dX1_overNight_18 : decode cX1_overNight 18 = .ok (.iload 8, 2) := by decide +kernel
theorem dX1_overNight_20 : decode cX1_overNight 20 = .ok (.aload 4, 2) := by decide +kernel
theorem dX1_overNight_22 : decode cX1_overNight 22 = .ok (.getfield 55, 3) := by decide +kernel
theorem dX1_overNight_25 : decode cX1_overNight 25 = .ok (.if_icmp .ge 116, 3) := by decide +kernel
theorem dX1_overNight_28 : decode cX1_overNight 28 = .ok (.aload 4, 2) := by decide +kernel
theorem dX1_overNight_30 : decode cX1_overNight 30 = .ok (.getfield 119, 3) := by decide +kernel
theorem dX1_overNight_33 : decode cX1_overNight 33 = .ok (.iload 8, 2) := by decide +kernel
theorem dX1_overNight_35 : decode cX1_overNight 35 = .ok (.iaload, 1) := by decide +kernel
theorem dX1_overNight_36 : decode cX1_overNight 36 = .ok (.istore 9, 2) := by decide +kernel
theorem dX1_overNight_38 : decode cX1_overNight 38 = .ok (.aload 4, 2) := by decide +kernel
theorem dX1_overNight_40 : decode cX1_overNight 40 = .ok (.getfield 109, 3) := by decide +kernel
theorem dX1_overNight_43 : decode cX1_overNight 43 = .ok (.iload 8, 2) := by decide +kernel
theorem dX1_overNight_45 : decode cX1_overNight 45 = .ok (.iaload, 1) := by decide +kernel
theorem dX1_overNight_46 : decode cX1_overNight 46 = .ok (.ifCond .eq 89, 3) := by decide +kernel
theorem dX1_overNight_49 : decode cX1_overNight 49 = .ok (.aload_n 0, 1) := by decide +kernel
theorem dX1_overNight_50 : decode cX1_overNight 50 = .ok (.getfield 28, 3) := by decide +kernel
theorem dX1_overNight_53 : decode cX1_overNight 53 = .ok (.iload 8, 2) := by decide +kernel
theorem dX1_overNight_55 : decode cX1_overNight 55 = .ok (.baload, 1) := by decide +kernel
theorem dX1_overNight_56 : decode cX1_overNight 56 = .ok (.ifCond .ne 79, 3) := by decide +kernel
theorem dX1_overNight_59 : decode cX1_overNight 59 = .ok (.aload_n 0, 1) := by decide +kernel
theorem dX1_overNight_60 : decode cX1_overNight 60 = .ok (.iload 8, 2) := by decide +kernel
theorem dX1_overNight_62 : decode cX1_overNight 62 = .ok (.iconst 1, 1) := by decide +kernel
theorem dX1_overNight_63 : decode cX1_overNight 63 = .ok (.iload 9, 2) := by decide +kernel
theorem dX1_overNight_65 : decode cX1_overNight 65 = .ok (.ishl, 1) := by decide +kernel
theorem dX1_overNight_66 : decode cX1_overNight 66 = .ok (.invokevirtual 171, 3) := by decide +kernel
theorem dX1_overNight_69 : decode cX1_overNight 69 = .ok (.ifCond .eq 66, 3) := by decide +kernel
theorem dX1_overNight_72 : decode cX1_overNight 72 = .ok (.aload 4, 2) := by decide +kernel
theorem dX1_overNight_74 : decode cX1_overNight 74 = .ok (.getfield 109, 3) := by decide +kernel
theorem dX1_overNight_77 : decode cX1_overNight 77 = .ok (.iload 8, 2) := by decide +kernel
theorem dX1_overNight_79 : decode cX1_overNight 79 = .ok (.iaload, 1) := by decide +kernel
theorem dX1_overNight_80 : decode cX1_overNight 80 = .ok (.iconst 1, 1) := by decide +kernel
theorem dX1_overNight_81 : decode cX1_overNight 81 = .ok (.if_icmp .ne 8, 3) := by decide +kernel
theorem dX1_overNight_84 : decode cX1_overNight 84 = .ok (.iload 9, 2) := by decide +kernel
theorem dX1_overNight_86 : decode cX1_overNight 86 = .ok (.goto 5, 3) := by decide +kernel
theorem dX1_overNight_89 : decode cX1_overNight 89 = .ok (.iload 5, 2) := by decide +kernel
theorem dX1_overNight_91 : decode cX1_overNight 91 = .ok (.istore 5, 2) := by decide +kernel
theorem dX1_overNight_93 : decode cX1_overNight 93 = .ok (.aload 4, 2) := by decide +kernel
theorem dX1_overNight_95 : decode cX1_overNight 95 = .ok (.getfield 109, 3) := by decide +kernel
theorem dX1_overNight_98 : decode cX1_overNight 98 = .ok (.iload 8, 2) := by decide +kernel
theorem dX1_overNight_100 : decode cX1_overNight 100 = .ok (.iaload, 1) := by decide +kernel
theorem dX1_overNight_101 : decode cX1_overNight 101 = .ok (.iconst 2, 1) := by decide +kernel
theorem dX1_overNight_102 : decode cX1_overNight 102 = .ok (.if_icmp .ne 8, 3) := by decide +kernel
theorem dX1_overNight_105 : decode cX1_overNight 105 = .ok (.iload 9, 2) := by decide +kernel
theorem dX1_overNight_107 : decode cX1_overNight 107 = .ok (.goto 5, 3) := by decide +kernel
theorem dX1_overNight_110 : decode cX1_overNight 110 = .ok (.iload 6, 2) := by decide +kernel
theorem dX1_overNight_112 : decode cX1_overNight 112 = .ok (.istore 6, 2) := by decide +kernel
theorem dX1_overNight_114 : decode cX1_overNight 114 = .ok (.aload 4, 2) := by decide +kernel
theorem dX1_overNight_116 : decode cX1_overNight 116 = .ok (.getfield 109, 3) := by decide +kernel
theorem dX1_overNight_119 : decode cX1_overNight 119 = .ok (.iload 8, 2) := by decide +kernel
theorem dX1_overNight_121 : decode cX1_overNight 121 = .ok (.iaload, 1) := by decide +kernel
theorem dX1_overNight_122 : decode cX1_overNight 122 = .ok (.iconst 3, 1) := by decide +kernel
theorem dX1_overNight_123 : decode cX1_overNight 123 = .ok (.if_icmp .ne 8, 3) := by decide +kernel
theorem dX1_overNight_126 : decode cX1_overNight 126 = .ok (.iload 9, 2) := by decide +kernel
theorem dX1_overNight_128 : decode cX1_overNight 128 = .ok (.goto 5, 3) := by decide +kernel
theorem dX1_overNight_131 : decode cX1_overNight 131 = .ok (.iload 7, 2) := by decide +kernel
theorem dX1_overNight_133 : decode cX1_overNight 133 = .ok (.istore 7, 2) := by decide +kernel
theorem dX1_overNight_135 : decode cX1_overNight 135 = .ok (.iinc 8 1, 3) := by decide +kernel
theorem dX1_overNight_138 : decode cX1_overNight 138 = .ok (.goto (-120), 3) := by decide +kernel
theorem dX1_overNight_141 : decode cX1_overNight 141 = .ok (.aload_n 2, 1) := by decide +kernel
theorem dX1_overNight_142 : decode cX1_overNight 142 = .ok (.aload_n 1, 1) := by decide +kernel
theorem dX1_overNight_143 : decode cX1_overNight 143 = .ok (.aload_n 0, 1) := by decide +kernel
theorem dX1_overNight_144 : decode cX1_overNight 144 = .ok (.getfield 21, 3) := by decide +kernel
theorem dX1_overNight_147 : decode cX1_overNight 147 = .ok (.getfield 103, 3) := by decide +kernel
theorem dX1_overNight_150 : decode cX1_overNight 150 = .ok (.iload_n 3, 1) := by decide +kernel
theorem dX1_overNight_151 : decode cX1_overNight 151 = .ok (.bipush 7, 2) := by decide +kernel
theorem dX1_overNight_153 : decode cX1_overNight 153 = .ok (.irem, 1) := by decide +kernel
theorem dX1_overNight_154 : decode cX1_overNight 154 = .ok (.invokevirtual 187, 3) := by decide +kernel
theorem dX1_overNight_157 : decode cX1_overNight 157 = .ok (.aload_n 2, 1) := by decide +kernel
theorem dX1_overNight_158 : decode cX1_overNight 158 = .ok (.iload 5, 2) := by decide +kernel
theorem dX1_overNight_160 : decode cX1_overNight 160 = .ok (.iload 6, 2) := by decide +kernel
theorem dX1_overNight_162 : decode cX1_overNight 162 = .ok (.iload 7, 2) := by decide +kernel
theorem dX1_overNight_164 : decode cX1_overNight 164 = .ok (.invokevirtual 192, 3) := by decide +kernel
theorem dX1_overNight_167 : decode cX1_overNight 167 = .ok (.ireturn, 1) := by decide +kernel
theorem dX2_init_0 : decode cX2_init 0 = .ok (.aload_n 0, 1) := by decide +kernel
theorem dX2_init_1 : decode cX2_init 1 = .ok (.invokespecial 3, 3) := by decide +kernel
theorem dX2_init_4 : decode cX2_init 4 = .ok (.aload_n 0, 1) := by decide +kernel
theorem dX2_init_5 : decode cX2_init 5 = .ok (.bipush 8, 2) := by decide +kernel
theorem dX2_init_7 : decode cX2_init 7 = .ok (.newarray .int, 2) := by decide +kernel
theorem dX2_init_9 : decode cX2_init 9 = .ok (.putfield 9, 3) := by decide +kernel
theorem dX2_init_12 : decode cX2_init 12 = .ok (.aload_n 0, 1) := by decide +kernel
theorem dX2_init_13 : decode cX2_init 13 = .ok (.bipush 8, 2) := by decide +kernel
theorem dX2_init_15 : decode cX2_init 15 = .ok (.newarray .int, 2) := by decide +kernel
theorem dX2_init_17 : decode cX2_init 17 = .ok (.putfield 15, 3) := by decide +kernel
theorem dX2_init_20 : decode cX2_init 20 = .ok (.aload_n 0, 1) := by decide +kernel
theorem dX2_init_21 : decode cX2_init 21 = .ok (.sipush 300, 3) := by decide +kernel
theorem dX2_init_24 : decode cX2_init 24 = .ok (.newarray .int, 2) := by decide +kernel
theorem dX2_init_26 : decode cX2_init 26 = .ok (.putfield 18, 3) := by decide +kernel
theorem dX2_init_29 : decode cX2_init 29 = .ok (.return_, 1) := by decide +kernel
theorem dX2_clear_0 : decode cX2_clear 0 = .ok (.aload_n 0, 1) := by decide +kernel
theorem dX2_clear_1 : decode cX2_clear 1 = .ok (.iconst 0, 1) := by decide +kernel
theorem dX2_clear_2 : decode cX2_clear 2 = .ok (.putfield 21, 3) := by decide +kernel
theorem dX2_clear_5 : decode cX2_clear 5 = .ok (.aload_n 0, 1) := by decide +kernel
theorem dX2_clear_6 : decode cX2_clear 6 = .ok (.iconst 0, 1) := by decide +kernel
theorem dX2_clear_7 : decode cX2_clear 7 = .ok (.putfield 25, 3) := by decide +kernel
theorem dX2_clear_10 : decode cX2_clear 10 = .ok (.aload_n 0, 1) := by decide +kernel
theorem dX2_clear_11 : decode cX2_clear 11 = .ok (.iconst 0, 1) := by decide +kernel
theorem dX2_clear_12 : decode cX2_clear 12 = .ok (.putfield 28, 3) := by decide +kernel
theorem dX2_clear_15 : decode cX2_clear 15 = .ok (.return_, 1) := by decide +kernel
theorem dX2_build_0 : decode cX2_build 0 = .ok (.aload_n 0, 1) := by decide +kernel
theorem dX2_build_1 : decode cX2_build 1 = .ok (.invokevirtual 31, 3) := by decide +kernel
theorem dX2_build_4 : decode cX2_build 4 = .ok (.iconst 0, 1) := by decide +kernel
theorem dX2_build_5 : decode cX2_build 5 = .ok (.istore_n 3, 1) := by decide +kernel
theorem dX2_build_6 : decode cX2_build 6 = .ok (.iload_n 3, 1) := by decide +kernel
theorem dX2_build_7 : decode cX2_build 7 = .ok (.sipush 300, 3) := by decide +kernel
theorem dX2_build_10 : decode cX2_build 10 = .ok (.if_icmp .ge 101, 3) := by decide +kernel
theorem dX2_build_13 : decode cX2_build 13 = .ok (.aload_n 1, 1) := by decide +kernel
theorem dX2_build_14 : decode cX2_build 14 = .ok (.invokevirtual 34, 3) := by decide +kernel
theorem dX2_build_17 : decode cX2_build 17 = .ok (.ifCond .eq 94, 3) := by decide +kernel
theorem dX2_build_20 : decode cX2_build 20 = .ok (.aload_n 1, 1) := by decide +kernel
theorem dX2_build_21 : decode cX2_build 21 = .ok (.aload_n 2, 1) := by decide +kernel
theorem dX2_build_22 : decode cX2_build 22 = .ok (.aload_n 0, 1) := by decide +kernel
theorem dX2_build_23 : decode cX2_build 23 = .ok (.getfield 21, 3) := by decide +kernel
theorem dX2_build_26 : decode cX2_build 26 = .ok (.invokevirtual 40, 3) := by decide +kernel
theorem dX2_build_29 : decode cX2_build 29 = .ok (.istore 4, 2) := by decide +kernel
theorem dX2_build_31 : decode cX2_build 31 = .ok (.iload 4, 2) := by decide +kernel
theorem dX2_build_33 : decode cX2_build 33 = .ok (.iconst (-1), 1) := by decide +kernel
theorem dX2_build_34 : decode cX2_build 34 = .ok (.if_icmp .eq 13, 3) := by decide +kernel
theorem dX2_build_37 : decode cX2_build 37 = .ok (.aload_n 1, 1) := by decide +kernel
theorem dX2_build_38 : decode cX2_build 38 = .ok (.sipush 145, 3) := by decide +kernel
theorem dX2_build_41 : decode cX2_build 41 = .ok (.invokevirtual 44, 3) := by decide +kernel
theorem dX2_build_44 : decode cX2_build 44 = .ok (.ifCond .ne 5, 3) := by decide +kernel
theorem dX2_build_47 : decode cX2_build 47 = .ok (.iconst 0, 1) := by decide +kernel
theorem dX2_build_48 : decode cX2_build 48 = .ok (.ireturn, 1) := by decide +kernel
theorem dX2_build_49 : decode cX2_build 49 = .ok (.aload_n 0, 1) := by decide +kernel
theorem dX2_build_50 : decode cX2_build 50 = .ok (.dup, 1) := by decide +kernel
theorem dX2_build_51 : decode cX2_build 51 = .ok (.getfield 21, 3) := by decide +kernel
theorem dX2_build_54 : decode cX2_build 54 = .ok (.iconst 1, 1) := by decide +kernel
theorem dX2_build_55 : decode cX2_build 55 = .ok (.iload 4, 2) := by decide +kernel
theorem dX2_build_57 : decode cX2_build 57 = .ok (.ishl, 1) := by decide +kernel
theorem dX2_build_58 : decode cX2_build 58 = .ok (.ior, 1) := by decide +kernel
theorem dX2_build_59 : decode cX2_build 59 = .ok (.putfield 21, 3) := by decide +kernel
theorem dX2_build_62 : decode cX2_build 62 = .ok (.aload_n 0, 1) := by decide +kernel
theorem dX2_build_63 : decode cX2_build 63 = .ok (.getfield 9, 3) := by decide +kernel
theorem dX2_build_66 : decode cX2_build 66 = .ok (.iload 4, 2) := by decide +kernel
theorem dX2_build_68 : decode cX2_build 68 = .ok (.aload_n 0, 1) := by decide +kernel
theorem dX2_build_69 : decode cX2_build 69 = .ok (.getfield 25, 3) := by decide +kernel
theorem dX2_build_72 : decode cX2_build 72 = .ok (.iastore, 1) := by decide +kernel
theorem dX2_build_73 : decode cX2_build 73 = .ok (.aload_n 0, 1) := by decide +kernel
theorem dX2_build_74 : decode cX2_build 74 = .ok (.aload_n 1, 1) := by decide +kernel
theorem dX2_build_75 : decode cX2_build 75 = .ok (.aload_n 2, 1) := by decide +kernel
theorem dX2_build_76 : decode cX2_build 76 = .ok (.iconst 0, 1) := by decide +kernel
theorem dX2_build_77 : decode cX2_build 77 = .ok (.invokevirtual 48, 3) := by decide +kernel
theorem dX2_build_80 : decode cX2_build 80 = .ok (.ifCond .eq 12, 3) := by decide +kernel
theorem dX2_build_83 : decode cX2_build 83 = .ok (.aload_n 1, 1) := by decide +kernel
theorem dX2_build_84 : decode cX2_build 84 = .ok (.bipush 59, 2) := by decide +kernel
theorem dX2_build_86 : decode cX2_build 86 = .ok (.invokevirtual 44, 3) := by decide +kernel
theorem dX2_build_89 : decode cX2_build 89 = .ok (.ifCond .ne 5, 3) := by decide +kernel
theorem dX2_build_92 : decode cX2_build 92 = .ok (.iconst 0, 1) := by decide +kernel
theorem dX2_build_93 : decode cX2_build 93 = .ok (.ireturn, 1) := by decide +kernel
theorem dX2_build_94 : decode cX2_build 94 = .ok (.aload_n 0, 1) := by decide +kernel
theorem dX2_build_95 : decode cX2_build 95 = .ok (.getfield 15, 3) := by decide +kernel
theorem dX2_build_98 : decode cX2_build 98 = .ok (.iload 4, 2) := by decide +kernel
theorem dX2_build_100 : decode cX2_build 100 = .ok (.aload_n 0, 1) := by decide +kernel
theorem dX2_build_101 : decode cX2_build 101 = .ok (.getfield 25, 3) := by decide +kernel
theorem dX2_build_104 : decode cX2_build 104 = .ok (.iastore, 1) := by decide +kernel
theorem dX2_build_105 : decode cX2_build 105 = .ok (.iinc 3 1, 3) := by decide +kernel
theorem dX2_build_108 : decode cX2_build 108 = .ok (.goto (-102), 3) := by decide +kernel
theorem dX2_build_111 : decode cX2_build 111 = .ok (.iconst 1, 1) := by decide +kernel
theorem dX2_build_112 : decode cX2_build 112 = .ok (.ireturn, 1) := by decide +kernel
theorem dX2_buildEither_0 : decode cX2_buildEither 0 = .ok (.iconst 0, 1) := by decide +kernel
theorem dX2_buildEither_1 : decode cX2_buildEither 1 = .ok (.istore 4, 2) := by decide +kernel
theorem dX2_buildEither_3 : decode cX2_buildEither 3 = .ok (.iconst 0, 1) := by decide +kernel
theorem dX2_buildEither_4 : decode cX2_buildEither 4 = .ok (.istore 5, 2) := by decide +kernel
theorem dX2_buildEither_6 : decode cX2_buildEither 6 = .ok (.iconst 0, 1) := by decide +kernel
theorem dX2_buildEither_7 : decode cX2_buildEither 7 = .ok (.istore 6, 2) := by decide +kernel
theorem dX2_buildEither_9 : decode cX2_buildEither 9 = .ok (.iload 6, 2) := by decide +kernel
theorem dX2_buildEither_11 : decode cX2_buildEither 11 = .ok (.sipush 300, 3) := by decide +kernel
theorem dX2_buildEither_14 : decode cX2_buildEither 14 = .ok (.if_icmp .ge 100, 3) := by decide +kernel
theorem dX2_buildEither_17 : decode cX2_buildEither 17 = .ok (.aload_n 0, 1) := by decide +kernel
theorem dX2_buildEither_18 : decode cX2_buildEither 18 = .ok (.aload_n 1, 1) := by decide +kernel
theorem dX2_buildEither_19 : decode cX2_buildEither 19 = .ok (.aload_n 2, 1) := by decide +kernel
theorem dX2_buildEither_20 : decode cX2_buildEither 20 = .ok (.iload_n 3, 1) := by decide +kernel
theorem dX2_buildEither_21 : decode cX2_buildEither 21 = .ok (.invokevirtual 52, 3) := by decide +kernel
theorem dX2_buildEither_24 : decode cX2_buildEither 24 = .ok (.ifCond .ne 5, 3) := by decide +kernel
theorem dX2_buildEither_27 : decode cX2_buildEither 27 = .ok (.iconst 0, 1) := by decide +kernel
theorem dX2_buildEither_28 : decode cX2_buildEither 28 = .ok (.ireturn, 1) := by decide +kernel
theorem dX2_buildEither_29 : decode cX2_buildEither 29 = .ok (.iload 5, 2) := by decide +kernel
theorem dX2_buildEither_31 : decode cX2_buildEither 31 = .ok (.ifCond .eq 10, 3) := by decide +kernel
theorem dX2_buildEither_34 : decode cX2_buildEither 34 = .ok (.aload_n 0, 1) := by decide +kernel
theorem dX2_buildEither_35 : decode cX2_buildEither 35 = .ok (.bipush 6, 2) := by decide +kernel
theorem dX2_buildEither_37 : decode cX2_buildEither 37 = .ok (.iconst 0, 1) := by decide +kernel
theorem dX2_buildEither_38 : decode cX2_buildEither 38 = .ok (.invokevirtual 55, 3) := by decide +kernel
theorem dX2_buildEither_41 : decode cX2_buildEither 41 = .ok (.aload_n 1, 1) := by decide +kernel
theorem dX2_buildEither_42 : decode cX2_buildEither 42 = .ok (.invokevirtual 34, 3) := by decide +kernel
theorem dX2_buildEither_45 : decode cX2_buildEither 45 = .ok (.sipush 152, 3) := by decide +kernel
theorem dX2_buildEither_48 : decode cX2_buildEither 48 = .ok (.if_icmp .ne 7, 3) := by decide +kernel
theorem dX2_buildEither_51 : decode cX2_buildEither 51 = .ok (.iconst 1, 1) := by decide +kernel
theorem dX2_buildEither_52 : decode cX2_buildEither 52 = .ok (.goto 4, 3) := by decide +kernel
theorem dX2_buildEither_55 : decode cX2_buildEither 55 = .ok (.iconst 0, 1) := by decide +kernel
theorem dX2_buildEither_56 : decode cX2_buildEither 56 = .ok (.istore 5, 2) := by decide +kernel
theorem dX2_buildEither_58 : decode cX2_buildEither 58 = .ok (.iload 5, 2) := by decide +kernel
theorem dX2_buildEither_60 : decode cX2_buildEither 60 = .ok (.ifCond .ne 32, 3) := by decide +kernel
theorem dX2_buildEither_63 : decode cX2_buildEither 63 = .ok (.iload 4, 2) := by decide +kernel
theorem dX2_buildEither_65 : decode cX2_buildEither 65 = .ok (.ifCond .eq 10, 3) := by decide +kernel
theorem dX2_buildEither_68 : decode cX2_buildEither 68 = .ok (.aload_n 0, 1) := by decide +kernel
theorem dX2_buildEither_69 : decode cX2_buildEither 69 = .ok (.bipush 7, 2) := by decide +kernel
theorem dX2_buildEither_71 : decode cX2_buildEither 71 = .ok (.iconst 0, 1) := by decide +kernel
theorem dX2_buildEither_72 : decode cX2_buildEither 72 = .ok (.invokevirtual 55, 3) := by decide +kernel
theorem dX2_buildEither_75 : decode cX2_buildEither 75 = .ok (.aload_n 1, 1) := by decide +kernel
theorem dX2_buildEither_76 : decode cX2_buildEither 76 = .ok (.invokevirtual 34, 3) := by decide +kernel
theorem dX2_buildEither_79 : decode cX2_buildEither 79 = .ok (.sipush 151, 3) := by decide +kernel
theorem dX2_buildEither_82 : decode cX2_buildEither 82 = .ok (.if_icmp .ne 7, 3) := by decide +kernel
theorem dX2_buildEither_85 : decode cX2_buildEither 85 = .ok (.iconst 1, 1) := by decide +kernel
theorem dX2_buildEither_86 : decode cX2_buildEither 86 = .ok (.goto 4, 3) := by decide +kernel
theorem dX2_buildEither_89 : decode cX2_buildEither 89 = .ok (.iconst 0, 1) := by decide +kernel
theorem dX2_buildEither_90 : decode cX2_buildEither 90 = .ok (.istore 4, 2) := by decide +kernel
theorem dX2_buildEither_92 : decode cX2_buildEither 92 = .ok (.iload 5, 2) := by decide +kernel
theorem dX2_buildEither_94 : decode cX2_buildEither 94 = .ok (.ifCond .ne 10, 3) := by decide +kernel
theorem dX2_buildEither_97 : decode cX2_buildEither 97 = .ok (.iload 4, 2) := by decide +kernel
theorem dX2_buildEither_99 : decode cX2_buildEither 99 = .ok (.ifCond .ne 5, 3) := by decide +kernel
theorem dX2_buildEither_102 : decode cX2_buildEither 102 = .ok (.iconst 1, 1) := by decide +kernel
theorem dX2_buildEither_103 : decode cX2_buildEither 103 = .ok (.ireturn, 1) := by decide +kernel
theorem dX2_buildEither_104 : decode cX2_buildEither 104 = .ok (.aload_n 1, 1) := by decide +kernel
theorem dX2_buildEither_105 : decode cX2_buildEither 105 = .ok (.invokevirtual 59, 3) := by decide +kernel
theorem dX2_buildEither_108 : decode cX2_buildEither 108 = .ok (.iinc 6 1, 3) := by decide +kernel
theorem dX2_buildEither_111 : decode cX2_buildEither 111 = .ok (.goto (-102), 3) := by decide +kernel
theorem dX2_buildEither_114 : decode cX2_buildEither 114 = .ok (.iconst 1, 1) := by decide +kernel
theorem dX2_buildEither_115 : decode cX2_buildEither 115 = .ok (.ireturn, 1) := by decide +kernel
theorem dX2_buildOne_0 : decode cX2_buildOne 0 = .ok (.iload_n 3, 1) := by decide +kernel
theorem dX2_buildOne_1 : decode cX2_buildOne 1 = .ok (.istore 4, 2) := by decide +kernel
theorem dX2_buildOne_3 : decode cX2_buildOne 3 = .ok (.iload 4, 2) := by decide +kernel
theorem dX2_buildOne_5 : decode cX2_buildOne 5 = .ok (.bipush 6, 2) := by decide +kernel
theorem dX2_buildOne_7 : decode cX2_buildOne 7 = .ok (.if_icmp .ge 23, 3) := by decide +kernel
theorem dX2_buildOne_10 : decode cX2_buildOne 10 = .ok (.aload_n 1, 1) := by decide +kernel
theorem dX2_buildOne_11 : decode cX2_buildOne 11 = .ok (.invokevirtual 34, 3) := by decide +kernel
theorem dX2_buildOne_14 : decode cX2_buildOne 14 = .ok (.sipush 153, 3) := by decide +kernel
theorem dX2_buildOne_17 : decode cX2_buildOne 17 = .ok (.if_icmp .ne 13, 3) := by decide +kernel
theorem dX2_buildOne_20 : decode cX2_buildOne 20 = .ok (.aload_n 1, 1) := by decide +kernel
theorem dX2_buildOne_21 : decode cX2_buildOne 21 = .ok (.invokevirtual 59, 3) := by decide +kernel
theorem dX2_buildOne_24 : decode cX2_buildOne 24 = .ok (.iinc 4 1, 3) := by decide +kernel
theorem dX2_buildOne_27 : decode cX2_buildOne 27 = .ok (.goto (-24), 3) := by decide +kernel
theorem dX2_buildOne_30 : decode cX2_buildOne 30 = .ok (.iload 4, 2) := by decide +kernel
theorem dX2_buildOne_32 : decode cX2_buildOne 32 = .ok (.bipush 6, 2) := by decide +kernel
theorem dX2_buildOne_34 : decode cX2_buildOne 34 = .ok (.if_icmp .lt 7, 3) := by decide +kernel
theorem dX2_buildOne_37 : decode cX2_buildOne 37 = .ok (.iconst 1, 1) := by decide +kernel
theorem dX2_buildOne_38 : decode cX2_buildOne 38 = .ok (.goto 4, 3) := by decide +kernel
theorem dX2_buildOne_41 : decode cX2_buildOne 41 = .ok (.iconst 0, 1) := by decide +kernel
theorem dX2_buildOne_42 : decode cX2_buildOne 42 = .ok (.istore 5, 2) := by decide +kernel
theorem dX2_buildOne_44 : decode cX2_buildOne 44 = .ok (.aload_n 1, 1) := by decide +kernel
theorem dX2_buildOne_45 : decode cX2_buildOne 45 = .ok (.invokevirtual 34, 3) := by decide +kernel
theorem dX2_buildOne_48 : decode cX2_buildOne 48 = .ok (.bipush 40, 2) := by decide +kernel
theorem dX2_buildOne_50 : decode cX2_buildOne 50 = .ok (.if_icmp .ne 36, 3) := by decide +kernel
theorem dX2_buildOne_53 : decode cX2_buildOne 53 = .ok (.iload 5, 2) := by decide +kernel
theorem dX2_buildOne_55 : decode cX2_buildOne 55 = .ok (.ifCond .ne 31, 3) := by decide +kernel
theorem dX2_buildOne_58 : decode cX2_buildOne 58 = .ok (.aload_n 1, 1) := by decide +kernel
theorem dX2_buildOne_59 : decode cX2_buildOne 59 = .ok (.invokevirtual 59, 3) := by decide +kernel
theorem dX2_buildOne_62 : decode cX2_buildOne 62 = .ok (.aload_n 0, 1) := by decide +kernel
theorem dX2_buildOne_63 : decode cX2_buildOne 63 = .ok (.aload_n 1, 1) := by decide +kernel
theorem dX2_buildOne_64 : decode cX2_buildOne 64 = .ok (.aload_n 2, 1) := by decide +kernel
theorem dX2_buildOne_65 : decode cX2_buildOne 65 = .ok (.iload 4, 2) := by decide +kernel
theorem dX2_buildOne_67 : decode cX2_buildOne 67 = .ok (.iconst 1, 1) := by decide +kernel
theorem dX2_buildOne_68 : decode cX2_buildOne 68 = .ok (.iadd, 1) := by decide +kernel
theorem dX2_buildOne_69 : decode cX2_buildOne 69 = .ok (.invokevirtual 48, 3) := by decide +kernel
theorem dX2_buildOne_72 : decode cX2_buildOne 72 = .ok (.ifCond .eq 12, 3) := by decide +kernel
theorem dX2_buildOne_75 : decode cX2_buildOne 75 = .ok (.aload_n 1, 1) := by decide +kernel
theorem dX2_buildOne_76 : decode cX2_buildOne 76 = .ok (.bipush 41, 2) := by decide +kernel
theorem dX2_buildOne_78 : decode cX2_buildOne 78 = .ok (.invokevirtual 44, 3) := by decide +kernel
theorem dX2_buildOne_81 : decode cX2_buildOne 81 = .ok (.ifCond .ne 44, 3) := by decide +kernel
theorem dX2_buildOne_84 : decode cX2_buildOne 84 = .ok (.iconst 0, 1) := by decide +kernel
theorem dX2_buildOne_85 : decode cX2_buildOne 85 = .ok (.ireturn, 1) := by decide +kernel
theorem dX2_buildOne_86 : decode cX2_buildOne 86 = .ok (.aload_n 1, 1) := by decide +kernel
theorem dX2_buildOne_87 : decode cX2_buildOne 87 = .ok (.invokevirtual 34, 3) := by decide +kernel
theorem dX2_buildOne_90 : decode cX2_buildOne 90 = .ok (.bipush 40, 2) := by decide +kernel
theorem dX2_buildOne_92 : decode cX2_buildOne 92 = .ok (.if_icmp .eq 13, 3) := by decide +kernel
theorem dX2_buildOne_95 : decode cX2_buildOne 95 = .ok (.aload_n 1, 1) := by decide +kernel
theorem dX2_buildOne_96 : decode cX2_buildOne 96 = .ok (.invokevirtual 34, 3) := by decide +kernel
theorem dX2_buildOne_99 : decode cX2_buildOne 99 = .ok (.sipush 153, 3) := by decide +kernel
theorem dX2_buildOne_102 : decode cX2_buildOne 102 = .ok (.if_icmp .ne 10, 3) := by decide +kernel
theorem dX2_buildOne_105 : decode cX2_buildOne 105 = .ok (.aload_n 1, 1) := by decide +kernel
theorem dX2_buildOne_106 : decode cX2_buildOne 106 = .ok (.bipush 7, 2) := by decide +kernel
theorem dX2_buildOne_108 : decode cX2_buildOne 108 = .ok (.invokevirtual 62, 3) := by decide +kernel
theorem dX2_buildOne_111 : decode cX2_buildOne 111 = .ok (.ireturn, 1) := by decide +kernel
theorem dX2_buildOne_112 : decode cX2_buildOne 112 = .ok (.aload_n 0, 1) := by decide +kernel
theorem dX2_buildOne_113 : decode cX2_buildOne 113 = .ok (.aload_n 1, 1) := by decide +kernel
theorem dX2_buildOne_114 : decode cX2_buildOne 114 = .ok (.aload_n 2, 1) := by decide +kernel
theorem dX2_buildOne_115 : decode cX2_buildOne 115 = .ok (.iload 5, 2) := by decide +kernel
theorem dX2_buildOne_117 : decode cX2_buildOne 117 = .ok (.invokevirtual 65, 3) := by decide +kernel
theorem dX2_buildOne_120 : decode cX2_buildOne 120 = .ok (.ifCond .ne 5, 3) := by decide +kernel
theorem dX2_buildOne_123 : decode cX2_buildOne 123 = .ok (.iconst 0, 1) := by decide +kernel
theorem dX2_buildOne_124 : decode cX2_buildOne 124 = .ok (.ireturn, 1) := by decide +kernel
theorem dX2_buildOne_125 : decode cX2_buildOne 125 = .ok (.iload_n 3, 1) := by decide +kernel
theorem dX2_buildOne_126 : decode cX2_buildOne 126 = .ok (.istore 6, 2) := by decide +kernel
theorem dX2_buildOne_128 : decode cX2_buildOne 128 = .ok (.iload 6, 2) := by decide +kernel
theorem dX2_buildOne_130 : decode cX2_buildOne 130 = .ok (.iload 4, 2) := by decide +kernel
theorem dX2_buildOne_132 : decode cX2_buildOne 132 = .ok (.if_icmp .ge 15, 3) := by decide +kernel
theorem dX2_buildOne_135 : decode cX2_buildOne 135 = .ok (.aload_n 0, 1) := by decide +kernel
theorem dX2_buildOne_136 : decode cX2_buildOne 136 = .ok (.iconst 5, 1) := by decide +kernel
theorem dX2_buildOne_137 : decode cX2_buildOne 137 = .ok (.iconst 0, 1) := by decide +kernel
theorem dX2_buildOne_138 : decode cX2_buildOne 138 = .ok (.invokevirtual 55, 3) := by decide +kernel
theorem dX2_buildOne_141 : decode cX2_buildOne 141 = .ok (.iinc 6 1, 3) := by decide +kernel
theorem dX2_buildOne_144 : decode cX2_buildOne 144 = .ok (.goto (-16), 3) := by decide +kernel
theorem dX2_buildOne_147 : decode cX2_buildOne 147 = .ok (.iconst 1, 1) := by decide +kernel
theorem dX2_buildOne_148 : decode cX2_buildOne 148 = .ok (.ireturn, 1) := by decide +kernel
theorem dX2_buildCase_0 : decode cX2_buildCase 0 = .ok (.aload_n 1, 1) := by decide +kernel
theorem dX2_buildCase_1 : decode cX2_buildCase 1 = .ok (.invokevirtual 34, 3) := by decide +kernel
theorem dX2_buildCase_4 : decode cX2_buildCase 4 = .ok (.istore 4, 2) := by decide +kernel
theorem dX2_buildCase_6 : decode cX2_buildCase 6 = .ok (.iload 4, 2) := by decide +kernel
theorem dX2_buildCase_8 : decode cX2_buildCase 8 = .ok (.sipush 146, 3) := by decide +kernel
theorem dX2_buildCase_11 : decode cX2_buildCase 11 = .ok (.if_icmp .eq 19, 3) := by decide +kernel
theorem dX2_buildCase_14 : decode cX2_buildCase 14 = .ok (.iload 4, 2) := by decide +kernel
theorem dX2_buildCase_16 : decode cX2_buildCase 16 = .ok (.sipush 147, 3) := by decide +kernel
theorem dX2_buildCase_19 : decode cX2_buildCase 19 = .ok (.if_icmp .eq 11, 3) := by decide +kernel
theorem dX2_buildCase_22 : decode cX2_buildCase 22 = .ok (.iload 4, 2) := by decide +kernel
theorem dX2_buildCase_24 : decode cX2_buildCase 24 = .ok (.sipush 148, 3) := by decide +kernel
theorem dX2_buildCase_27 : decode cX2_buildCase 27 = .ok (.if_icmp .ne 7, 3) := by decide +kernel
theorem dX2_buildCase_30 : decode cX2_buildCase 30 = .ok (.iconst 1, 1) := by decide +kernel
theorem dX2_buildCase_31 : decode cX2_buildCase 31 = .ok (.goto 4, 3) := by decide +kernel
theorem dX2_buildCase_34 : decode cX2_buildCase 34 = .ok (.iconst 0, 1) := by decide +kernel
theorem dX2_buildCase_35 : decode cX2_buildCase 35 = .ok (.istore 5, 2) := by decide +kernel
theorem dX2_buildCase_37 : decode cX2_buildCase 37 = .ok (.iload 5, 2) := by decide +kernel
theorem dX2_buildCase_39 : decode cX2_buildCase 39 = .ok (.ifCond .ne 25, 3) := by decide +kernel
theorem dX2_buildCase_42 : decode cX2_buildCase 42 = .ok (.iload 4, 2) := by decide +kernel
theorem dX2_buildCase_44 : decode cX2_buildCase 44 = .ok (.sipush 149, 3) := by decide +kernel
theorem dX2_buildCase_47 : decode cX2_buildCase 47 = .ok (.if_icmp .eq 17, 3) := by decide +kernel
theorem dX2_buildCase_50 : decode cX2_buildCase 50 = .ok (.iload 4, 2) := by decide +kernel
theorem dX2_buildCase_52 : decode cX2_buildCase 52 = .ok (.sipush 150, 3) := by decide +kernel
theorem dX2_buildCase_55 : decode cX2_buildCase 55 = .ok (.if_icmp .eq 9, 3) := by decide +kernel
theorem dX2_buildCase_58 : decode cX2_buildCase 58 = .ok (.aload_n 1, 1) := by decide +kernel
theorem dX2_buildCase_59 : decode cX2_buildCase 59 = .ok (.iconst 2, 1) := by decide +kernel
theorem dX2_buildCase_60 : decode cX2_buildCase 60 = .ok (.invokevirtual 62, 3) := by decide +kernel
theorem dX2_buildCase_63 : decode cX2_buildCase 63 = .ok (.ireturn, 1) := by decide +kernel
theorem dX2_buildCase_64 : decode cX2_buildCase 64 = .ok (.aload_n 0, 1) := by decide +kernel
theorem dX2_buildCase_65 : decode cX2_buildCase 65 = .ok (.getfield 28, 3) := by decide +kernel
theorem dX2_buildCase_68 : decode cX2_buildCase 68 = .ok (.bipush 20, 2) := by decide +kernel
theorem dX2_buildCase_70 : decode cX2_buildCase 70 = .ok (.if_icmp .lt 10, 3) := by decide +kernel
theorem dX2_buildCase_73 : decode cX2_buildCase 73 = .ok (.aload_n 1, 1) := by decide +kernel
theorem dX2_buildCase_74 : decode cX2_buildCase 74 = .ok (.bipush 6, 2) := by decide +kernel
theorem dX2_buildCase_76 : decode cX2_buildCase 76 = .ok (.invokevirtual 62, 3) := by decide +kernel
theorem dX2_buildCase_79 : decode cX2_buildCase 79 = .ok (.ireturn, 1) := by decide +kernel
theorem dX2_buildCase_80 : decode cX2_buildCase 80 = .ok (.iload_n 3, 1) := by decide +kernel
theorem dX2_buildCase_81 : decode cX2_buildCase 81 = .ok (.ifCond .eq 10, 3) := by decide +kernel
theorem dX2_buildCase_84 : decode cX2_buildCase 84 = .ok (.aload_n 1, 1) := by decide +kernel
theorem dX2_buildCase_85 : decode cX2_buildCase 85 = .ok (.bipush 7, 2) := by decide +kernel
theorem dX2_buildCase_87 : decode cX2_buildCase 87 = .ok (.invokevirtual 62, 3) := by decide +kernel
theorem dX2_buildCase_90 : decode cX2_buildCase 90 = .ok (.ireturn, 1) := by decide +kernel
theorem dX2_buildCase_91 : decode cX2_buildCase 91 = .ok (.aload_n 0, 1) := by decide +kernel
theorem dX2_buildCase_92 : decode cX2_buildCase 92 = .ok (.dup, 1) := by decide +kernel
theorem dX2_buildCase_93 : decode cX2_buildCase 93 = .ok (.getfield 28, 3) := by decide +kernel
theorem dX2_buildCase_96 : decode cX2_buildCase 96 = .ok (.iconst 1, 1) := by decide +kernel
theorem dX2_buildCase_97 : decode cX2_buildCase 97 = .ok (.iadd, 1) := by decide +kernel
theorem dX2_buildCase_98 : decode cX2_buildCase 98 = .ok (.putfield 28, 3) := by decide +kernel
theorem dX2_buildCase_101 : decode cX2_buildCase 101 = .ok (.aload_n 1, 1) := by decide +kernel
theorem dX2_buildCase_102 : decode cX2_buildCase 102 = .ok (.invokevirtual 59, 3) := by decide +kernel
theorem dX2_buildCase_105 : decode cX2_buildCase 105 = .ok (.iload 5, 2) := by decide +kernel
theorem dX2_buildCase_107 : decode cX2_buildCase 107 = .ok (.ifCond .eq 16, 3) := by decide +kernel
theorem dX2_buildCase_110 : decode cX2_buildCase 110 = .ok (.aload_n 0, 1) := by decide +kernel
theorem dX2_buildCase_111 : decode cX2_buildCase 111 = .ok (.iload 4, 2) := by decide +kernel
theorem dX2_buildCase_113 : decode cX2_buildCase 113 = .ok (.sipush 146, 3) := by decide +kernel
theorem dX2_buildCase_116 : decode cX2_buildCase 116 = .ok (.isub, 1) := by decide +kernel
theorem dX2_buildCase_117 : decode cX2_buildCase 117 = .ok (.iconst 0, 1) := by decide +kernel
theorem dX2_buildCase_118 : decode cX2_buildCase 118 = .ok (.invokevirtual 55, 3) := by decide +kernel
theorem dX2_buildCase_121 : decode cX2_buildCase 121 = .ok (.iconst 1, 1) := by decide +kernel
theorem dX2_buildCase_122 : decode cX2_buildCase 122 = .ok (.ireturn, 1) := by decide +kernel
theorem dX2_buildCase_123 : decode cX2_buildCase 123 = .ok (.iload 4, 2) := by decide +kernel
theorem dX2_buildCase_125 : decode cX2_buildCase 125 = .ok (.sipush 149, 3) := by decide +kernel
theorem dX2_buildCase_128 : decode cX2_buildCase 128 = .ok (.if_icmp .ne 12, 3) := by decide +kernel
theorem dX2_buildCase_131 : decode cX2_buildCase 131 = .ok (.aload_n 0, 1) := by decide +kernel
theorem dX2_buildCase_132 : decode cX2_buildCase 132 = .ok (.aload_n 1, 1) := by decide +kernel
theorem dX2_buildCase_133 : decode cX2_buildCase 133 = .ok (.aload_n 2, 1) := by decide +kernel
theorem dX2_buildCase_134 : decode cX2_buildCase 134 = .ok (.invokevirtual 69, 3) := by decide +kernel
theorem dX2_buildCase_137 : decode cX2_buildCase 137 = .ok (.goto 8, 3) := by decide +kernel
theorem dX2_buildCase_140 : decode cX2_buildCase 140 = .ok (.aload_n 0, 1) := by decide +kernel
theorem dX2_buildCase_141 : decode cX2_buildCase 141 = .ok (.aload_n 1, 1) := by decide +kernel
theorem dX2_buildCase_142 : decode cX2_buildCase 142 = .ok (.invokevirtual 73, 3) := by decide +kernel
theorem dX2_buildCase_145 : decode cX2_buildCase 145 = .ok (.ireturn, 1) := by decide +kernel
theorem dX2_buildHere_0 : decode cX2_buildHere 0 = .ok (.aload_n 1, 1) := by decide +kernel
theorem dX2_buildHere_1 : decode cX2_buildHere 1 = .ok (.aload_n 2, 1) := by decide +kernel
theorem dX2_buildHere_2 : decode cX2_buildHere 2 = .ok (.iconst 0, 1) := by decide +kernel
theorem dX2_buildHere_3 : decode cX2_buildHere 3 = .ok (.invokevirtual 40, 3) := by decide +kernel
theorem dX2_buildHere_6 : decode cX2_buildHere 6 = .ok (.istore_n 3, 1) := by decide +kernel
theorem dX2_buildHere_7 : decode cX2_buildHere 7 = .ok (.iload_n 3, 1) := by decide +kernel
theorem dX2_buildHere_8 : decode cX2_buildHere 8 = .ok (.iconst (-1), 1) := by decide +kernel
theorem dX2_buildHere_9 : decode cX2_buildHere 9 = .ok (.if_icmp .ne 5, 3) := by decide +kernel
theorem dX2_buildHere_12 : decode cX2_buildHere 12 = .ok (.iconst 0, 1) := by decide +kernel
theorem dX2_buildHere_13 : decode cX2_buildHere 13 = .ok (.ireturn, 1) := by decide +kernel
theorem dX2_buildHere_14 : decode cX2_buildHere 14 = .ok (.aload_n 0, 1) := by decide +kernel
theorem dX2_buildHere_15 : decode cX2_buildHere 15 = .ok (.iconst 3, 1) := by decide +kernel
theorem dX2_buildHere_16 : decode cX2_buildHere 16 = .ok (.iconst 1, 1) := by decide +kernel
theorem dX2_buildHere_17 : decode cX2_buildHere 17 = .ok (.iload_n 3, 1) := by decide +kernel
theorem dX2_buildHere_18 : decode cX2_buildHere 18 = .ok (.ishl, 1) := by decide +kernel
theorem dX2_buildHere_19 : decode cX2_buildHere 19 = .ok (.invokevirtual 55, 3) := by decide +kernel
theorem dX2_buildHere_22 : decode cX2_buildHere 22 = .ok (.iconst 1, 1) := by decide +kernel
theorem dX2_buildHere_23 : decode cX2_buildHere 23 = .ok (.ireturn, 1) := by decide +kernel
theorem dX2_buildDay_0 : decode cX2_buildDay 0 = .ok (.aload_n 1, 1) := by decide +kernel
theorem dX2_buildDay_1 : decode cX2_buildDay 1 = .ok (.invokevirtual 34, 3) := by decide +kernel
theorem dX2_buildDay_4 : decode cX2_buildDay 4 = .ok (.istore_n 2, 1) := by decide +kernel
theorem dX2_buildDay_5 : decode cX2_buildDay 5 = .ok (.iload_n 2, 1) := by decide +kernel
theorem dX2_buildDay_6 : decode cX2_buildDay 6 = .ok (.bipush 60, 2) := by decide +kernel
theorem dX2_buildDay_8 : decode cX2_buildDay 8 = .ok (.if_icmp .eq 21, 3) := by decide +kernel
theorem dX2_buildDay_11 : decode cX2_buildDay 11 = .ok (.iload_n 2, 1) := by decide +kernel
theorem dX2_buildDay_12 : decode cX2_buildDay 12 = .ok (.bipush 62, 2) := by decide +kernel
theorem dX2_buildDay_14 : decode cX2_buildDay 14 = .ok (.if_icmp .eq 15, 3) := by decide +kernel
theorem dX2_buildDay_17 : decode cX2_buildDay 17 = .ok (.iload_n 2, 1) := by decide +kernel
theorem dX2_buildDay_18 : decode cX2_buildDay 18 = .ok (.bipush 61, 2) := by decide +kernel
theorem dX2_buildDay_20 : decode cX2_buildDay 20 = .ok (.if_icmp .eq 9, 3) := by decide +kernel
theorem dX2_buildDay_23 : decode cX2_buildDay 23 = .ok (.aload_n 1, 1) := by decide +kernel
theorem dX2_buildDay_24 : decode cX2_buildDay 24 = .ok (.iconst 2, 1) := by decide +kernel
theorem dX2_buildDay_25 : decode cX2_buildDay 25 = .ok (.invokevirtual 62, 3) := by decide +kernel
theorem dX2_buildDay_28 : decode cX2_buildDay 28 = .ok (.ireturn, 1) := by decide +kernel
theorem dX2_buildDay_29 : decode cX2_buildDay 29 = .ok (.aload_n 1, 1) := by decide +kernel
theorem dX2_buildDay_30 : decode cX2_buildDay 30 = .ok (.invokevirtual 59, 3) := by decide +kernel
theorem dX2_buildDay_33 : decode cX2_buildDay 33 = .ok (.aload_n 1, 1) := by decide +kernel
theorem dX2_buildDay_34 : decode cX2_buildDay 34 = .ok (.iconst 0, 1) := by decide +kernel
theorem dX2_buildDay_35 : decode cX2_buildDay 35 = .ok (.bipush 6, 2) := by decide +kernel
theorem dX2_buildDay_37 : decode cX2_buildDay 37 = .ok (.invokevirtual 77, 3) := by decide +kernel
theorem dX2_buildDay_40 : decode cX2_buildDay 40 = .ok (.istore_n 3, 1) := by decide +kernel
theorem dX2_buildDay_41 : decode cX2_buildDay 41 = .ok (.iload_n 3, 1) := by decide +kernel
theorem dX2_buildDay_42 : decode cX2_buildDay 42 = .ok (.iconst (-1), 1) := by decide +kernel
theorem dX2_buildDay_43 : decode cX2_buildDay 43 = .ok (.if_icmp .ne 5, 3) := by decide +kernel
theorem dX2_buildDay_46 : decode cX2_buildDay 46 = .ok (.iconst 0, 1) := by decide +kernel
theorem dX2_buildDay_47 : decode cX2_buildDay 47 = .ok (.ireturn, 1) := by decide +kernel
theorem dX2_buildDay_48 : decode cX2_buildDay 48 = .ok (.iconst 0, 1) := by decide +kernel
theorem dX2_buildDay_49 : decode cX2_buildDay 49 = .ok (.istore 4, 2) := by decide +kernel
theorem dX2_buildDay_51 : decode cX2_buildDay 51 = .ok (.iconst 0, 1) := by decide +kernel
theorem dX2_buildDay_52 : decode cX2_buildDay 52 = .ok (.istore 5, 2) := by decide +kernel
theorem dX2_buildDay_54 : decode cX2_buildDay 54 = .ok (.iload 5, 2) := by decide +kernel
theorem dX2_buildDay_56 : decode cX2_buildDay 56 = .ok (.bipush 7, 2) := by decide +kernel
theorem dX2_buildDay_58 : decode cX2_buildDay 58 = .ok (.if_icmp .ge 76, 3) := by decide +kernel
theorem dX2_buildDay_61 : decode cX2_buildDay 61 = .ok (.iload_n 2, 1) := by decide +kernel
theorem dX2_buildDay_62 : decode cX2_buildDay 62 = .ok (.bipush 60, 2) := by decide +kernel
theorem dX2_buildDay_64 : decode cX2_buildDay 64 = .ok (.if_icmp .ne 17, 3) := by decide +kernel
theorem dX2_buildDay_67 : decode cX2_buildDay 67 = .ok (.iload 5, 2) := by decide +kernel
theorem dX2_buildDay_69 : decode cX2_buildDay 69 = .ok (.iload_n 3, 1) := by decide +kernel
theorem dX2_buildDay_70 : decode cX2_buildDay 70 = .ok (.if_icmp .ge 7, 3) := by decide +kernel
theorem dX2_buildDay_73 : decode cX2_buildDay 73 = .ok (.iconst 1, 1) := by decide +kernel
theorem dX2_buildDay_74 : decode cX2_buildDay 74 = .ok (.goto 38, 3) := by decide +kernel
theorem dX2_buildDay_77 : decode cX2_buildDay 77 = .ok (.iconst 0, 1) := by decide +kernel
theorem dX2_buildDay_78 : decode cX2_buildDay 78 = .ok (.goto 34, 3) := by decide +kernel
theorem dX2_buildDay_81 : decode cX2_buildDay 81 = .ok (.iload_n 2, 1) := by decide +kernel
theorem dX2_buildDay_82 : decode cX2_buildDay 82 = .ok (.bipush 62, 2) := by decide +kernel
theorem dX2_buildDay_84 : decode cX2_buildDay 84 = .ok (.if_icmp .ne 17, 3) := by decide +kernel
theorem dX2_buildDay_87 : decode cX2_buildDay 87 = .ok (.iload 5, 2) := by decide +kernel
theorem dX2_buildDay_89 : decode cX2_buildDay 89 = .ok (.iload_n 3, 1) := by decide +kernel
theorem dX2_buildDay_90 : decode cX2_buildDay 90 = .ok (.if_icmp .le 7, 3) := by decide +kernel
theorem dX2_buildDay_93 : decode cX2_buildDay 93 = .ok (.iconst 1, 1) := by decide +kernel
theorem dX2_buildDay_94 : decode cX2_buildDay 94 = .ok (.goto 18, 3) := by decide +kernel
theorem dX2_buildDay_97 : decode cX2_buildDay 97 = .ok (.iconst 0, 1) := by decide +kernel
theorem dX2_buildDay_98 : decode cX2_buildDay 98 = .ok (.goto 14, 3) := by decide +kernel
theorem dX2_buildDay_101 : decode cX2_buildDay 101 = .ok (.iload 5, 2) := by decide +kernel
theorem dX2_buildDay_103 : decode cX2_buildDay 103 = .ok (.iload_n 3, 1) := by decide +kernel
theorem dX2_buildDay_104 : decode cX2_buildDay 104 = .ok (.if_icmp .ne 7, 3) := by decide +kernel
theorem dX2_buildDay_107 : decode cX2_buildDay 107 = .ok (.iconst 1, 1) := by decide +kernel
theorem dX2_buildDay_108 : decode cX2_buildDay 108 = .ok (.goto 4, 3) := by decide +kernel
theorem dX2_buildDay_111 : decode cX2_buildDay 111 = .ok (.iconst 0, 1) := by decide +kernel
theorem dX2_buildDay_112 : decode cX2_buildDay 112 = .ok (.istore 6, 2) := by decide +kernel
theorem dX2_buildDay_114 : decode cX2_buildDay 114 = .ok (.iload 6, 2) := by decide +kernel
theorem dX2_buildDay_116 : decode cX2_buildDay 116 = .ok (.ifCond .eq 12, 3) := by decide +kernel
theorem dX2_buildDay_119 : decode cX2_buildDay 119 = .ok (.iload 4, 2) := by decide +kernel
theorem dX2_buildDay_121 : decode cX2_buildDay 121 = .ok (.iconst 1, 1) := by decide +kernel
theorem dX2_buildDay_122 : decode cX2_buildDay 122 = .ok (.iload 5, 2) := by decide +kernel
theorem dX2_buildDay_124 : decode cX2_buildDay 124 = .ok (.ishl, 1) := by decide +kernel
theorem dX2_buildDay_125 : decode cX2_buildDay 125 = .ok (.ior, 1) := by decide +kernel
theorem dX2_buildDay_126 : decode cX2_buildDay 126 = .ok (.istore 4, 2) := by decide +kernel
theorem dX2_buildDay_128 : decode cX2_buildDay 128 = .ok (.iinc 5 1, 3) := by decide +kernel
theorem dX2_buildDay_131 : decode cX2_buildDay 131 = .ok (.goto (-77), 3) := by decide +kernel
theorem dX2_buildDay_134 : decode cX2_buildDay 134 = .ok (.aload_n 0, 1) := by decide +kernel
theorem dX2_buildDay_135 : decode cX2_buildDay 135 = .ok (.iconst 4, 1) := by decide +kernel
theorem dX2_buildDay_136 : decode cX2_buildDay 136 = .ok (.iload 4, 2) := by decide +kernel
theorem dX2_buildDay_138 : decode cX2_buildDay 138 = .ok (.invokevirtual 55, 3) := by decide +kernel
theorem dX2_buildDay_141 : decode cX2_buildDay 141 = .ok (.iconst 1, 1) := by decide +kernel
theorem dX2_buildDay_142 : decode cX2_buildDay 142 = .ok (.ireturn, 1) := by decide +kernel
theorem dX2_add_0 : decode cX2_add 0 = .ok (.aload_n 0, 1) := by decide +kernel
theorem dX2_add_1 : decode cX2_add 1 = .ok (.getfield 25, 3) := by decide +kernel
theorem dX2_add_4 : decode cX2_add 4 = .ok (.aload_n 0, 1) := by decide +kernel
theorem dX2_add_5 : decode cX2_add 5 = .ok (.getfield 18, 3) := by decide +kernel
theorem dX2_add_8 : decode cX2_add 8 = .ok (.arraylength, 1) := by decide +kernel
theorem dX2_add_9 : decode cX2_add 9 = .ok (.if_icmp .ge 28, 3) := by decide +kernel
theorem dX2_add_12 : decode cX2_add 12 = .ok (.aload_n 0, 1) := by decide +kernel
theorem dX2_add_13 : decode cX2_add 13 = .ok (.getfield 18, 3) := by decide +kernel
theorem dX2_add_16 : decode cX2_add 16 = .ok (.aload_n 0, 1) := by decide +kernel
theorem dX2_add_17 : decode cX2_add 17 = .ok (.getfield 25, 3) := by decide +kernel
theorem dX2_add_20 : decode cX2_add 20 = .ok (.iload_n 1, 1) := by decide +kernel
theorem dX2_add_21 : decode cX2_add 21 = .ok (.bipush 8, 2) := by decide +kernel
theorem dX2_add_23 : decode cX2_add 23 = .ok (.ishl, 1) := by decide +kernel
theorem dX2_add_24 : decode cX2_add 24 = .ok (.iload_n 2, 1) := by decide +kernel
theorem dX2_add_25 : decode cX2_add 25 = .ok (.ior, 1) := by decide +kernel
theorem dX2_add_26 : decode cX2_add 26 = .ok (.iastore, 1) := by decide +kernel
theorem dX2_add_27 : decode cX2_add 27 = .ok (.aload_n 0, 1) := by decide +kernel
theorem dX2_add_28 : decode cX2_add 28 = .ok (.dup, 1) := by decide +kernel
theorem dX2_add_29 : decode cX2_add 29 = .ok (.getfield 25, 3) := by decide +kernel
theorem dX2_add_32 : decode cX2_add 32 = .ok (.iconst 1, 1) := by decide +kernel
theorem dX2_add_33 : decode cX2_add 33 = .ok (.iadd, 1) := by decide +kernel
theorem dX2_add_34 : decode cX2_add 34 = .ok (.putfield 25, 3) := by decide +kernel
theorem dX2_add_37 : decode cX2_add 37 = .ok (.return_, 1) := by decide +kernel
theorem dX2_copy_0 : decode cX2_copy 0 = .ok (.aload_n 0, 1) := by decide +kernel
theorem dX2_copy_1 : decode cX2_copy 1 = .ok (.aload_n 1, 1) := by decide +kernel
theorem dX2_copy_2 : decode cX2_copy 2 = .ok (.getfield 21, 3) := by decide +kernel
theorem dX2_copy_5 : decode cX2_copy 5 = .ok (.putfield 21, 3) := by decide +kernel
theorem dX2_copy_8 : decode cX2_copy 8 = .ok (.aload_n 0, 1) := by decide +kernel
theorem dX2_copy_9 : decode cX2_copy 9 = .ok (.aload_n 1, 1) := by decide +kernel
theorem dX2_copy_10 : decode cX2_copy 10 = .ok (.getfield 25, 3) := by decide +kernel
theorem dX2_copy_13 : decode cX2_copy 13 = .ok (.putfield 25, 3) := by decide +kernel
theorem dX2_copy_16 : decode cX2_copy 16 = .ok (.aload_n 0, 1) := by decide +kernel
theorem dX2_copy_17 : decode cX2_copy 17 = .ok (.aload_n 1, 1) := by decide +kernel
theorem dX2_copy_18 : decode cX2_copy 18 = .ok (.getfield 28, 3) := by decide +kernel
theorem dX2_copy_21 : decode cX2_copy 21 = .ok (.putfield 28, 3) := by decide +kernel
theorem dX2_copy_24 : decode cX2_copy 24 = .ok (.aload_n 1, 1) := by decide +kernel
theorem dX2_copy_25 : decode cX2_copy 25 = .ok (.getfield 9, 3) := by decide +kernel
theorem dX2_copy_28 : decode cX2_copy 28 = .ok (.iconst 0, 1) := by decide +kernel
theorem dX2_copy_29 : decode cX2_copy 29 = .ok (.aload_n 0, 1) := by decide +kernel
theorem dX2_copy_30 : decode cX2_copy 30 = .ok (.getfield 9, 3) := by decide +kernel
theorem dX2_copy_33 : decode cX2_copy 33 = .ok (.iconst 0, 1) := by decide +kernel
theorem dX2_copy_34 : decode cX2_copy 34 = .ok (.aload_n 0, 1) := by decide +kernel
theorem dX2_copy_35 : decode cX2_copy 35 = .ok (.getfield 9, 3) := by decide +kernel
theorem dX2_copy_38 : decode cX2_copy 38 = .ok (.arraylength, 1) := by decide +kernel
theorem dX2_copy_39 : decode cX2_copy 39 = .ok (.invokestatic 81, 3) := by decide +kernel
theorem dX2_copy_42 : decode cX2_copy 42 = .ok (.aload_n 1, 1) := by decide +kernel
theorem dX2_copy_43 : decode cX2_copy 43 = .ok (.getfield 15, 3) := by decide +kernel
theorem dX2_copy_46 : decode cX2_copy 46 = .ok (.iconst 0, 1) := by decide +kernel
theorem dX2_copy_47 : decode cX2_copy 47 = .ok (.aload_n 0, 1) := by decide +kernel
theorem dX2_copy_48 : decode cX2_copy 48 = .ok (.getfield 15, 3) := by decide +kernel
theorem dX2_copy_51 : decode cX2_copy 51 = .ok (.iconst 0, 1) := by decide +kernel
theorem dX2_copy_52 : decode cX2_copy 52 = .ok (.aload_n 0, 1) := by decide +kernel
theorem dX2_copy_53 : decode cX2_copy 53 = .ok (.getfield 15, 3) := by decide +kernel
theorem dX2_copy_56 : decode cX2_copy 56 = .ok (.arraylength, 1) := by decide +kernel
theorem dX2_copy_57 : decode cX2_copy 57 = .ok (.invokestatic 81, 3) := by decide +kernel
theorem dX2_copy_60 : decode cX2_copy 60 = .ok (.aload_n 1, 1) := by decide +kernel
theorem dX2_copy_61 : decode cX2_copy 61 = .ok (.getfield 18, 3) := by decide +kernel
theorem dX2_copy_64 : decode cX2_copy 64 = .ok (.iconst 0, 1) := by decide +kernel
theorem dX2_copy_65 : decode cX2_copy 65 = .ok (.aload_n 0, 1) := by decide +kernel
theorem dX2_copy_66 : decode cX2_copy 66 = .ok (.getfield 18, 3) := by decide +kernel
theorem dX2_copy_69 : decode cX2_copy 69 = .ok (.iconst 0, 1) := by decide +kernel
theorem dX2_copy_70 : decode cX2_copy 70 = .ok (.aload_n 0, 1) := by decide +kernel
theorem dX2_copy_71 : decode cX2_copy 71 = .ok (.getfield 18, 3) := by decide +kernel
theorem dX2_copy_74 : decode cX2_copy 74 = .ok (.arraylength, 1) := by decide +kernel
theorem dX2_copy_75 : decode cX2_copy 75 = .ok (.invokestatic 81, 3) := by decide +kernel
theorem dX2_copy_78 : decode cX2_copy 78 = .ok (.return_, 1) := by decide +kernel
theorem dX3_init_0 : decode cX3_init 0 = .ok (.aload_n 0, 1) := by decide +kernel
theorem dX3_init_1 : decode cX3_init 1 = .ok (.invokespecial 3, 3) := by decide +kernel
theorem dX3_init_4 : decode cX3_init 4 = .ok (.aload_n 0, 1) := by decide +kernel
theorem dX3_init_5 : decode cX3_init 5 = .ok (.bipush 12, 2) := by decide +kernel
theorem dX3_init_7 : decode cX3_init 7 = .ok (.newarray .long, 2) := by decide +kernel
theorem dX3_init_9 : decode cX3_init 9 = .ok (.putfield 9, 3) := by decide +kernel
theorem dX3_init_12 : decode cX3_init 12 = .ok (.aload_n 0, 1) := by decide +kernel
theorem dX3_init_13 : decode cX3_init 13 = .ok (.iload_n 1, 1) := by decide +kernel
theorem dX3_init_14 : decode cX3_init 14 = .ok (.bipush 12, 2) := by decide +kernel
theorem dX3_init_16 : decode cX3_init 16 = .ok (.invokestatic 15, 3) := by decide +kernel
theorem dX3_init_19 : decode cX3_init 19 = .ok (.putfield 21, 3) := by decide +kernel
theorem dX3_init_22 : decode cX3_init 22 = .ok (.return_, 1) := by decide +kernel
theorem dX3_isFull_0 : decode cX3_isFull 0 = .ok (.aload_n 0, 1) := by decide +kernel
theorem dX3_isFull_1 : decode cX3_isFull 1 = .ok (.getfield 25, 3) := by decide +kernel
theorem dX3_isFull_4 : decode cX3_isFull 4 = .ok (.aload_n 0, 1) := by decide +kernel
theorem dX3_isFull_5 : decode cX3_isFull 5 = .ok (.getfield 21, 3) := by decide +kernel
theorem dX3_isFull_8 : decode cX3_isFull 8 = .ok (.if_icmp .lt 7, 3) := by decide +kernel
theorem dX3_isFull_11 : decode cX3_isFull 11 = .ok (.iconst 1, 1) := by decide +kernel
theorem dX3_isFull_12 : decode cX3_isFull 12 = .ok (.goto 4, 3) := by decide +kernel
theorem dX3_isFull_15 : decode cX3_isFull 15 = .ok (.iconst 0, 1) := by decide +kernel
theorem dX3_isFull_16 : decode cX3_isFull 16 = .ok (.ireturn, 1) := by decide +kernel
theorem dX3_find_0 : decode cX3_find 0 = .ok (.iconst 0, 1) := by decide +kernel
theorem dX3_find_1 : decode cX3_find 1 = .ok (.istore_n 3, 1) := by decide +kernel
theorem dX3_find_2 : decode cX3_find 2 = .ok (.iload_n 3, 1) := by decide +kernel
theorem dX3_find_3 : decode cX3_find 3 = .ok (.aload_n 0, 1) := by decide +kernel
theorem dX3_find_4 : decode cX3_find 4 = .ok (.getfield 25, 3) := by decide +kernel
theorem dX3_find_7 : decode cX3_find 7 = .ok (.if_icmp .ge 22, 3) := by decide +kernel
theorem dX3_find_10 : decode cX3_find 10 = .ok (.aload_n 0, 1) := by decide +kernel
theorem dX3_find_11 : decode cX3_find 11 = .ok (.getfield 9, 3) := by decide +kernel
theorem dX3_find_14 : decode cX3_find 14 = .ok (.iload_n 3, 1) := by decide +kernel
theorem dX3_find_15 : decode cX3_find 15 = .ok (.laload, 1) := by decide +kernel
theorem dX3_find_16 : decode cX3_find 16 = .ok (.lload_n 1, 1) := by decide +kernel
theorem dX3_find_17 : decode cX3_find 17 = .ok (.lcmp, 1) := by decide +kernel
theorem dX3_find_18 : decode cX3_find 18 = .ok (.ifCond .ne 5, 3) := by decide +kernel
theorem dX3_find_21 : decode cX3_find 21 = .ok (.iload_n 3, 1) := by decide +kernel
theorem dX3_find_22 : decode cX3_find 22 = .ok (.ireturn, 1) := by decide +kernel
theorem dX3_find_23 : decode cX3_find 23 = .ok (.iinc 3 1, 3) := by decide +kernel
theorem dX3_find_26 : decode cX3_find 26 = .ok (.goto (-24), 3) := by decide +kernel
theorem dX3_find_29 : decode cX3_find 29 = .ok (.iconst (-1), 1) := by decide +kernel
theorem dX3_find_30 : decode cX3_find 30 = .ok (.ireturn, 1) := by decide +kernel
theorem dX3_add_0 : decode cX3_add 0 = .ok (.aload_n 0, 1) := by decide +kernel
theorem dX3_add_1 : decode cX3_add 1 = .ok (.invokevirtual 28, 3) := by decide +kernel
theorem dX3_add_4 : decode cX3_add 4 = .ok (.ifCond .ne 23, 3) := by decide +kernel
theorem dX3_add_7 : decode cX3_add 7 = .ok (.aload_n 0, 1) := by decide +kernel
theorem dX3_add_8 : decode cX3_add 8 = .ok (.getfield 9, 3) := by decide +kernel
theorem dX3_add_11 : decode cX3_add 11 = .ok (.aload_n 0, 1) := by decide +kernel
theorem dX3_add_12 : decode cX3_add 12 = .ok (.getfield 25, 3) := by decide +kernel
theorem dX3_add_15 : decode cX3_add 15 = .ok (.lload_n 1, 1) := by decide +kernel
theorem dX3_add_16 : decode cX3_add 16 = .ok (.lastore, 1) := by decide +kernel
theorem dX3_add_17 : decode cX3_add 17 = .ok (.aload_n 0, 1) := by decide +kernel
theorem dX3_add_18 : decode cX3_add 18 = .ok (.dup, 1) := by decide +kernel
theorem dX3_add_19 : decode cX3_add 19 = .ok (.getfield 25, 3) := by decide +kernel
theorem dX3_add_22 : decode cX3_add 22 = .ok (.iconst 1, 1) := by decide +kernel
theorem dX3_add_23 : decode cX3_add 23 = .ok (.iadd, 1) := by decide +kernel
theorem dX3_add_24 : decode cX3_add 24 = .ok (.putfield 25, 3) := by decide +kernel
theorem dX3_add_27 : decode cX3_add 27 = .ok (.return_, 1) := by decide +kernel
theorem dX3_copy_0 : decode cX3_copy 0 = .ok (.aload_n 0, 1) := by decide +kernel
theorem dX3_copy_1 : decode cX3_copy 1 = .ok (.aload_n 1, 1) := by decide +kernel
theorem dX3_copy_2 : decode cX3_copy 2 = .ok (.getfield 25, 3) := by decide +kernel
theorem dX3_copy_5 : decode cX3_copy 5 = .ok (.putfield 25, 3) := by decide +kernel
theorem dX3_copy_8 : decode cX3_copy 8 = .ok (.aload_n 1, 1) := by decide +kernel
theorem dX3_copy_9 : decode cX3_copy 9 = .ok (.getfield 9, 3) := by decide +kernel
theorem dX3_copy_12 : decode cX3_copy 12 = .ok (.iconst 0, 1) := by decide +kernel
theorem dX3_copy_13 : decode cX3_copy 13 = .ok (.aload_n 0, 1) := by decide +kernel
theorem dX3_copy_14 : decode cX3_copy 14 = .ok (.getfield 9, 3) := by decide +kernel
theorem dX3_copy_17 : decode cX3_copy 17 = .ok (.iconst 0, 1) := by decide +kernel
theorem dX3_copy_18 : decode cX3_copy 18 = .ok (.aload_n 0, 1) := by decide +kernel
theorem dX3_copy_19 : decode cX3_copy 19 = .ok (.getfield 9, 3) := by decide +kernel
theorem dX3_copy_22 : decode cX3_copy 22 = .ok (.arraylength, 1) := by decide +kernel
theorem dX3_copy_23 : decode cX3_copy 23 = .ok (.invokestatic 32, 3) := by decide +kernel
theorem dX3_copy_26 : decode cX3_copy 26 = .ok (.return_, 1) := by decide +kernel
theorem dX4_init_0 : decode cX4_init 0 = .ok (.aload_n 0, 1) := by decide +kernel
theorem dX4_init_1 : decode cX4_init 1 = .ok (.invokespecial 3, 3) := by decide +kernel
theorem dX4_init_4 : decode cX4_init 4 = .ok (.aload_n 0, 1) := by decide +kernel
theorem dX4_init_5 : decode cX4_init 5 = .ok (.bipush 8, 2) := by decide +kernel
theorem dX4_init_7 : decode cX4_init 7 = .ok (.newarray .int, 2) := by decide +kernel
theorem dX4_init_9 : decode cX4_init 9 = .ok (.putfield 9, 3) := by decide +kernel
theorem dX4_init_12 : decode cX4_init 12 = .ok (.aload_n 0, 1) := by decide +kernel
theorem dX4_init_13 : decode cX4_init 13 = .ok (.bipush 13, 2) := by decide +kernel
theorem dX4_init_15 : decode cX4_init 15 = .ok (.newarray .int, 2) := by decide +kernel
theorem dX4_init_17 : decode cX4_init 17 = .ok (.putfield 15, 3) := by decide +kernel
theorem dX4_init_20 : decode cX4_init 20 = .ok (.aload_n 0, 1) := by decide +kernel
theorem dX4_init_21 : decode cX4_init 21 = .ok (.sipush 729, 3) := by decide +kernel
theorem dX4_init_24 : decode cX4_init 24 = .ok (.newarray .int, 2) := by decide +kernel
theorem dX4_init_26 : decode cX4_init 26 = .ok (.putfield 18, 3) := by decide +kernel
theorem dX4_init_29 : decode cX4_init 29 = .ok (.aload_n 0, 1) := by decide +kernel
theorem dX4_init_30 : decode cX4_init 30 = .ok (.sipush 729, 3) := by decide +kernel
theorem dX4_init_33 : decode cX4_init 33 = .ok (.newarray .int, 2) := by decide +kernel
theorem dX4_init_35 : decode cX4_init 35 = .ok (.putfield 21, 3) := by decide +kernel
theorem dX4_init_38 : decode cX4_init 38 = .ok (.aload_n 0, 1) := by decide +kernel
theorem dX4_init_39 : decode cX4_init 39 = .ok (.sipush 729, 3) := by decide +kernel
theorem dX4_init_42 : decode cX4_init 42 = .ok (.newarray .int, 2) := by decide +kernel
theorem dX4_init_44 : decode cX4_init 44 = .ok (.putfield 24, 3) := by decide +kernel
theorem dX4_init_47 : decode cX4_init 47 = .ok (.aload_n 0, 1) := by decide +kernel
theorem dX4_init_48 : decode cX4_init 48 = .ok (.sipush 729, 3) := by decide +kernel
theorem dX4_init_51 : decode cX4_init 51 = .ok (.newarray .int, 2) := by decide +kernel
theorem dX4_init_53 : decode cX4_init 53 = .ok (.putfield 27, 3) := by decide +kernel
theorem dX4_init_56 : decode cX4_init 56 = .ok (.return_, 1) := by decide +kernel
theorem dX4_look_0 : decode cX4_look 0 = .ok (.aload_n 0, 1) := by decide +kernel
theorem dX4_look_1 : decode cX4_look 1 = .ok (.aload_n 1, 1) := by decide +kernel
theorem dX4_look_2 : decode cX4_look 2 = .ok (.getfield 30, 3) := by decide +kernel
theorem dX4_look_5 : decode cX4_look 5 = .ok (.getfield 36, 3) := by decide +kernel
theorem dX4_look_8 : decode cX4_look 8 = .ok (.putfield 42, 3) := by decide +kernel
theorem dX4_look_11 : decode cX4_look 11 = .ok (.aload_n 0, 1) := by decide +kernel
theorem dX4_look_12 : decode cX4_look 12 = .ok (.iconst 0, 1) := by decide +kernel
theorem dX4_look_13 : decode cX4_look 13 = .ok (.putfield 44, 3) := by decide +kernel
theorem dX4_look_16 : decode cX4_look 16 = .ok (.iconst 0, 1) := by decide +kernel
theorem dX4_look_17 : decode cX4_look 17 = .ok (.istore 4, 2) := by decide +kernel
theorem dX4_look_19 : decode cX4_look 19 = .ok (.iload 4, 2) := by decide +kernel
theorem dX4_look_21 : decode cX4_look 21 = .ok (.aload_n 0, 1) := by decide +kernel
theorem dX4_look_22 : decode cX4_look 22 = .ok (.getfield 42, 3) := by decide +kernel
theorem dX4_look_25 : decode cX4_look 25 = .ok (.if_icmp .ge 82, 3) := by decide +kernel
theorem dX4_look_28 : decode cX4_look 28 = .ok (.iload_n 2, 1) := by decide +kernel
theorem dX4_look_29 : decode cX4_look 29 = .ok (.aload_n 1, 1) := by decide +kernel
theorem dX4_look_30 : decode cX4_look 30 = .ok (.getfield 47, 3) := by decide +kernel
theorem dX4_look_33 : decode cX4_look 33 = .ok (.getfield 51, 3) := by decide +kernel
theorem dX4_look_36 : decode cX4_look 36 = .ok (.iand, 1) := by decide +kernel
theorem dX4_look_37 : decode cX4_look 37 = .ok (.iconst 1, 1) := by decide +kernel
theorem dX4_look_38 : decode cX4_look 38 = .ok (.iload 4, 2) := by decide +kernel
theorem dX4_look_40 : decode cX4_look 40 = .ok (.ishl, 1) := by decide +kernel
theorem dX4_look_41 : decode cX4_look 41 = .ok (.iand, 1) := by decide +kernel
theorem dX4_look_42 : decode cX4_look 42 = .ok (.ifCond .eq 7, 3) := by decide +kernel
theorem dX4_look_45 : decode cX4_look 45 = .ok (.iconst 1, 1) := by decide +kernel
theorem dX4_look_46 : decode cX4_look 46 = .ok (.goto 4, 3) := by decide +kernel
theorem dX4_look_49 : decode cX4_look 49 = .ok (.iconst 0, 1) := by decide +kernel
theorem dX4_look_50 : decode cX4_look 50 = .ok (.istore 5, 2) := by decide +kernel
theorem dX4_look_52 : decode cX4_look 52 = .ok (.aload_n 0, 1) := by decide +kernel
theorem dX4_look_53 : decode cX4_look 53 = .ok (.getfield 9, 3) := by decide +kernel
theorem dX4_look_56 : decode cX4_look 56 = .ok (.iload 4, 2) := by decide +kernel
theorem dX4_look_58 : decode cX4_look 58 = .ok (.iload 5, 2) := by decide +kernel
theorem dX4_look_60 : decode cX4_look 60 = .ok (.ifCond .eq 18, 3) := by decide +kernel
theorem dX4_look_63 : decode cX4_look 63 = .ok (.aload_n 0, 1) := by decide +kernel
theorem dX4_look_64 : decode cX4_look 64 = .ok (.aload_n 1, 1) := by decide +kernel
theorem dX4_look_65 : decode cX4_look 65 = .ok (.getfield 47, 3) := by decide +kernel
theorem dX4_look_68 : decode cX4_look 68 = .ok (.iload 4, 2) := by decide +kernel
theorem dX4_look_70 : decode cX4_look 70 = .ok (.iload_n 2, 1) := by decide +kernel
theorem dX4_look_71 : decode cX4_look 71 = .ok (.iload_n 3, 1) := by decide +kernel
theorem dX4_look_72 : decode cX4_look 72 = .ok (.invokevirtual 56, 3) := by decide +kernel
theorem dX4_look_75 : decode cX4_look 75 = .ok (.goto 4, 3) := by decide +kernel
theorem dX4_look_78 : decode cX4_look 78 = .ok (.iconst 0, 1) := by decide +kernel
theorem dX4_look_79 : decode cX4_look 79 = .ok (.iastore, 1) := by decide +kernel
theorem dX4_look_80 : decode cX4_look 80 = .ok (.aload_n 0, 1) := by decide +kernel
theorem dX4_look_81 : decode cX4_look 81 = .ok (.dup, 1) := by decide +kernel
theorem dX4_look_82 : decode cX4_look 82 = .ok (.getfield 44, 3) := by decide +kernel
theorem dX4_look_85 : decode cX4_look 85 = .ok (.aload_n 0, 1) := by decide +kernel
theorem dX4_look_86 : decode cX4_look 86 = .ok (.getfield 9, 3) := by decide +kernel
theorem dX4_look_89 : decode cX4_look 89 = .ok (.iload 4, 2) := by decide +kernel
theorem dX4_look_91 : decode cX4_look 91 = .ok (.iaload, 1) := by decide +kernel
theorem dX4_look_92 : decode cX4_look 92 = .ok (.iconst 1, 1) := by decide +kernel
theorem dX4_look_93 : decode cX4_look 93 = .ok (.iand, 1) := by decide +kernel
theorem dX4_look_94 : decode cX4_look 94 = .ok (.iload 4, 2) := by decide +kernel
theorem dX4_look_96 : decode cX4_look 96 = .ok (.ishl, 1) := by decide +kernel
theorem dX4_look_97 : decode cX4_look 97 = .ok (.ior, 1) := by decide +kernel
theorem dX4_look_98 : decode cX4_look 98 = .ok (.putfield 44, 3) := by decide +kernel
theorem dX4_look_101 : decode cX4_look 101 = .ok (.iinc 4 1, 3) := by decide +kernel
theorem dX4_look_104 : decode cX4_look 104 = .ok (.goto (-85), 3) := by decide +kernel
theorem dX4_look_107 : decode cX4_look 107 = .ok (.return_, 1) := by decide +kernel
theorem dX4_ways_0 : decode cX4_ways 0 = .ok (.iconst 0, 1) := by decide +kernel
theorem dX4_ways_1 : decode cX4_ways 1 = .ok (.istore 5, 2) := by decide +kernel
theorem dX4_ways_3 : decode cX4_ways 3 = .ok (.aload_n 1, 1) := by decide +kernel
theorem dX4_ways_4 : decode cX4_ways 4 = .ok (.getfield 60, 3) := by decide +kernel
theorem dX4_ways_7 : decode cX4_ways 7 = .ok (.iload_n 2, 1) := by decide +kernel
theorem dX4_ways_8 : decode cX4_ways 8 = .ok (.iaload, 1) := by decide +kernel
theorem dX4_ways_9 : decode cX4_ways 9 = .ok (.istore 6, 2) := by decide +kernel
theorem dX4_ways_11 : decode cX4_ways 11 = .ok (.iload 6, 2) := by decide +kernel
theorem dX4_ways_13 : decode cX4_ways 13 = .ok (.aload_n 1, 1) := by decide +kernel
theorem dX4_ways_14 : decode cX4_ways 14 = .ok (.getfield 63, 3) := by decide +kernel
theorem dX4_ways_17 : decode cX4_ways 17 = .ok (.iload_n 2, 1) := by decide +kernel
theorem dX4_ways_18 : decode cX4_ways 18 = .ok (.iaload, 1) := by decide +kernel
theorem dX4_ways_19 : decode cX4_ways 19 = .ok (.if_icmp .ge 171, 3) := by decide +kernel
theorem dX4_ways_22 : decode cX4_ways 22 = .ok (.aload_n 1, 1) := by decide +kernel
theorem dX4_ways_23 : decode cX4_ways 23 = .ok (.getfield 66, 3) := by decide +kernel
theorem dX4_ways_26 : decode cX4_ways 26 = .ok (.iload 6, 2) := by decide +kernel
theorem dX4_ways_28 : decode cX4_ways 28 = .ok (.iaload, 1) := by decide +kernel
theorem dX4_ways_29 : decode cX4_ways 29 = .ok (.bipush 8, 2) := by decide +kernel
theorem dX4_ways_31 : decode cX4_ways 31 = .ok (.ishr, 1) := by decide +kernel
theorem dX4_ways_32 : decode cX4_ways 32 = .ok (.istore 7, 2) := by decide +kernel
theorem dX4_ways_34 : decode cX4_ways 34 = .ok (.iload 7, 2) := by decide +kernel
theorem dX4_ways_36 : decode cX4_ways 36 = .ok (.iconst 5, 1) := by decide +kernel
theorem dX4_ways_37 : decode cX4_ways 37 = .ok (.if_icmp .ne 26, 3) := by decide +kernel
theorem dX4_ways_40 : decode cX4_ways 40 = .ok (.iload 5, 2) := by decide +kernel
theorem dX4_ways_42 : decode cX4_ways 42 = .ok (.ifCond .le 21, 3) := by decide +kernel
theorem dX4_ways_45 : decode cX4_ways 45 = .ok (.aload_n 0, 1) := by decide +kernel
theorem dX4_ways_46 : decode cX4_ways 46 = .ok (.getfield 15, 3) := by decide +kernel
theorem dX4_ways_49 : decode cX4_ways 49 = .ok (.iload 5, 2) := by decide +kernel
theorem dX4_ways_51 : decode cX4_ways 51 = .ok (.iconst 1, 1) := by decide +kernel
theorem dX4_ways_52 : decode cX4_ways 52 = .ok (.isub, 1) := by decide +kernel
theorem dX4_ways_53 : decode cX4_ways 53 = .ok (.dup2, 1) := by decide +kernel
theorem dX4_ways_54 : decode cX4_ways 54 = .ok (.iaload, 1) := by decide +kernel
theorem dX4_ways_55 : decode cX4_ways 55 = .ok (.sipush 255, 3) := by decide +kernel
theorem dX4_ways_58 : decode cX4_ways 58 = .ok (.ixor, 1) := by decide +kernel
theorem dX4_ways_59 : decode cX4_ways 59 = .ok (.iastore, 1) := by decide +kernel
theorem dX4_ways_60 : decode cX4_ways 60 = .ok (.goto 124, 3) := by decide +kernel
theorem dX4_ways_63 : decode cX4_ways 63 = .ok (.iload 7, 2) := by decide +kernel
theorem dX4_ways_65 : decode cX4_ways 65 = .ok (.bipush 6, 2) := by decide +kernel
theorem dX4_ways_67 : decode cX4_ways 67 = .ok (.if_icmp .ne 34, 3) := by decide +kernel
theorem dX4_ways_70 : decode cX4_ways 70 = .ok (.iload 5, 2) := by decide +kernel
theorem dX4_ways_72 : decode cX4_ways 72 = .ok (.iconst 1, 1) := by decide +kernel
theorem dX4_ways_73 : decode cX4_ways 73 = .ok (.if_icmp .le 28, 3) := by decide +kernel
theorem dX4_ways_76 : decode cX4_ways 76 = .ok (.iinc 5 (-1), 3) := by decide +kernel
theorem dX4_ways_79 : decode cX4_ways 79 = .ok (.aload_n 0, 1) := by decide +kernel
theorem dX4_ways_80 : decode cX4_ways 80 = .ok (.getfield 15, 3) := by decide +kernel
theorem dX4_ways_83 : decode cX4_ways 83 = .ok (.iload 5, 2) := by decide +kernel
theorem dX4_ways_85 : decode cX4_ways 85 = .ok (.iconst 1, 1) := by decide +kernel
theorem dX4_ways_86 : decode cX4_ways 86 = .ok (.isub, 1) := by decide +kernel
theorem dX4_ways_87 : decode cX4_ways 87 = .ok (.dup2, 1) := by decide +kernel
theorem dX4_ways_88 : decode cX4_ways 88 = .ok (.iaload, 1) := by decide +kernel
theorem dX4_ways_89 : decode cX4_ways 89 = .ok (.aload_n 0, 1) := by decide +kernel
theorem dX4_ways_90 : decode cX4_ways 90 = .ok (.getfield 15, 3) := by decide +kernel
theorem dX4_ways_93 : decode cX4_ways 93 = .ok (.iload 5, 2) := by decide +kernel
theorem dX4_ways_95 : decode cX4_ways 95 = .ok (.iaload, 1) := by decide +kernel
theorem dX4_ways_96 : decode cX4_ways 96 = .ok (.iand, 1) := by decide +kernel
theorem dX4_ways_97 : decode cX4_ways 97 = .ok (.iastore, 1) := by decide +kernel
theorem dX4_ways_98 : decode cX4_ways 98 = .ok (.goto 86, 3) := by decide +kernel
theorem dX4_ways_101 : decode cX4_ways 101 = .ok (.iload 7, 2) := by decide +kernel
theorem dX4_ways_103 : decode cX4_ways 103 = .ok (.bipush 7, 2) := by decide +kernel
theorem dX4_ways_105 : decode cX4_ways 105 = .ok (.if_icmp .ne 34, 3) := by decide +kernel
theorem dX4_ways_108 : decode cX4_ways 108 = .ok (.iload 5, 2) := by decide +kernel
theorem dX4_ways_110 : decode cX4_ways 110 = .ok (.iconst 1, 1) := by decide +kernel
theorem dX4_ways_111 : decode cX4_ways 111 = .ok (.if_icmp .le 28, 3) := by decide +kernel
theorem dX4_ways_114 : decode cX4_ways 114 = .ok (.iinc 5 (-1), 3) := by decide +kernel
theorem dX4_ways_117 : decode cX4_ways 117 = .ok (.aload_n 0, 1) := by decide +kernel
theorem dX4_ways_118 : decode cX4_ways 118 = .ok (.getfield 15, 3) := by decide +kernel
theorem dX4_ways_121 : decode cX4_ways 121 = .ok (.iload 5, 2) := by decide +kernel
theorem dX4_ways_123 : decode cX4_ways 123 = .ok (.iconst 1, 1) := by decide +kernel
theorem dX4_ways_124 : decode cX4_ways 124 = .ok (.isub, 1) := by decide +kernel
theorem dX4_ways_125 : decode cX4_ways 125 = .ok (.dup2, 1) := by decide +kernel
theorem dX4_ways_126 : decode cX4_ways 126 = .ok (.iaload, 1) := by decide +kernel
theorem dX4_ways_127 : decode cX4_ways 127 = .ok (.aload_n 0, 1) := by decide +kernel
theorem dX4_ways_128 : decode cX4_ways 128 = .ok (.getfield 15, 3) := by decide +kernel
theorem dX4_ways_131 : decode cX4_ways 131 = .ok (.iload 5, 2) := by decide +kernel
theorem dX4_ways_133 : decode cX4_ways 133 = .ok (.iaload, 1) := by decide +kernel
theorem dX4_ways_134 : decode cX4_ways 134 = .ok (.ior, 1) := by decide +kernel
theorem dX4_ways_135 : decode cX4_ways 135 = .ok (.iastore, 1) := by decide +kernel
theorem dX4_ways_136 : decode cX4_ways 136 = .ok (.goto 48, 3) := by decide +kernel
theorem dX4_ways_139 : decode cX4_ways 139 = .ok (.iload 7, 2) := by decide +kernel
theorem dX4_ways_141 : decode cX4_ways 141 = .ok (.iconst 5, 1) := by decide +kernel
theorem dX4_ways_142 : decode cX4_ways 142 = .ok (.if_icmp .ge 42, 3) := by decide +kernel
theorem dX4_ways_145 : decode cX4_ways 145 = .ok (.iload 5, 2) := by decide +kernel
theorem dX4_ways_147 : decode cX4_ways 147 = .ok (.aload_n 0, 1) := by decide +kernel
theorem dX4_ways_148 : decode cX4_ways 148 = .ok (.getfield 15, 3) := by decide +kernel
theorem dX4_ways_151 : decode cX4_ways 151 = .ok (.arraylength, 1) := by decide +kernel
theorem dX4_ways_152 : decode cX4_ways 152 = .ok (.if_icmp .ge 32, 3) := by decide +kernel
theorem dX4_ways_155 : decode cX4_ways 155 = .ok (.aload_n 0, 1) := by decide +kernel
theorem dX4_ways_156 : decode cX4_ways 156 = .ok (.getfield 15, 3) := by decide +kernel
theorem dX4_ways_159 : decode cX4_ways 159 = .ok (.iload 5, 2) := by decide +kernel
theorem dX4_ways_161 : decode cX4_ways 161 = .ok (.iload 7, 2) := by decide +kernel
theorem dX4_ways_163 : decode cX4_ways 163 = .ok (.aload_n 1, 1) := by decide +kernel
theorem dX4_ways_164 : decode cX4_ways 164 = .ok (.getfield 66, 3) := by decide +kernel
theorem dX4_ways_167 : decode cX4_ways 167 = .ok (.iload 6, 2) := by decide +kernel
theorem dX4_ways_169 : decode cX4_ways 169 = .ok (.iaload, 1) := by decide +kernel
theorem dX4_ways_170 : decode cX4_ways 170 = .ok (.sipush 255, 3) := by decide +kernel
theorem dX4_ways_173 : decode cX4_ways 173 = .ok (.iand, 1) := by decide +kernel
theorem dX4_ways_174 : decode cX4_ways 174 = .ok (.iload_n 3, 1) := by decide +kernel
theorem dX4_ways_175 : decode cX4_ways 175 = .ok (.iload 4, 2) := by decide +kernel
theorem dX4_ways_177 : decode cX4_ways 177 = .ok (.invokestatic 69, 3) := by decide +kernel
theorem dX4_ways_180 : decode cX4_ways 180 = .ok (.iastore, 1) := by decide +kernel
theorem dX4_ways_181 : decode cX4_ways 181 = .ok (.iinc 5 1, 3) := by decide +kernel
theorem dX4_ways_184 : decode cX4_ways 184 = .ok (.iinc 6 1, 3) := by decide +kernel
theorem dX4_ways_187 : decode cX4_ways 187 = .ok (.goto (-176), 3) := by decide +kernel
theorem dX4_ways_190 : decode cX4_ways 190 = .ok (.aload_n 0, 1) := by decide +kernel
theorem dX4_ways_191 : decode cX4_ways 191 = .ok (.getfield 15, 3) := by decide +kernel
theorem dX4_ways_194 : decode cX4_ways 194 = .ok (.iconst 0, 1) := by decide +kernel
theorem dX4_ways_195 : decode cX4_ways 195 = .ok (.iaload, 1) := by decide +kernel
theorem dX4_ways_196 : decode cX4_ways 196 = .ok (.ireturn, 1) := by decide +kernel
theorem dX4_caseWays_0 : decode cX4_caseWays 0 = .ok (.iload_n 0, 1) := by decide +kernel
theorem dX4_caseWays_1 : decode cX4_caseWays 1 = .ok (.tableswitch 57 0 3 #[31, 35, 39, 43], 31) := by decide +kernel
theorem dX4_caseWays_32 : decode cX4_caseWays 32 = .ok (.sipush 170, 3) := by decide +kernel
theorem dX4_caseWays_35 : decode cX4_caseWays 35 = .ok (.ireturn, 1) := by decide +kernel
theorem dX4_caseWays_36 : decode cX4_caseWays 36 = .ok (.sipush 204, 3) := by decide +kernel
theorem dX4_caseWays_39 : decode cX4_caseWays 39 = .ok (.ireturn, 1) := by decide +kernel
theorem dX4_caseWays_40 : decode cX4_caseWays 40 = .ok (.sipush 240, 3) := by decide +kernel
theorem dX4_caseWays_43 : decode cX4_caseWays 43 = .ok (.ireturn, 1) := by decide +kernel
theorem dX4_caseWays_44 : decode cX4_caseWays 44 = .ok (.iload_n 1, 1) := by decide +kernel
theorem dX4_caseWays_45 : decode cX4_caseWays 45 = .ok (.iload_n 2, 1) := by decide +kernel
theorem dX4_caseWays_46 : decode cX4_caseWays 46 = .ok (.iand, 1) := by decide +kernel
theorem dX4_caseWays_47 : decode cX4_caseWays 47 = .ok (.ifCond .eq 9, 3) := by decide +kernel
theorem dX4_caseWays_50 : decode cX4_caseWays 50 = .ok (.sipush 255, 3) := by decide +kernel
theorem dX4_caseWays_53 : decode cX4_caseWays 53 = .ok (.goto 4, 3) := by decide +kernel
theorem dX4_caseWays_56 : decode cX4_caseWays 56 = .ok (.iconst 0, 1) := by decide +kernel
theorem dX4_caseWays_57 : decode cX4_caseWays 57 = .ok (.ireturn, 1) := by decide +kernel
theorem dX4_caseWays_58 : decode cX4_caseWays 58 = .ok (.iload_n 1, 1) := by decide +kernel
theorem dX4_caseWays_59 : decode cX4_caseWays 59 = .ok (.iload_n 3, 1) := by decide +kernel
theorem dX4_caseWays_60 : decode cX4_caseWays 60 = .ok (.ishr, 1) := by decide +kernel
theorem dX4_caseWays_61 : decode cX4_caseWays 61 = .ok (.iconst 1, 1) := by decide +kernel
theorem dX4_caseWays_62 : decode cX4_caseWays 62 = .ok (.iand, 1) := by decide +kernel
theorem dX4_caseWays_63 : decode cX4_caseWays 63 = .ok (.ifCond .eq 9, 3) := by decide +kernel
theorem dX4_caseWays_66 : decode cX4_caseWays 66 = .ok (.sipush 255, 3) := by decide +kernel
theorem dX4_caseWays_69 : decode cX4_caseWays 69 = .ok (.goto 4, 3) := by decide +kernel
theorem dX4_caseWays_72 : decode cX4_caseWays 72 = .ok (.iconst 0, 1) := by decide +kernel
theorem dX4_caseWays_73 : decode cX4_caseWays 73 = .ok (.ireturn, 1) := by decide +kernel
theorem dX4_left_0 : decode cX4_left 0 = .ok (.aload_n 0, 1) := by decide +kernel
theorem dX4_left_1 : decode cX4_left 1 = .ok (.getfield 44, 3) := by decide +kernel
theorem dX4_left_4 : decode cX4_left 4 = .ok (.istore 4, 2) := by decide +kernel
theorem dX4_left_6 : decode cX4_left 6 = .ok (.aload_n 0, 1) := by decide +kernel
theorem dX4_left_7 : decode cX4_left 7 = .ok (.iload 4, 2) := by decide +kernel
theorem dX4_left_9 : decode cX4_left 9 = .ok (.iload_n 1, 1) := by decide +kernel
theorem dX4_left_10 : decode cX4_left 10 = .ok (.iload_n 1, 1) := by decide +kernel
theorem dX4_left_11 : decode cX4_left 11 = .ok (.iload_n 2, 1) := by decide +kernel
theorem dX4_left_12 : decode cX4_left 12 = .ok (.iload_n 3, 1) := by decide +kernel
theorem dX4_left_13 : decode cX4_left 13 = .ok (.invokevirtual 73, 3) := by decide +kernel
theorem dX4_left_16 : decode cX4_left 16 = .ok (.istore 4, 2) := by decide +kernel
theorem dX4_left_18 : decode cX4_left 18 = .ok (.aload_n 0, 1) := by decide +kernel
theorem dX4_left_19 : decode cX4_left 19 = .ok (.iload 4, 2) := by decide +kernel
theorem dX4_left_21 : decode cX4_left 21 = .ok (.iload_n 2, 1) := by decide +kernel
theorem dX4_left_22 : decode cX4_left 22 = .ok (.iload_n 1, 1) := by decide +kernel
theorem dX4_left_23 : decode cX4_left 23 = .ok (.iload_n 2, 1) := by decide +kernel
theorem dX4_left_24 : decode cX4_left 24 = .ok (.iload_n 3, 1) := by decide +kernel
theorem dX4_left_25 : decode cX4_left 25 = .ok (.invokevirtual 73, 3) := by decide +kernel
theorem dX4_left_28 : decode cX4_left 28 = .ok (.istore 4, 2) := by decide +kernel
theorem dX4_left_30 : decode cX4_left 30 = .ok (.aload_n 0, 1) := by decide +kernel
theorem dX4_left_31 : decode cX4_left 31 = .ok (.iload 4, 2) := by decide +kernel
theorem dX4_left_33 : decode cX4_left 33 = .ok (.iload_n 3, 1) := by decide +kernel
theorem dX4_left_34 : decode cX4_left 34 = .ok (.iload_n 1, 1) := by decide +kernel
theorem dX4_left_35 : decode cX4_left 35 = .ok (.iload_n 2, 1) := by decide +kernel
theorem dX4_left_36 : decode cX4_left 36 = .ok (.iload_n 3, 1) := by decide +kernel
theorem dX4_left_37 : decode cX4_left 37 = .ok (.invokevirtual 73, 3) := by decide +kernel
theorem dX4_left_40 : decode cX4_left 40 = .ok (.ireturn, 1) := by decide +kernel
theorem dX4_chosen_0 : decode cX4_chosen 0 = .ok (.iload_n 2, 1) := by decide +kernel
theorem dX4_chosen_1 : decode cX4_chosen 1 = .ok (.ifCond .lt 11, 3) := by decide +kernel
theorem dX4_chosen_4 : decode cX4_chosen 4 = .ok (.iload_n 2, 1) := by decide +kernel
theorem dX4_chosen_5 : decode cX4_chosen 5 = .ok (.aload_n 0, 1) := by decide +kernel
theorem dX4_chosen_6 : decode cX4_chosen 6 = .ok (.getfield 42, 3) := by decide +kernel
theorem dX4_chosen_9 : decode cX4_chosen 9 = .ok (.if_icmp .lt 5, 3) := by decide +kernel
theorem dX4_chosen_12 : decode cX4_chosen 12 = .ok (.iload_n 1, 1) := by decide +kernel
theorem dX4_chosen_13 : decode cX4_chosen 13 = .ok (.ireturn, 1) := by decide +kernel
theorem dX4_chosen_14 : decode cX4_chosen 14 = .ok (.iload_n 2, 1) := by decide +kernel
theorem dX4_chosen_15 : decode cX4_chosen 15 = .ok (.iload_n 3, 1) := by decide +kernel
theorem dX4_chosen_16 : decode cX4_chosen 16 = .ok (.if_icmp .ne 7, 3) := by decide +kernel
theorem dX4_chosen_19 : decode cX4_chosen 19 = .ok (.iconst 1, 1) := by decide +kernel
theorem dX4_chosen_20 : decode cX4_chosen 20 = .ok (.goto 4, 3) := by decide +kernel
theorem dX4_chosen_23 : decode cX4_chosen 23 = .ok (.iconst 0, 1) := by decide +kernel
theorem dX4_chosen_24 : decode cX4_chosen 24 = .ok (.istore 6, 2) := by decide +kernel
theorem dX4_chosen_26 : decode cX4_chosen 26 = .ok (.iload 6, 2) := by decide +kernel
theorem dX4_chosen_28 : decode cX4_chosen 28 = .ok (.iload_n 2, 1) := by decide +kernel
theorem dX4_chosen_29 : decode cX4_chosen 29 = .ok (.iload 4, 2) := by decide +kernel
theorem dX4_chosen_31 : decode cX4_chosen 31 = .ok (.if_icmp .ne 7, 3) := by decide +kernel
theorem dX4_chosen_34 : decode cX4_chosen 34 = .ok (.iconst 2, 1) := by decide +kernel
theorem dX4_chosen_35 : decode cX4_chosen 35 = .ok (.goto 4, 3) := by decide +kernel
theorem dX4_chosen_38 : decode cX4_chosen 38 = .ok (.iconst 0, 1) := by decide +kernel
theorem dX4_chosen_39 : decode cX4_chosen 39 = .ok (.ior, 1) := by decide +kernel
theorem dX4_chosen_40 : decode cX4_chosen 40 = .ok (.istore 6, 2) := by decide +kernel
theorem dX4_chosen_42 : decode cX4_chosen 42 = .ok (.iload 6, 2) := by decide +kernel
theorem dX4_chosen_44 : decode cX4_chosen 44 = .ok (.iload_n 2, 1) := by decide +kernel
theorem dX4_chosen_45 : decode cX4_chosen 45 = .ok (.iload 5, 2) := by decide +kernel
theorem dX4_chosen_47 : decode cX4_chosen 47 = .ok (.if_icmp .ne 7, 3) := by decide +kernel
theorem dX4_chosen_50 : decode cX4_chosen 50 = .ok (.iconst 4, 1) := by decide +kernel
theorem dX4_chosen_51 : decode cX4_chosen 51 = .ok (.goto 4, 3) := by decide +kernel
theorem dX4_chosen_54 : decode cX4_chosen 54 = .ok (.iconst 0, 1) := by decide +kernel
theorem dX4_chosen_55 : decode cX4_chosen 55 = .ok (.ior, 1) := by decide +kernel
theorem dX4_chosen_56 : decode cX4_chosen 56 = .ok (.istore 6, 2) := by decide +kernel
theorem dX4_chosen_58 : decode cX4_chosen 58 = .ok (.aload_n 0, 1) := by decide +kernel
theorem dX4_chosen_59 : decode cX4_chosen 59 = .ok (.getfield 9, 3) := by decide +kernel
theorem dX4_chosen_62 : decode cX4_chosen 62 = .ok (.iload_n 2, 1) := by decide +kernel
theorem dX4_chosen_63 : decode cX4_chosen 63 = .ok (.iaload, 1) := by decide +kernel
theorem dX4_chosen_64 : decode cX4_chosen 64 = .ok (.iload 6, 2) := by decide +kernel
theorem dX4_chosen_66 : decode cX4_chosen 66 = .ok (.ishr, 1) := by decide +kernel
theorem dX4_chosen_67 : decode cX4_chosen 67 = .ok (.iconst 1, 1) := by decide +kernel
theorem dX4_chosen_68 : decode cX4_chosen 68 = .ok (.iand, 1) := by decide +kernel
theorem dX4_chosen_69 : decode cX4_chosen 69 = .ok (.ifCond .eq 11, 3) := by decide +kernel
theorem dX4_chosen_72 : decode cX4_chosen 72 = .ok (.iload_n 1, 1) := by decide +kernel
theorem dX4_chosen_73 : decode cX4_chosen 73 = .ok (.iconst 1, 1) := by decide +kernel
theorem dX4_chosen_74 : decode cX4_chosen 74 = .ok (.iload_n 2, 1) := by decide +kernel
theorem dX4_chosen_75 : decode cX4_chosen 75 = .ok (.ishl, 1) := by decide +kernel
theorem dX4_chosen_76 : decode cX4_chosen 76 = .ok (.ior, 1) := by decide +kernel
theorem dX4_chosen_77 : decode cX4_chosen 77 = .ok (.goto 10, 3) := by decide +kernel
theorem dX4_chosen_80 : decode cX4_chosen 80 = .ok (.iload_n 1, 1) := by decide +kernel
theorem dX4_chosen_81 : decode cX4_chosen 81 = .ok (.iconst 1, 1) := by decide +kernel
theorem dX4_chosen_82 : decode cX4_chosen 82 = .ok (.iload_n 2, 1) := by decide +kernel
theorem dX4_chosen_83 : decode cX4_chosen 83 = .ok (.ishl, 1) := by decide +kernel
theorem dX4_chosen_84 : decode cX4_chosen 84 = .ok (.iconst (-1), 1) := by decide +kernel
theorem dX4_chosen_85 : decode cX4_chosen 85 = .ok (.ixor, 1) := by decide +kernel
theorem dX4_chosen_86 : decode cX4_chosen 86 = .ok (.iand, 1) := by decide +kernel
theorem dX4_chosen_87 : decode cX4_chosen 87 = .ok (.ireturn, 1) := by decide +kernel
theorem dX4_list_0 : decode cX4_list 0 = .ok (.aload_n 0, 1) := by decide +kernel
theorem dX4_list_1 : decode cX4_list 1 = .ok (.iconst 1, 1) := by decide +kernel
theorem dX4_list_2 : decode cX4_list 2 = .ok (.bipush 85, 2) := by decide +kernel
theorem dX4_list_4 : decode cX4_list 4 = .ok (.invokevirtual 77, 3) := by decide +kernel
theorem dX4_list_7 : decode cX4_list 7 = .ok (.aload_n 1, 1) := by decide +kernel
theorem dX4_list_8 : decode cX4_list 8 = .ok (.getfield 81, 3) := by decide +kernel
theorem dX4_list_11 : decode cX4_list 11 = .ok (.iand, 1) := by decide +kernel
theorem dX4_list_12 : decode cX4_list 12 = .ok (.istore_n 2, 1) := by decide +kernel
theorem dX4_list_13 : decode cX4_list 13 = .ok (.aload_n 1, 1) := by decide +kernel
theorem dX4_list_14 : decode cX4_list 14 = .ok (.invokevirtual 84, 3) := by decide +kernel
theorem dX4_list_17 : decode cX4_list 17 = .ok (.ifCond .eq 13, 3) := by decide +kernel
theorem dX4_list_20 : decode cX4_list 20 = .ok (.aload_n 0, 1) := by decide +kernel
theorem dX4_list_21 : decode cX4_list 21 = .ok (.iconst 2, 1) := by decide +kernel
theorem dX4_list_22 : decode cX4_list 22 = .ok (.bipush 51, 2) := by decide +kernel
theorem dX4_list_24 : decode cX4_list 24 = .ok (.invokevirtual 77, 3) := by decide +kernel
theorem dX4_list_27 : decode cX4_list 27 = .ok (.goto 4, 3) := by decide +kernel
theorem dX4_list_30 : decode cX4_list 30 = .ok (.iconst 0, 1) := by decide +kernel
theorem dX4_list_31 : decode cX4_list 31 = .ok (.istore_n 3, 1) := by decide +kernel
theorem dX4_list_32 : decode cX4_list 32 = .ok (.aload_n 0, 1) := by decide +kernel
theorem dX4_list_33 : decode cX4_list 33 = .ok (.iconst 4, 1) := by decide +kernel
theorem dX4_list_34 : decode cX4_list 34 = .ok (.bipush 15, 2) := by decide +kernel
theorem dX4_list_36 : decode cX4_list 36 = .ok (.invokevirtual 77, 3) := by decide +kernel
theorem dX4_list_39 : decode cX4_list 39 = .ok (.aload_n 1, 1) := by decide +kernel
theorem dX4_list_40 : decode cX4_list 40 = .ok (.getfield 88, 3) := by decide +kernel
theorem dX4_list_43 : decode cX4_list 43 = .ok (.iand, 1) := by decide +kernel
theorem dX4_list_44 : decode cX4_list 44 = .ok (.istore 4, 2) := by decide +kernel
theorem dX4_list_46 : decode cX4_list 46 = .ok (.aload_n 0, 1) := by decide +kernel
theorem dX4_list_47 : decode cX4_list 47 = .ok (.iconst 0, 1) := by decide +kernel
theorem dX4_list_48 : decode cX4_list 48 = .ok (.putfield 91, 3) := by decide +kernel
theorem dX4_list_51 : decode cX4_list 51 = .ok (.iconst (-1), 1) := by decide +kernel
theorem dX4_list_52 : decode cX4_list 52 = .ok (.istore 5, 2) := by decide +kernel
theorem dX4_list_54 : decode cX4_list 54 = .ok (.iload 5, 2) := by decide +kernel
theorem dX4_list_56 : decode cX4_list 56 = .ok (.aload_n 0, 1) := by decide +kernel
theorem dX4_list_57 : decode cX4_list 57 = .ok (.getfield 42, 3) := by decide +kernel
theorem dX4_list_60 : decode cX4_list 60 = .ok (.if_icmp .ge 83, 3) := by decide +kernel
theorem dX4_list_63 : decode cX4_list 63 = .ok (.iconst (-1), 1) := by decide +kernel
theorem dX4_list_64 : decode cX4_list 64 = .ok (.istore 6, 2) := by decide +kernel
theorem dX4_list_66 : decode cX4_list 66 = .ok (.iload 6, 2) := by decide +kernel
theorem dX4_list_68 : decode cX4_list 68 = .ok (.aload_n 0, 1) := by decide +kernel
theorem dX4_list_69 : decode cX4_list 69 = .ok (.getfield 42, 3) := by decide +kernel
theorem dX4_list_72 : decode cX4_list 72 = .ok (.if_icmp .ge 65, 3) := by decide +kernel
theorem dX4_list_75 : decode cX4_list 75 = .ok (.iload 5, 2) := by decide +kernel
theorem dX4_list_77 : decode cX4_list 77 = .ok (.iload_n 2, 1) := by decide +kernel
theorem dX4_list_78 : decode cX4_list 78 = .ok (.invokestatic 94, 3) := by decide +kernel
theorem dX4_list_81 : decode cX4_list 81 = .ok (.ifCond .eq 56, 3) := by decide +kernel
theorem dX4_list_84 : decode cX4_list 84 = .ok (.iconst (-1), 1) := by decide +kernel
theorem dX4_list_85 : decode cX4_list 85 = .ok (.istore 7, 2) := by decide +kernel
theorem dX4_list_87 : decode cX4_list 87 = .ok (.iload 7, 2) := by decide +kernel
theorem dX4_list_89 : decode cX4_list 89 = .ok (.aload_n 0, 1) := by decide +kernel
theorem dX4_list_90 : decode cX4_list 90 = .ok (.getfield 42, 3) := by decide +kernel
theorem dX4_list_93 : decode cX4_list 93 = .ok (.if_icmp .ge 38, 3) := by decide +kernel
theorem dX4_list_96 : decode cX4_list 96 = .ok (.iload 6, 2) := by decide +kernel
theorem dX4_list_98 : decode cX4_list 98 = .ok (.iload_n 3, 1) := by decide +kernel
theorem dX4_list_99 : decode cX4_list 99 = .ok (.invokestatic 94, 3) := by decide +kernel
theorem dX4_list_102 : decode cX4_list 102 = .ok (.ifCond .eq 29, 3) := by decide +kernel
theorem dX4_list_105 : decode cX4_list 105 = .ok (.iload 7, 2) := by decide +kernel
theorem dX4_list_107 : decode cX4_list 107 = .ok (.iload 4, 2) := by decide +kernel
theorem dX4_list_109 : decode cX4_list 109 = .ok (.invokestatic 94, 3) := by decide +kernel
theorem dX4_list_112 : decode cX4_list 112 = .ok (.ifCond .eq 13, 3) := by decide +kernel
theorem dX4_list_115 : decode cX4_list 115 = .ok (.aload_n 0, 1) := by decide +kernel
theorem dX4_list_116 : decode cX4_list 116 = .ok (.iload 5, 2) := by decide +kernel
theorem dX4_list_118 : decode cX4_list 118 = .ok (.iload 6, 2) := by decide +kernel
theorem dX4_list_120 : decode cX4_list 120 = .ok (.iload 7, 2) := by decide +kernel
theorem dX4_list_122 : decode cX4_list 122 = .ok (.invokevirtual 98, 3) := by decide +kernel
theorem dX4_list_125 : decode cX4_list 125 = .ok (.iinc 7 1, 3) := by decide +kernel
theorem dX4_list_128 : decode cX4_list 128 = .ok (.goto (-41), 3) := by decide +kernel
theorem dX4_list_131 : decode cX4_list 131 = .ok (.iinc 6 1, 3) := by decide +kernel
theorem dX4_list_134 : decode cX4_list 134 = .ok (.goto (-68), 3) := by decide +kernel
theorem dX4_list_137 : decode cX4_list 137 = .ok (.iinc 5 1, 3) := by decide +kernel
theorem dX4_list_140 : decode cX4_list 140 = .ok (.goto (-86), 3) := by decide +kernel
theorem dX4_list_143 : decode cX4_list 143 = .ok (.return_, 1) := by decide +kernel
theorem dX4_mattering_0 : decode cX4_mattering 0 = .ok (.iconst 0, 1) := by decide +kernel
theorem dX4_mattering_1 : decode cX4_mattering 1 = .ok (.istore_n 3, 1) := by decide +kernel
theorem dX4_mattering_2 : decode cX4_mattering 2 = .ok (.iconst 0, 1) := by decide +kernel
theorem dX4_mattering_3 : decode cX4_mattering 3 = .ok (.istore 4, 2) := by decide +kernel
theorem dX4_mattering_5 : decode cX4_mattering 5 = .ok (.iload 4, 2) := by decide +kernel
theorem dX4_mattering_7 : decode cX4_mattering 7 = .ok (.aload_n 0, 1) := by decide +kernel
theorem dX4_mattering_8 : decode cX4_mattering 8 = .ok (.getfield 42, 3) := by decide +kernel
theorem dX4_mattering_11 : decode cX4_mattering 11 = .ok (.if_icmp .ge 38, 3) := by decide +kernel
theorem dX4_mattering_14 : decode cX4_mattering 14 = .ok (.aload_n 0, 1) := by decide +kernel
theorem dX4_mattering_15 : decode cX4_mattering 15 = .ok (.getfield 9, 3) := by decide +kernel
theorem dX4_mattering_18 : decode cX4_mattering 18 = .ok (.iload 4, 2) := by decide +kernel
theorem dX4_mattering_20 : decode cX4_mattering 20 = .ok (.iaload, 1) := by decide +kernel
theorem dX4_mattering_21 : decode cX4_mattering 21 = .ok (.iload_n 1, 1) := by decide +kernel
theorem dX4_mattering_22 : decode cX4_mattering 22 = .ok (.ishr, 1) := by decide +kernel
theorem dX4_mattering_23 : decode cX4_mattering 23 = .ok (.aload_n 0, 1) := by decide +kernel
theorem dX4_mattering_24 : decode cX4_mattering 24 = .ok (.getfield 9, 3) := by decide +kernel
theorem dX4_mattering_27 : decode cX4_mattering 27 = .ok (.iload 4, 2) := by decide +kernel
theorem dX4_mattering_29 : decode cX4_mattering 29 = .ok (.iaload, 1) := by decide +kernel
theorem dX4_mattering_30 : decode cX4_mattering 30 = .ok (.ixor, 1) := by decide +kernel
theorem dX4_mattering_31 : decode cX4_mattering 31 = .ok (.iload_n 2, 1) := by decide +kernel
theorem dX4_mattering_32 : decode cX4_mattering 32 = .ok (.iand, 1) := by decide +kernel
theorem dX4_mattering_33 : decode cX4_mattering 33 = .ok (.ifCond .eq 10, 3) := by decide +kernel
theorem dX4_mattering_36 : decode cX4_mattering 36 = .ok (.iload_n 3, 1) := by decide +kernel
theorem dX4_mattering_37 : decode cX4_mattering 37 = .ok (.iconst 1, 1) := by decide +kernel
theorem dX4_mattering_38 : decode cX4_mattering 38 = .ok (.iload 4, 2) := by decide +kernel
theorem dX4_mattering_40 : decode cX4_mattering 40 = .ok (.ishl, 1) := by decide +kernel
theorem dX4_mattering_41 : decode cX4_mattering 41 = .ok (.ior, 1) := by decide +kernel
theorem dX4_mattering_42 : decode cX4_mattering 42 = .ok (.istore_n 3, 1) := by decide +kernel
theorem dX4_mattering_43 : decode cX4_mattering 43 = .ok (.iinc 4 1, 3) := by decide +kernel
theorem dX4_mattering_46 : decode cX4_mattering 46 = .ok (.goto (-41), 3) := by decide +kernel
theorem dX4_mattering_49 : decode cX4_mattering 49 = .ok (.iload_n 3, 1) := by decide +kernel
theorem dX4_mattering_50 : decode cX4_mattering 50 = .ok (.ireturn, 1) := by decide +kernel
theorem dX4_may_0 : decode cX4_may 0 = .ok (.iload_n 0, 1) := by decide +kernel
theorem dX4_may_1 : decode cX4_may 1 = .ok (.iconst (-1), 1) := by decide +kernel
theorem dX4_may_2 : decode cX4_may 2 = .ok (.if_icmp .eq 11, 3) := by decide +kernel
theorem dX4_may_5 : decode cX4_may 5 = .ok (.iload_n 1, 1) := by decide +kernel
theorem dX4_may_6 : decode cX4_may 6 = .ok (.iload_n 0, 1) := by decide +kernel
theorem dX4_may_7 : decode cX4_may 7 = .ok (.ishr, 1) := by decide +kernel
theorem dX4_may_8 : decode cX4_may 8 = .ok (.iconst 1, 1) := by decide +kernel
theorem dX4_may_9 : decode cX4_may 9 = .ok (.iand, 1) := by decide +kernel
theorem dX4_may_10 : decode cX4_may 10 = .ok (.ifCond .eq 7, 3) := by decide +kernel
theorem dX4_may_13 : decode cX4_may 13 = .ok (.iconst 1, 1) := by decide +kernel
theorem dX4_may_14 : decode cX4_may 14 = .ok (.goto 4, 3) := by decide +kernel
theorem dX4_may_17 : decode cX4_may 17 = .ok (.iconst 0, 1) := by decide +kernel
theorem dX4_may_18 : decode cX4_may 18 = .ok (.ireturn, 1) := by decide +kernel
theorem dX4_add_0 : decode cX4_add 0 = .ok (.aload_n 0, 1) := by decide +kernel
theorem dX4_add_1 : decode cX4_add 1 = .ok (.getfield 91, 3) := by decide +kernel
theorem dX4_add_4 : decode cX4_add 4 = .ok (.sipush 729, 3) := by decide +kernel
theorem dX4_add_7 : decode cX4_add 7 = .ok (.if_icmp .ge 59, 3) := by decide +kernel
theorem dX4_add_10 : decode cX4_add 10 = .ok (.aload_n 0, 1) := by decide +kernel
theorem dX4_add_11 : decode cX4_add 11 = .ok (.getfield 18, 3) := by decide +kernel
theorem dX4_add_14 : decode cX4_add 14 = .ok (.aload_n 0, 1) := by decide +kernel
theorem dX4_add_15 : decode cX4_add 15 = .ok (.getfield 91, 3) := by decide +kernel
theorem dX4_add_18 : decode cX4_add 18 = .ok (.iload_n 1, 1) := by decide +kernel
theorem dX4_add_19 : decode cX4_add 19 = .ok (.iastore, 1) := by decide +kernel
theorem dX4_add_20 : decode cX4_add 20 = .ok (.aload_n 0, 1) := by decide +kernel
theorem dX4_add_21 : decode cX4_add 21 = .ok (.getfield 21, 3) := by decide +kernel
theorem dX4_add_24 : decode cX4_add 24 = .ok (.aload_n 0, 1) := by decide +kernel
theorem dX4_add_25 : decode cX4_add 25 = .ok (.getfield 91, 3) := by decide +kernel
theorem dX4_add_28 : decode cX4_add 28 = .ok (.iload_n 2, 1) := by decide +kernel
theorem dX4_add_29 : decode cX4_add 29 = .ok (.iastore, 1) := by decide +kernel
theorem dX4_add_30 : decode cX4_add 30 = .ok (.aload_n 0, 1) := by decide +kernel
theorem dX4_add_31 : decode cX4_add 31 = .ok (.getfield 24, 3) := by decide +kernel
theorem dX4_add_34 : decode cX4_add 34 = .ok (.aload_n 0, 1) := by decide +kernel
theorem dX4_add_35 : decode cX4_add 35 = .ok (.getfield 91, 3) := by decide +kernel
theorem dX4_add_38 : decode cX4_add 38 = .ok (.iload_n 3, 1) := by decide +kernel
theorem dX4_add_39 : decode cX4_add 39 = .ok (.iastore, 1) := by decide +kernel
theorem dX4_add_40 : decode cX4_add 40 = .ok (.aload_n 0, 1) := by decide +kernel
theorem dX4_add_41 : decode cX4_add 41 = .ok (.getfield 27, 3) := by decide +kernel
theorem dX4_add_44 : decode cX4_add 44 = .ok (.aload_n 0, 1) := by decide +kernel
theorem dX4_add_45 : decode cX4_add 45 = .ok (.getfield 91, 3) := by decide +kernel
theorem dX4_add_48 : decode cX4_add 48 = .ok (.aload_n 0, 1) := by decide +kernel
theorem dX4_add_49 : decode cX4_add 49 = .ok (.iload_n 1, 1) := by decide +kernel
theorem dX4_add_50 : decode cX4_add 50 = .ok (.iload_n 2, 1) := by decide +kernel
theorem dX4_add_51 : decode cX4_add 51 = .ok (.iload_n 3, 1) := by decide +kernel
theorem dX4_add_52 : decode cX4_add 52 = .ok (.invokevirtual 102, 3) := by decide +kernel
theorem dX4_add_55 : decode cX4_add 55 = .ok (.iastore, 1) := by decide +kernel
theorem dX4_add_56 : decode cX4_add 56 = .ok (.aload_n 0, 1) := by decide +kernel
theorem dX4_add_57 : decode cX4_add 57 = .ok (.dup, 1) := by decide +kernel
theorem dX4_add_58 : decode cX4_add 58 = .ok (.getfield 91, 3) := by decide +kernel
theorem dX4_add_61 : decode cX4_add 61 = .ok (.iconst 1, 1) := by decide +kernel
theorem dX4_add_62 : decode cX4_add 62 = .ok (.iadd, 1) := by decide +kernel
theorem dX4_add_63 : decode cX4_add 63 = .ok (.putfield 91, 3) := by decide +kernel
theorem dX4_add_66 : decode cX4_add 66 = .ok (.return_, 1) := by decide +kernel
theorem dX5_init_0 : decode cX5_init 0 = .ok (.aload_n 0, 1) := by decide +kernel
theorem dX5_init_1 : decode cX5_init 1 = .ok (.invokespecial 3, 3) := by decide +kernel
theorem dX5_init_4 : decode cX5_init 4 = .ok (.aload_n 0, 1) := by decide +kernel
theorem dX5_init_5 : decode cX5_init 5 = .ok (.bipush 24, 2) := by decide +kernel
theorem dX5_init_7 : decode cX5_init 7 = .ok (.newarray .int, 2) := by decide +kernel
theorem dX5_init_9 : decode cX5_init 9 = .ok (.putfield 9, 3) := by decide +kernel
theorem dX5_init_12 : decode cX5_init 12 = .ok (.aload_n 0, 1) := by decide +kernel
theorem dX5_init_13 : decode cX5_init 13 = .ok (.bipush 24, 2) := by decide +kernel
theorem dX5_init_15 : decode cX5_init 15 = .ok (.newarray .int, 2) := by decide +kernel
theorem dX5_init_17 : decode cX5_init 17 = .ok (.putfield 15, 3) := by decide +kernel
theorem dX5_init_20 : decode cX5_init 20 = .ok (.aload_n 0, 1) := by decide +kernel
theorem dX5_init_21 : decode cX5_init 21 = .ok (.bipush 24, 2) := by decide +kernel
theorem dX5_init_23 : decode cX5_init 23 = .ok (.newarray .int, 2) := by decide +kernel
theorem dX5_init_25 : decode cX5_init 25 = .ok (.putfield 18, 3) := by decide +kernel
theorem dX5_init_28 : decode cX5_init 28 = .ok (.aload_n 0, 1) := by decide +kernel
theorem dX5_init_29 : decode cX5_init 29 = .ok (.bipush 24, 2) := by decide +kernel
theorem dX5_init_31 : decode cX5_init 31 = .ok (.newarray .int, 2) := by decide +kernel
theorem dX5_init_33 : decode cX5_init 33 = .ok (.putfield 21, 3) := by decide +kernel
theorem dX5_init_36 : decode cX5_init 36 = .ok (.return_, 1) := by decide +kernel
theorem dX5_clear_0 : decode cX5_clear 0 = .ok (.aload_n 0, 1) := by decide +kernel
theorem dX5_clear_1 : decode cX5_clear 1 = .ok (.iconst 0, 1) := by decide +kernel
theorem dX5_clear_2 : decode cX5_clear 2 = .ok (.putfield 24, 3) := by decide +kernel
theorem dX5_clear_5 : decode cX5_clear 5 = .ok (.aload_n 0, 1) := by decide +kernel
theorem dX5_clear_6 : decode cX5_clear 6 = .ok (.iconst 0, 1) := by decide +kernel
theorem dX5_clear_7 : decode cX5_clear 7 = .ok (.putfield 28, 3) := by decide +kernel
theorem dX5_clear_10 : decode cX5_clear 10 = .ok (.return_, 1) := by decide +kernel
theorem dX5_build_0 : decode cX5_build 0 = .ok (.aload_n 0, 1) := by decide +kernel
theorem dX5_build_1 : decode cX5_build 1 = .ok (.invokevirtual 32, 3) := by decide +kernel
theorem dX5_build_4 : decode cX5_build 4 = .ok (.iconst 0, 1) := by decide +kernel
theorem dX5_build_5 : decode cX5_build 5 = .ok (.istore_n 3, 1) := by decide +kernel
theorem dX5_build_6 : decode cX5_build 6 = .ok (.iload_n 3, 1) := by decide +kernel
theorem dX5_build_7 : decode cX5_build 7 = .ok (.sipush 300, 3) := by decide +kernel
theorem dX5_build_10 : decode cX5_build 10 = .ok (.if_icmp .ge 27, 3) := by decide +kernel
theorem dX5_build_13 : decode cX5_build 13 = .ok (.aload_n 1, 1) := by decide +kernel
theorem dX5_build_14 : decode cX5_build 14 = .ok (.invokevirtual 35, 3) := by decide +kernel
theorem dX5_build_17 : decode cX5_build 17 = .ok (.ifCond .eq 20, 3) := by decide +kernel
theorem dX5_build_20 : decode cX5_build 20 = .ok (.aload_n 0, 1) := by decide +kernel
theorem dX5_build_21 : decode cX5_build 21 = .ok (.aload_n 1, 1) := by decide +kernel
theorem dX5_build_22 : decode cX5_build 22 = .ok (.aload_n 2, 1) := by decide +kernel
theorem dX5_build_23 : decode cX5_build 23 = .ok (.invokevirtual 40, 3) := by decide +kernel
theorem dX5_build_26 : decode cX5_build 26 = .ok (.ifCond .ne 5, 3) := by decide +kernel
theorem dX5_build_29 : decode cX5_build 29 = .ok (.iconst 0, 1) := by decide +kernel
theorem dX5_build_30 : decode cX5_build 30 = .ok (.ireturn, 1) := by decide +kernel
theorem dX5_build_31 : decode cX5_build 31 = .ok (.iinc 3 1, 3) := by decide +kernel
theorem dX5_build_34 : decode cX5_build 34 = .ok (.goto (-28), 3) := by decide +kernel
theorem dX5_build_37 : decode cX5_build 37 = .ok (.aload_n 0, 1) := by decide +kernel
theorem dX5_build_38 : decode cX5_build 38 = .ok (.iconst 1, 1) := by decide +kernel
theorem dX5_build_39 : decode cX5_build 39 = .ok (.putfield 24, 3) := by decide +kernel
theorem dX5_build_42 : decode cX5_build 42 = .ok (.iconst 1, 1) := by decide +kernel
theorem dX5_build_43 : decode cX5_build 43 = .ok (.ireturn, 1) := by decide +kernel
theorem dX5_buildJob_0 : decode cX5_buildJob 0 = .ok (.aload_n 1, 1) := by decide +kernel
theorem dX5_buildJob_1 : decode cX5_buildJob 1 = .ok (.invokevirtual 35, 3) := by decide +kernel
theorem dX5_buildJob_4 : decode cX5_buildJob 4 = .ok (.invokestatic 44, 3) := by decide +kernel
theorem dX5_buildJob_7 : decode cX5_buildJob 7 = .ok (.istore_n 3, 1) := by decide +kernel
theorem dX5_buildJob_8 : decode cX5_buildJob 8 = .ok (.iload_n 3, 1) := by decide +kernel
theorem dX5_buildJob_9 : decode cX5_buildJob 9 = .ok (.iconst (-1), 1) := by decide +kernel
theorem dX5_buildJob_10 : decode cX5_buildJob 10 = .ok (.if_icmp .ne 9, 3) := by decide +kernel
theorem dX5_buildJob_13 : decode cX5_buildJob 13 = .ok (.aload_n 1, 1) := by decide +kernel
theorem dX5_buildJob_14 : decode cX5_buildJob 14 = .ok (.iconst 2, 1) := by decide +kernel
theorem dX5_buildJob_15 : decode cX5_buildJob 15 = .ok (.invokevirtual 48, 3) := by decide +kernel
theorem dX5_buildJob_18 : decode cX5_buildJob 18 = .ok (.ireturn, 1) := by decide +kernel
theorem dX5_buildJob_19 : decode cX5_buildJob 19 = .ok (.iload_n 3, 1) := by decide +kernel
theorem dX5_buildJob_20 : decode cX5_buildJob 20 = .ok (.ifCond .eq 17, 3) := by decide +kernel
theorem dX5_buildJob_23 : decode cX5_buildJob 23 = .ok (.aload_n 0, 1) := by decide +kernel
theorem dX5_buildJob_24 : decode cX5_buildJob 24 = .ok (.iload_n 3, 1) := by decide +kernel
theorem dX5_buildJob_25 : decode cX5_buildJob 25 = .ok (.invokevirtual 52, 3) := by decide +kernel
theorem dX5_buildJob_28 : decode cX5_buildJob 28 = .ok (.ifCond .eq 9, 3) := by decide +kernel
theorem dX5_buildJob_31 : decode cX5_buildJob 31 = .ok (.aload_n 1, 1) := by decide +kernel
theorem dX5_buildJob_32 : decode cX5_buildJob 32 = .ok (.iconst 5, 1) := by decide +kernel
theorem dX5_buildJob_33 : decode cX5_buildJob 33 = .ok (.invokevirtual 48, 3) := by decide +kernel
theorem dX5_buildJob_36 : decode cX5_buildJob 36 = .ok (.ireturn, 1) := by decide +kernel
theorem dX5_buildJob_37 : decode cX5_buildJob 37 = .ok (.aload_n 0, 1) := by decide +kernel
theorem dX5_buildJob_38 : decode cX5_buildJob 38 = .ok (.getfield 28, 3) := by decide +kernel
theorem dX5_buildJob_41 : decode cX5_buildJob 41 = .ok (.bipush 24, 2) := by decide +kernel
theorem dX5_buildJob_43 : decode cX5_buildJob 43 = .ok (.if_icmp .lt 10, 3) := by decide +kernel
theorem dX5_buildJob_46 : decode cX5_buildJob 46 = .ok (.aload_n 1, 1) := by decide +kernel
theorem dX5_buildJob_47 : decode cX5_buildJob 47 = .ok (.bipush 6, 2) := by decide +kernel
theorem dX5_buildJob_49 : decode cX5_buildJob 49 = .ok (.invokevirtual 48, 3) := by decide +kernel
theorem dX5_buildJob_52 : decode cX5_buildJob 52 = .ok (.ireturn, 1) := by decide +kernel
theorem dX5_buildJob_53 : decode cX5_buildJob 53 = .ok (.aload_n 0, 1) := by decide +kernel
theorem dX5_buildJob_54 : decode cX5_buildJob 54 = .ok (.getfield 28, 3) := by decide +kernel
theorem dX5_buildJob_57 : decode cX5_buildJob 57 = .ok (.istore 4, 2) := by decide +kernel
theorem dX5_buildJob_59 : decode cX5_buildJob 59 = .ok (.aload_n 0, 1) := by decide +kernel
theorem dX5_buildJob_60 : decode cX5_buildJob 60 = .ok (.dup, 1) := by decide +kernel
theorem dX5_buildJob_61 : decode cX5_buildJob 61 = .ok (.getfield 28, 3) := by decide +kernel
theorem dX5_buildJob_64 : decode cX5_buildJob 64 = .ok (.iconst 1, 1) := by decide +kernel
theorem dX5_buildJob_65 : decode cX5_buildJob 65 = .ok (.iadd, 1) := by decide +kernel
theorem dX5_buildJob_66 : decode cX5_buildJob 66 = .ok (.putfield 28, 3) := by decide +kernel
theorem dX5_buildJob_69 : decode cX5_buildJob 69 = .ok (.aload_n 0, 1) := by decide +kernel
theorem dX5_buildJob_70 : decode cX5_buildJob 70 = .ok (.getfield 9, 3) := by decide +kernel
theorem dX5_buildJob_73 : decode cX5_buildJob 73 = .ok (.iload 4, 2) := by decide +kernel
theorem dX5_buildJob_75 : decode cX5_buildJob 75 = .ok (.iload_n 3, 1) := by decide +kernel
theorem dX5_buildJob_76 : decode cX5_buildJob 76 = .ok (.iastore, 1) := by decide +kernel
theorem dX5_buildJob_77 : decode cX5_buildJob 77 = .ok (.aload_n 0, 1) := by decide +kernel
theorem dX5_buildJob_78 : decode cX5_buildJob 78 = .ok (.getfield 15, 3) := by decide +kernel
theorem dX5_buildJob_81 : decode cX5_buildJob 81 = .ok (.iload 4, 2) := by decide +kernel
theorem dX5_buildJob_83 : decode cX5_buildJob 83 = .ok (.bipush 24, 2) := by decide +kernel
theorem dX5_buildJob_85 : decode cX5_buildJob 85 = .ok (.iastore, 1) := by decide +kernel
theorem dX5_buildJob_86 : decode cX5_buildJob 86 = .ok (.aload_n 0, 1) := by decide +kernel
theorem dX5_buildJob_87 : decode cX5_buildJob 87 = .ok (.getfield 21, 3) := by decide +kernel
theorem dX5_buildJob_90 : decode cX5_buildJob 90 = .ok (.iload 4, 2) := by decide +kernel
theorem dX5_buildJob_92 : decode cX5_buildJob 92 = .ok (.iconst 0, 1) := by decide +kernel
theorem dX5_buildJob_93 : decode cX5_buildJob 93 = .ok (.iastore, 1) := by decide +kernel
theorem dX5_buildJob_94 : decode cX5_buildJob 94 = .ok (.aload_n 1, 1) := by decide +kernel
theorem dX5_buildJob_95 : decode cX5_buildJob 95 = .ok (.invokevirtual 55, 3) := by decide +kernel
theorem dX5_buildJob_98 : decode cX5_buildJob 98 = .ok (.iload_n 3, 1) := by decide +kernel
theorem dX5_buildJob_99 : decode cX5_buildJob 99 = .ok (.ifCond .ne 12, 3) := by decide +kernel
theorem dX5_buildJob_102 : decode cX5_buildJob 102 = .ok (.aload_n 0, 1) := by decide +kernel
theorem dX5_buildJob_103 : decode cX5_buildJob 103 = .ok (.aload_n 1, 1) := by decide +kernel
theorem dX5_buildJob_104 : decode cX5_buildJob 104 = .ok (.aload_n 2, 1) := by decide +kernel
theorem dX5_buildJob_105 : decode cX5_buildJob 105 = .ok (.iload 4, 2) := by decide +kernel
theorem dX5_buildJob_107 : decode cX5_buildJob 107 = .ok (.invokevirtual 58, 3) := by decide +kernel
theorem dX5_buildJob_110 : decode cX5_buildJob 110 = .ok (.ireturn, 1) := by decide +kernel
theorem dX5_buildJob_111 : decode cX5_buildJob 111 = .ok (.aload_n 0, 1) := by decide +kernel
theorem dX5_buildJob_112 : decode cX5_buildJob 112 = .ok (.getfield 18, 3) := by decide +kernel
theorem dX5_buildJob_115 : decode cX5_buildJob 115 = .ok (.iload 4, 2) := by decide +kernel
theorem dX5_buildJob_117 : decode cX5_buildJob 117 = .ok (.aload_n 1, 1) := by decide +kernel
theorem dX5_buildJob_118 : decode cX5_buildJob 118 = .ok (.aload_n 2, 1) := by decide +kernel
theorem dX5_buildJob_119 : decode cX5_buildJob 119 = .ok (.getfield 62, 3) := by decide +kernel
theorem dX5_buildJob_122 : decode cX5_buildJob 122 = .ok (.iconst 0, 1) := by decide +kernel
theorem dX5_buildJob_123 : decode cX5_buildJob 123 = .ok (.invokevirtual 68, 3) := by decide +kernel
theorem dX5_buildJob_126 : decode cX5_buildJob 126 = .ok (.iastore, 1) := by decide +kernel
theorem dX5_buildJob_127 : decode cX5_buildJob 127 = .ok (.aload_n 0, 1) := by decide +kernel
theorem dX5_buildJob_128 : decode cX5_buildJob 128 = .ok (.getfield 18, 3) := by decide +kernel
theorem dX5_buildJob_131 : decode cX5_buildJob 131 = .ok (.iload 4, 2) := by decide +kernel
theorem dX5_buildJob_133 : decode cX5_buildJob 133 = .ok (.iaload, 1) := by decide +kernel
theorem dX5_buildJob_134 : decode cX5_buildJob 134 = .ok (.iconst (-1), 1) := by decide +kernel
theorem dX5_buildJob_135 : decode cX5_buildJob 135 = .ok (.if_icmp .eq 16, 3) := by decide +kernel
theorem dX5_buildJob_138 : decode cX5_buildJob 138 = .ok (.aload_n 1, 1) := by decide +kernel
theorem dX5_buildJob_139 : decode cX5_buildJob 139 = .ok (.bipush 59, 2) := by decide +kernel
theorem dX5_buildJob_141 : decode cX5_buildJob 141 = .ok (.invokevirtual 72, 3) := by decide +kernel
theorem dX5_buildJob_144 : decode cX5_buildJob 144 = .ok (.ifCond .eq 7, 3) := by decide +kernel
theorem dX5_buildJob_147 : decode cX5_buildJob 147 = .ok (.iconst 1, 1) := by decide +kernel
theorem dX5_buildJob_148 : decode cX5_buildJob 148 = .ok (.goto 4, 3) := by decide +kernel
theorem dX5_buildJob_151 : decode cX5_buildJob 151 = .ok (.iconst 0, 1) := by decide +kernel
theorem dX5_buildJob_152 : decode cX5_buildJob 152 = .ok (.ireturn, 1) := by decide +kernel
theorem dX5_buildMake_0 : decode cX5_buildMake 0 = .ok (.aload_n 0, 1) := by decide +kernel
theorem dX5_buildMake_1 : decode cX5_buildMake 1 = .ok (.getfield 15, 3) := by decide +kernel
theorem dX5_buildMake_4 : decode cX5_buildMake 4 = .ok (.iload_n 3, 1) := by decide +kernel
theorem dX5_buildMake_5 : decode cX5_buildMake 5 = .ok (.aload_n 1, 1) := by decide +kernel
theorem dX5_buildMake_6 : decode cX5_buildMake 6 = .ok (.iconst 0, 1) := by decide +kernel
theorem dX5_buildMake_7 : decode cX5_buildMake 7 = .ok (.bipush 23, 2) := by decide +kernel
theorem dX5_buildMake_9 : decode cX5_buildMake 9 = .ok (.invokevirtual 75, 3) := by decide +kernel
theorem dX5_buildMake_12 : decode cX5_buildMake 12 = .ok (.iastore, 1) := by decide +kernel
theorem dX5_buildMake_13 : decode cX5_buildMake 13 = .ok (.aload_n 0, 1) := by decide +kernel
theorem dX5_buildMake_14 : decode cX5_buildMake 14 = .ok (.getfield 15, 3) := by decide +kernel
theorem dX5_buildMake_17 : decode cX5_buildMake 17 = .ok (.iload_n 3, 1) := by decide +kernel
theorem dX5_buildMake_18 : decode cX5_buildMake 18 = .ok (.iaload, 1) := by decide +kernel
theorem dX5_buildMake_19 : decode cX5_buildMake 19 = .ok (.iconst (-1), 1) := by decide +kernel
theorem dX5_buildMake_20 : decode cX5_buildMake 20 = .ok (.if_icmp .ne 5, 3) := by decide +kernel
theorem dX5_buildMake_23 : decode cX5_buildMake 23 = .ok (.iconst 0, 1) := by decide +kernel
theorem dX5_buildMake_24 : decode cX5_buildMake 24 = .ok (.ireturn, 1) := by decide +kernel
theorem dX5_buildMake_25 : decode cX5_buildMake 25 = .ok (.aload_n 0, 1) := by decide +kernel
theorem dX5_buildMake_26 : decode cX5_buildMake 26 = .ok (.getfield 18, 3) := by decide +kernel
theorem dX5_buildMake_29 : decode cX5_buildMake 29 = .ok (.iload_n 3, 1) := by decide +kernel
theorem dX5_buildMake_30 : decode cX5_buildMake 30 = .ok (.aload_n 1, 1) := by decide +kernel
theorem dX5_buildMake_31 : decode cX5_buildMake 31 = .ok (.aload_n 2, 1) := by decide +kernel
theorem dX5_buildMake_32 : decode cX5_buildMake 32 = .ok (.getfield 79, 3) := by decide +kernel
theorem dX5_buildMake_35 : decode cX5_buildMake 35 = .ok (.iconst 0, 1) := by decide +kernel
theorem dX5_buildMake_36 : decode cX5_buildMake 36 = .ok (.invokevirtual 68, 3) := by decide +kernel
theorem dX5_buildMake_39 : decode cX5_buildMake 39 = .ok (.iastore, 1) := by decide +kernel
theorem dX5_buildMake_40 : decode cX5_buildMake 40 = .ok (.aload_n 0, 1) := by decide +kernel
theorem dX5_buildMake_41 : decode cX5_buildMake 41 = .ok (.getfield 18, 3) := by decide +kernel
theorem dX5_buildMake_44 : decode cX5_buildMake 44 = .ok (.iload_n 3, 1) := by decide +kernel
theorem dX5_buildMake_45 : decode cX5_buildMake 45 = .ok (.iaload, 1) := by decide +kernel
theorem dX5_buildMake_46 : decode cX5_buildMake 46 = .ok (.iconst (-1), 1) := by decide +kernel
theorem dX5_buildMake_47 : decode cX5_buildMake 47 = .ok (.if_icmp .eq 13, 3) := by decide +kernel
theorem dX5_buildMake_50 : decode cX5_buildMake 50 = .ok (.aload_n 1, 1) := by decide +kernel
theorem dX5_buildMake_51 : decode cX5_buildMake 51 = .ok (.sipush 154, 3) := by decide +kernel
theorem dX5_buildMake_54 : decode cX5_buildMake 54 = .ok (.invokevirtual 72, 3) := by decide +kernel
theorem dX5_buildMake_57 : decode cX5_buildMake 57 = .ok (.ifCond .ne 5, 3) := by decide +kernel
theorem dX5_buildMake_60 : decode cX5_buildMake 60 = .ok (.iconst 0, 1) := by decide +kernel
theorem dX5_buildMake_61 : decode cX5_buildMake 61 = .ok (.ireturn, 1) := by decide +kernel
theorem dX5_buildMake_62 : decode cX5_buildMake 62 = .ok (.aload_n 0, 1) := by decide +kernel
theorem dX5_buildMake_63 : decode cX5_buildMake 63 = .ok (.getfield 21, 3) := by decide +kernel
theorem dX5_buildMake_66 : decode cX5_buildMake 66 = .ok (.iload_n 3, 1) := by decide +kernel
theorem dX5_buildMake_67 : decode cX5_buildMake 67 = .ok (.aload_n 1, 1) := by decide +kernel
theorem dX5_buildMake_68 : decode cX5_buildMake 68 = .ok (.aload_n 2, 1) := by decide +kernel
theorem dX5_buildMake_69 : decode cX5_buildMake 69 = .ok (.getfield 82, 3) := by decide +kernel
theorem dX5_buildMake_72 : decode cX5_buildMake 72 = .ok (.iconst 0, 1) := by decide +kernel
theorem dX5_buildMake_73 : decode cX5_buildMake 73 = .ok (.invokevirtual 85, 3) := by decide +kernel
theorem dX5_buildMake_76 : decode cX5_buildMake 76 = .ok (.iastore, 1) := by decide +kernel
theorem dX5_buildMake_77 : decode cX5_buildMake 77 = .ok (.aload_n 0, 1) := by decide +kernel
theorem dX5_buildMake_78 : decode cX5_buildMake 78 = .ok (.getfield 21, 3) := by decide +kernel
theorem dX5_buildMake_81 : decode cX5_buildMake 81 = .ok (.iload_n 3, 1) := by decide +kernel
theorem dX5_buildMake_82 : decode cX5_buildMake 82 = .ok (.iaload, 1) := by decide +kernel
theorem dX5_buildMake_83 : decode cX5_buildMake 83 = .ok (.ifCond .eq 16, 3) := by decide +kernel
theorem dX5_buildMake_86 : decode cX5_buildMake 86 = .ok (.aload_n 1, 1) := by decide +kernel
theorem dX5_buildMake_87 : decode cX5_buildMake 87 = .ok (.bipush 59, 2) := by decide +kernel
theorem dX5_buildMake_89 : decode cX5_buildMake 89 = .ok (.invokevirtual 72, 3) := by decide +kernel
theorem dX5_buildMake_92 : decode cX5_buildMake 92 = .ok (.ifCond .eq 7, 3) := by decide +kernel
theorem dX5_buildMake_95 : decode cX5_buildMake 95 = .ok (.iconst 1, 1) := by decide +kernel
theorem dX5_buildMake_96 : decode cX5_buildMake 96 = .ok (.goto 4, 3) := by decide +kernel
theorem dX5_buildMake_99 : decode cX5_buildMake 99 = .ok (.iconst 0, 1) := by decide +kernel
theorem dX5_buildMake_100 : decode cX5_buildMake 100 = .ok (.ireturn, 1) := by decide +kernel
theorem dX5_kindOf_0 : decode cX5_kindOf 0 = .ok (.iload_n 0, 1) := by decide +kernel
theorem dX5_kindOf_1 : decode cX5_kindOf 1 = .ok (.lookupswitch 51 #[(129, 45), (130, 49), (142, 43), (155, 47)], 43) := by decide +kernel
theorem dX5_kindOf_44 : decode cX5_kindOf 44 = .ok (.iconst 0, 1) := by decide +kernel
theorem dX5_kindOf_45 : decode cX5_kindOf 45 = .ok (.ireturn, 1) := by decide +kernel
theorem dX5_kindOf_46 : decode cX5_kindOf 46 = .ok (.iconst 1, 1) := by decide +kernel
theorem dX5_kindOf_47 : decode cX5_kindOf 47 = .ok (.ireturn, 1) := by decide +kernel
theorem dX5_kindOf_48 : decode cX5_kindOf 48 = .ok (.iconst 2, 1) := by decide +kernel
theorem dX5_kindOf_49 : decode cX5_kindOf 49 = .ok (.ireturn, 1) := by decide +kernel
theorem dX5_kindOf_50 : decode cX5_kindOf 50 = .ok (.iconst 3, 1) := by decide +kernel
theorem dX5_kindOf_51 : decode cX5_kindOf 51 = .ok (.ireturn, 1) := by decide +kernel
theorem dX5_kindOf_52 : decode cX5_kindOf 52 = .ok (.iconst (-1), 1) := by decide +kernel
theorem dX5_kindOf_53 : decode cX5_kindOf 53 = .ok (.ireturn, 1) := by decide +kernel
theorem dX5_tells_0 : decode cX5_tells 0 = .ok (.iconst 0, 1) := by decide +kernel
theorem dX5_tells_1 : decode cX5_tells 1 = .ok (.istore_n 2, 1) := by decide +kernel
theorem dX5_tells_2 : decode cX5_tells 2 = .ok (.iload_n 2, 1) := by decide +kernel
theorem dX5_tells_3 : decode cX5_tells 3 = .ok (.aload_n 0, 1) := by decide +kernel
theorem dX5_tells_4 : decode cX5_tells 4 = .ok (.getfield 28, 3) := by decide +kernel
theorem dX5_tells_7 : decode cX5_tells 7 = .ok (.if_icmp .ge 21, 3) := by decide +kernel
theorem dX5_tells_10 : decode cX5_tells 10 = .ok (.aload_n 0, 1) := by decide +kernel
theorem dX5_tells_11 : decode cX5_tells 11 = .ok (.getfield 9, 3) := by decide +kernel
theorem dX5_tells_14 : decode cX5_tells 14 = .ok (.iload_n 2, 1) := by decide +kernel
theorem dX5_tells_15 : decode cX5_tells 15 = .ok (.iaload, 1) := by decide +kernel
theorem dX5_tells_16 : decode cX5_tells 16 = .ok (.iload_n 1, 1) := by decide +kernel
theorem dX5_tells_17 : decode cX5_tells 17 = .ok (.if_icmp .ne 5, 3) := by decide +kernel
theorem dX5_tells_20 : decode cX5_tells 20 = .ok (.iconst 1, 1) := by decide +kernel
theorem dX5_tells_21 : decode cX5_tells 21 = .ok (.ireturn, 1) := by decide +kernel
theorem dX5_tells_22 : decode cX5_tells 22 = .ok (.iinc 2 1, 3) := by decide +kernel
theorem dX5_tells_25 : decode cX5_tells 25 = .ok (.goto (-23), 3) := by decide +kernel
theorem dX5_tells_28 : decode cX5_tells 28 = .ok (.iconst 0, 1) := by decide +kernel
theorem dX5_tells_29 : decode cX5_tells 29 = .ok (.ireturn, 1) := by decide +kernel
theorem dX5_copy_0 : decode cX5_copy 0 = .ok (.aload_n 0, 1) := by decide +kernel
theorem dX5_copy_1 : decode cX5_copy 1 = .ok (.aload_n 1, 1) := by decide +kernel
theorem dX5_copy_2 : decode cX5_copy 2 = .ok (.getfield 24, 3) := by decide +kernel
theorem dX5_copy_5 : decode cX5_copy 5 = .ok (.putfield 24, 3) := by decide +kernel
theorem dX5_copy_8 : decode cX5_copy 8 = .ok (.aload_n 0, 1) := by decide +kernel
theorem dX5_copy_9 : decode cX5_copy 9 = .ok (.aload_n 1, 1) := by decide +kernel
theorem dX5_copy_10 : decode cX5_copy 10 = .ok (.getfield 28, 3) := by decide +kernel
theorem dX5_copy_13 : decode cX5_copy 13 = .ok (.putfield 28, 3) := by decide +kernel
theorem dX5_copy_16 : decode cX5_copy 16 = .ok (.aload_n 1, 1) := by decide +kernel
theorem dX5_copy_17 : decode cX5_copy 17 = .ok (.getfield 9, 3) := by decide +kernel
theorem dX5_copy_20 : decode cX5_copy 20 = .ok (.iconst 0, 1) := by decide +kernel
theorem dX5_copy_21 : decode cX5_copy 21 = .ok (.aload_n 0, 1) := by decide +kernel
theorem dX5_copy_22 : decode cX5_copy 22 = .ok (.getfield 9, 3) := by decide +kernel
theorem dX5_copy_25 : decode cX5_copy 25 = .ok (.iconst 0, 1) := by decide +kernel
theorem dX5_copy_26 : decode cX5_copy 26 = .ok (.aload_n 0, 1) := by decide +kernel
theorem dX5_copy_27 : decode cX5_copy 27 = .ok (.getfield 9, 3) := by decide +kernel
theorem dX5_copy_30 : decode cX5_copy 30 = .ok (.arraylength, 1) := by decide +kernel
theorem dX5_copy_31 : decode cX5_copy 31 = .ok (.invokestatic 88, 3) := by decide +kernel
theorem dX5_copy_34 : decode cX5_copy 34 = .ok (.aload_n 1, 1) := by decide +kernel
theorem dX5_copy_35 : decode cX5_copy 35 = .ok (.getfield 15, 3) := by decide +kernel
theorem dX5_copy_38 : decode cX5_copy 38 = .ok (.iconst 0, 1) := by decide +kernel
theorem dX5_copy_39 : decode cX5_copy 39 = .ok (.aload_n 0, 1) := by decide +kernel
theorem dX5_copy_40 : decode cX5_copy 40 = .ok (.getfield 15, 3) := by decide +kernel
theorem dX5_copy_43 : decode cX5_copy 43 = .ok (.iconst 0, 1) := by decide +kernel
theorem dX5_copy_44 : decode cX5_copy 44 = .ok (.aload_n 0, 1) := by decide +kernel
theorem dX5_copy_45 : decode cX5_copy 45 = .ok (.getfield 15, 3) := by decide +kernel
theorem dX5_copy_48 : decode cX5_copy 48 = .ok (.arraylength, 1) := by decide +kernel
theorem dX5_copy_49 : decode cX5_copy 49 = .ok (.invokestatic 88, 3) := by decide +kernel
theorem dX5_copy_52 : decode cX5_copy 52 = .ok (.aload_n 1, 1) := by decide +kernel
theorem dX5_copy_53 : decode cX5_copy 53 = .ok (.getfield 18, 3) := by decide +kernel
theorem dX5_copy_56 : decode cX5_copy 56 = .ok (.iconst 0, 1) := by decide +kernel
theorem dX5_copy_57 : decode cX5_copy 57 = .ok (.aload_n 0, 1) := by decide +kernel
theorem dX5_copy_58 : decode cX5_copy 58 = .ok (.getfield 18, 3) := by decide +kernel
theorem dX5_copy_61 : decode cX5_copy 61 = .ok (.iconst 0, 1) := by decide +kernel
theorem dX5_copy_62 : decode cX5_copy 62 = .ok (.aload_n 0, 1) := by decide +kernel
theorem dX5_copy_63 : decode cX5_copy 63 = .ok (.getfield 18, 3) := by decide +kernel
theorem dX5_copy_66 : decode cX5_copy 66 = .ok (.arraylength, 1) := by decide +kernel
theorem dX5_copy_67 : decode cX5_copy 67 = .ok (.invokestatic 88, 3) := by decide +kernel
theorem dX5_copy_70 : decode cX5_copy 70 = .ok (.aload_n 1, 1) := by decide +kernel
theorem dX5_copy_71 : decode cX5_copy 71 = .ok (.getfield 21, 3) := by decide +kernel
theorem dX5_copy_74 : decode cX5_copy 74 = .ok (.iconst 0, 1) := by decide +kernel
theorem dX5_copy_75 : decode cX5_copy 75 = .ok (.aload_n 0, 1) := by decide +kernel
theorem dX5_copy_76 : decode cX5_copy 76 = .ok (.getfield 21, 3) := by decide +kernel
theorem dX5_copy_79 : decode cX5_copy 79 = .ok (.iconst 0, 1) := by decide +kernel
theorem dX5_copy_80 : decode cX5_copy 80 = .ok (.aload_n 0, 1) := by decide +kernel
theorem dX5_copy_81 : decode cX5_copy 81 = .ok (.getfield 21, 3) := by decide +kernel
theorem dX5_copy_84 : decode cX5_copy 84 = .ok (.arraylength, 1) := by decide +kernel
theorem dX5_copy_85 : decode cX5_copy 85 = .ok (.invokestatic 88, 3) := by decide +kernel
theorem dX5_copy_88 : decode cX5_copy 88 = .ok (.return_, 1) := by decide +kernel
theorem dX6_init_0 : decode cX6_init 0 = .ok (.aload_n 0, 1) := by decide +kernel
theorem dX6_init_1 : decode cX6_init 1 = .ok (.invokespecial 1, 3) := by decide +kernel
theorem dX6_init_4 : decode cX6_init 4 = .ok (.return_, 1) := by decide +kernel
theorem dX6_begin_0 : decode cX6_begin 0 = .ok (.aload_n 0, 1) := by decide +kernel
theorem dX6_begin_1 : decode cX6_begin 1 = .ok (.iload_n 1, 1) := by decide +kernel
theorem dX6_begin_2 : decode cX6_begin 2 = .ok (.putfield 7, 3) := by decide +kernel
theorem dX6_begin_5 : decode cX6_begin 5 = .ok (.aload_n 0, 1) := by decide +kernel
theorem dX6_begin_6 : decode cX6_begin 6 = .ok (.iconst 0, 1) := by decide +kernel
theorem dX6_begin_7 : decode cX6_begin 7 = .ok (.putfield 13, 3) := by decide +kernel
theorem dX6_begin_10 : decode cX6_begin 10 = .ok (.aload_n 0, 1) := by decide +kernel
theorem dX6_begin_11 : decode cX6_begin 11 = .ok (.iconst 0, 1) := by decide +kernel
theorem dX6_begin_12 : decode cX6_begin 12 = .ok (.putfield 16, 3) := by decide +kernel
theorem dX6_begin_15 : decode cX6_begin 15 = .ok (.return_, 1) := by decide +kernel
theorem dX6_serve_0 : decode cX6_serve 0 = .ok (.aload_n 1, 1) := by decide +kernel
theorem dX6_serve_1 : decode cX6_serve 1 = .ok (.getfield 19, 3) := by decide +kernel
theorem dX6_serve_4 : decode cX6_serve 4 = .ok (.iload_n 2, 1) := by decide +kernel
theorem dX6_serve_5 : decode cX6_serve 5 = .ok (.iaload, 1) := by decide +kernel
theorem dX6_serve_6 : decode cX6_serve 6 = .ok (.istore 4, 2) := by decide +kernel
theorem dX6_serve_8 : decode cX6_serve 8 = .ok (.iload 4, 2) := by decide +kernel
theorem dX6_serve_10 : decode cX6_serve 10 = .ok (.aload_n 1, 1) := by decide +kernel
theorem dX6_serve_11 : decode cX6_serve 11 = .ok (.getfield 19, 3) := by decide +kernel
theorem dX6_serve_14 : decode cX6_serve 14 = .ok (.iload_n 3, 1) := by decide +kernel
theorem dX6_serve_15 : decode cX6_serve 15 = .ok (.iaload, 1) := by decide +kernel
theorem dX6_serve_16 : decode cX6_serve 16 = .ok (.if_icmp .ge 90, 3) := by decide +kernel
theorem dX6_serve_19 : decode cX6_serve 19 = .ok (.aload_n 1, 1) := by decide +kernel
theorem dX6_serve_20 : decode cX6_serve 20 = .ok (.getfield 25, 3) := by decide +kernel
theorem dX6_serve_23 : decode cX6_serve 23 = .ok (.iload 4, 2) := by decide +kernel
theorem dX6_serve_25 : decode cX6_serve 25 = .ok (.iaload, 1) := by decide +kernel
theorem dX6_serve_26 : decode cX6_serve 26 = .ok (.istore 5, 2) := by decide +kernel
theorem dX6_serve_28 : decode cX6_serve 28 = .ok (.iconst 1, 1) := by decide +kernel
theorem dX6_serve_29 : decode cX6_serve 29 = .ok (.aload_n 1, 1) := by decide +kernel
theorem dX6_serve_30 : decode cX6_serve 30 = .ok (.getfield 28, 3) := by decide +kernel
theorem dX6_serve_33 : decode cX6_serve 33 = .ok (.iload 5, 2) := by decide +kernel
theorem dX6_serve_35 : decode cX6_serve 35 = .ok (.iaload, 1) := by decide +kernel
theorem dX6_serve_36 : decode cX6_serve 36 = .ok (.ishl, 1) := by decide +kernel
theorem dX6_serve_37 : decode cX6_serve 37 = .ok (.istore 6, 2) := by decide +kernel
theorem dX6_serve_39 : decode cX6_serve 39 = .ok (.aload_n 0, 1) := by decide +kernel
theorem dX6_serve_40 : decode cX6_serve 40 = .ok (.getfield 7, 3) := by decide +kernel
theorem dX6_serve_43 : decode cX6_serve 43 = .ok (.iload 6, 2) := by decide +kernel
theorem dX6_serve_45 : decode cX6_serve 45 = .ok (.iand, 1) := by decide +kernel
theorem dX6_serve_46 : decode cX6_serve 46 = .ok (.ifCond .eq 54, 3) := by decide +kernel
theorem dX6_serve_49 : decode cX6_serve 49 = .ok (.aload_n 0, 1) := by decide +kernel
theorem dX6_serve_50 : decode cX6_serve 50 = .ok (.dup, 1) := by decide +kernel
theorem dX6_serve_51 : decode cX6_serve 51 = .ok (.getfield 13, 3) := by decide +kernel
theorem dX6_serve_54 : decode cX6_serve 54 = .ok (.aload_n 1, 1) := by decide +kernel
theorem dX6_serve_55 : decode cX6_serve 55 = .ok (.getfield 31, 3) := by decide +kernel
theorem dX6_serve_58 : decode cX6_serve 58 = .ok (.iload 5, 2) := by decide +kernel
theorem dX6_serve_60 : decode cX6_serve 60 = .ok (.iaload, 1) := by decide +kernel
theorem dX6_serve_61 : decode cX6_serve 61 = .ok (.iadd, 1) := by decide +kernel
theorem dX6_serve_62 : decode cX6_serve 62 = .ok (.putfield 13, 3) := by decide +kernel
theorem dX6_serve_65 : decode cX6_serve 65 = .ok (.aload_n 0, 1) := by decide +kernel
theorem dX6_serve_66 : decode cX6_serve 66 = .ok (.dup, 1) := by decide +kernel
theorem dX6_serve_67 : decode cX6_serve 67 = .ok (.getfield 16, 3) := by decide +kernel
theorem dX6_serve_70 : decode cX6_serve 70 = .ok (.iconst 1, 1) := by decide +kernel
theorem dX6_serve_71 : decode cX6_serve 71 = .ok (.iadd, 1) := by decide +kernel
theorem dX6_serve_72 : decode cX6_serve 72 = .ok (.putfield 16, 3) := by decide +kernel
theorem dX6_serve_75 : decode cX6_serve 75 = .ok (.aload_n 1, 1) := by decide +kernel
theorem dX6_serve_76 : decode cX6_serve 76 = .ok (.getfield 34, 3) := by decide +kernel
theorem dX6_serve_79 : decode cX6_serve 79 = .ok (.iload 5, 2) := by decide +kernel
theorem dX6_serve_81 : decode cX6_serve 81 = .ok (.ishr, 1) := by decide +kernel
theorem dX6_serve_82 : decode cX6_serve 82 = .ok (.iconst 1, 1) := by decide +kernel
theorem dX6_serve_83 : decode cX6_serve 83 = .ok (.iand, 1) := by decide +kernel
theorem dX6_serve_84 : decode cX6_serve 84 = .ok (.ifCond .eq 16, 3) := by decide +kernel
theorem dX6_serve_87 : decode cX6_serve 87 = .ok (.aload_n 0, 1) := by decide +kernel
theorem dX6_serve_88 : decode cX6_serve 88 = .ok (.dup, 1) := by decide +kernel
theorem dX6_serve_89 : decode cX6_serve 89 = .ok (.getfield 7, 3) := by decide +kernel
theorem dX6_serve_92 : decode cX6_serve 92 = .ok (.iload 6, 2) := by decide +kernel
theorem dX6_serve_94 : decode cX6_serve 94 = .ok (.iconst (-1), 1) := by decide +kernel
theorem dX6_serve_95 : decode cX6_serve 95 = .ok (.ixor, 1) := by decide +kernel
theorem dX6_serve_96 : decode cX6_serve 96 = .ok (.iand, 1) := by decide +kernel
theorem dX6_serve_97 : decode cX6_serve 97 = .ok (.putfield 7, 3) := by decide +kernel
theorem dX6_serve_100 : decode cX6_serve 100 = .ok (.iinc 4 1, 3) := by decide +kernel
theorem dX6_serve_103 : decode cX6_serve 103 = .ok (.goto (-95), 3) := by decide +kernel
theorem dX6_serve_106 : decode cX6_serve 106 = .ok (.return_, 1) := by decide +kernel
theorem dX7_init_0 : decode cX7_init 0 = .ok (.aload_n 0, 1) := by decide +kernel
theorem dX7_init_1 : decode cX7_init 1 = .ok (.invokespecial 3, 3) := by decide +kernel
theorem dX7_init_4 : decode cX7_init 4 = .ok (.aload_n 0, 1) := by decide +kernel
theorem dX7_init_5 : decode cX7_init 5 = .ok (.bipush 8, 2) := by decide +kernel
theorem dX7_init_7 : decode cX7_init 7 = .ok (.newarray .int, 2) := by decide +kernel
theorem dX7_init_9 : decode cX7_init 9 = .ok (.putfield 9, 3) := by decide +kernel
theorem dX7_init_12 : decode cX7_init 12 = .ok (.return_, 1) := by decide +kernel
theorem dX7_reckon_0 : decode cX7_reckon 0 = .ok (.aload_n 0, 1) := by decide +kernel
theorem dX7_reckon_1 : decode cX7_reckon 1 = .ok (.aload_n 1, 1) := by decide +kernel
theorem dX7_reckon_2 : decode cX7_reckon 2 = .ok (.putfield 15, 3) := by decide +kernel
theorem dX7_reckon_5 : decode cX7_reckon 5 = .ok (.iconst 0, 1) := by decide +kernel
theorem dX7_reckon_6 : decode cX7_reckon 6 = .ok (.istore_n 3, 1) := by decide +kernel
theorem dX7_reckon_7 : decode cX7_reckon 7 = .ok (.iload_n 3, 1) := by decide +kernel
theorem dX7_reckon_8 : decode cX7_reckon 8 = .ok (.aload_n 0, 1) := by decide +kernel
theorem dX7_reckon_9 : decode cX7_reckon 9 = .ok (.getfield 9, 3) := by decide +kernel
theorem dX7_reckon_12 : decode cX7_reckon 12 = .ok (.arraylength, 1) := by decide +kernel
theorem dX7_reckon_13 : decode cX7_reckon 13 = .ok (.if_icmp .ge 29, 3) := by decide +kernel
theorem dX7_reckon_16 : decode cX7_reckon 16 = .ok (.aload_n 0, 1) := by decide +kernel
theorem dX7_reckon_17 : decode cX7_reckon 17 = .ok (.getfield 9, 3) := by decide +kernel
theorem dX7_reckon_20 : decode cX7_reckon 20 = .ok (.iload_n 3, 1) := by decide +kernel
theorem dX7_reckon_21 : decode cX7_reckon 21 = .ok (.iload_n 2, 1) := by decide +kernel
theorem dX7_reckon_22 : decode cX7_reckon 22 = .ok (.iload_n 3, 1) := by decide +kernel
theorem dX7_reckon_23 : decode cX7_reckon 23 = .ok (.ishr, 1) := by decide +kernel
theorem dX7_reckon_24 : decode cX7_reckon 24 = .ok (.iconst 1, 1) := by decide +kernel
theorem dX7_reckon_25 : decode cX7_reckon 25 = .ok (.iand, 1) := by decide +kernel
theorem dX7_reckon_26 : decode cX7_reckon 26 = .ok (.ifCond .eq 7, 3) := by decide +kernel
theorem dX7_reckon_29 : decode cX7_reckon 29 = .ok (.iconst 0, 1) := by decide +kernel
theorem dX7_reckon_30 : decode cX7_reckon 30 = .ok (.goto 5, 3) := by decide +kernel
theorem dX7_reckon_33 : decode cX7_reckon 33 = .ok (.ldc 19, 2) := by decide +kernel
theorem dX7_reckon_35 : decode cX7_reckon 35 = .ok (.iastore, 1) := by decide +kernel
theorem dX7_reckon_36 : decode cX7_reckon 36 = .ok (.iinc 3 1, 3) := by decide +kernel
theorem dX7_reckon_39 : decode cX7_reckon 39 = .ok (.goto (-32), 3) := by decide +kernel
theorem dX7_reckon_42 : decode cX7_reckon 42 = .ok (.iconst 0, 1) := by decide +kernel
theorem dX7_reckon_43 : decode cX7_reckon 43 = .ok (.istore_n 3, 1) := by decide +kernel
theorem dX7_reckon_44 : decode cX7_reckon 44 = .ok (.iload_n 3, 1) := by decide +kernel
theorem dX7_reckon_45 : decode cX7_reckon 45 = .ok (.aload_n 0, 1) := by decide +kernel
theorem dX7_reckon_46 : decode cX7_reckon 46 = .ok (.getfield 15, 3) := by decide +kernel
theorem dX7_reckon_49 : decode cX7_reckon 49 = .ok (.getfield 20, 3) := by decide +kernel
theorem dX7_reckon_52 : decode cX7_reckon 52 = .ok (.getfield 26, 3) := by decide +kernel
theorem dX7_reckon_55 : decode cX7_reckon 55 = .ok (.if_icmp .ge 68, 3) := by decide +kernel
theorem dX7_reckon_58 : decode cX7_reckon 58 = .ok (.iconst 0, 1) := by decide +kernel
theorem dX7_reckon_59 : decode cX7_reckon 59 = .ok (.istore 4, 2) := by decide +kernel
theorem dX7_reckon_61 : decode cX7_reckon 61 = .ok (.iload 4, 2) := by decide +kernel
theorem dX7_reckon_63 : decode cX7_reckon 63 = .ok (.aload_n 0, 1) := by decide +kernel
theorem dX7_reckon_64 : decode cX7_reckon 64 = .ok (.getfield 15, 3) := by decide +kernel
theorem dX7_reckon_67 : decode cX7_reckon 67 = .ok (.getfield 32, 3) := by decide +kernel
theorem dX7_reckon_70 : decode cX7_reckon 70 = .ok (.getfield 26, 3) := by decide +kernel
theorem dX7_reckon_73 : decode cX7_reckon 73 = .ok (.if_icmp .ge 44, 3) := by decide +kernel
theorem dX7_reckon_76 : decode cX7_reckon 76 = .ok (.aload_n 0, 1) := by decide +kernel
theorem dX7_reckon_77 : decode cX7_reckon 77 = .ok (.getfield 15, 3) := by decide +kernel
theorem dX7_reckon_80 : decode cX7_reckon 80 = .ok (.getfield 35, 3) := by decide +kernel
theorem dX7_reckon_83 : decode cX7_reckon 83 = .ok (.iload 4, 2) := by decide +kernel
theorem dX7_reckon_85 : decode cX7_reckon 85 = .ok (.iaload, 1) := by decide +kernel
theorem dX7_reckon_86 : decode cX7_reckon 86 = .ok (.istore 5, 2) := by decide +kernel
theorem dX7_reckon_88 : decode cX7_reckon 88 = .ok (.aload_n 0, 1) := by decide +kernel
theorem dX7_reckon_89 : decode cX7_reckon 89 = .ok (.getfield 9, 3) := by decide +kernel
theorem dX7_reckon_92 : decode cX7_reckon 92 = .ok (.iload 5, 2) := by decide +kernel
theorem dX7_reckon_94 : decode cX7_reckon 94 = .ok (.aload_n 0, 1) := by decide +kernel
theorem dX7_reckon_95 : decode cX7_reckon 95 = .ok (.getfield 9, 3) := by decide +kernel
theorem dX7_reckon_98 : decode cX7_reckon 98 = .ok (.iload 5, 2) := by decide +kernel
theorem dX7_reckon_100 : decode cX7_reckon 100 = .ok (.iaload, 1) := by decide +kernel
theorem dX7_reckon_101 : decode cX7_reckon 101 = .ok (.aload_n 0, 1) := by decide +kernel
theorem dX7_reckon_102 : decode cX7_reckon 102 = .ok (.iload 4, 2) := by decide +kernel
theorem dX7_reckon_104 : decode cX7_reckon 104 = .ok (.invokevirtual 38, 3) := by decide +kernel
theorem dX7_reckon_107 : decode cX7_reckon 107 = .ok (.invokestatic 42, 3) := by decide +kernel
theorem dX7_reckon_110 : decode cX7_reckon 110 = .ok (.iastore, 1) := by decide +kernel
theorem dX7_reckon_111 : decode cX7_reckon 111 = .ok (.iinc 4 1, 3) := by decide +kernel
theorem dX7_reckon_114 : decode cX7_reckon 114 = .ok (.goto (-53), 3) := by decide +kernel
theorem dX7_reckon_117 : decode cX7_reckon 117 = .ok (.iinc 3 1, 3) := by decide +kernel
theorem dX7_reckon_120 : decode cX7_reckon 120 = .ok (.goto (-76), 3) := by decide +kernel
theorem dX7_reckon_123 : decode cX7_reckon 123 = .ok (.return_, 1) := by decide +kernel
theorem dX7_timeBy_0 : decode cX7_timeBy 0 = .ok (.iconst 0, 1) := by decide +kernel
theorem dX7_timeBy_1 : decode cX7_timeBy 1 = .ok (.istore_n 2, 1) := by decide +kernel
theorem dX7_timeBy_2 : decode cX7_timeBy 2 = .ok (.iconst 0, 1) := by decide +kernel
theorem dX7_timeBy_3 : decode cX7_timeBy 3 = .ok (.istore_n 3, 1) := by decide +kernel
theorem dX7_timeBy_4 : decode cX7_timeBy 4 = .ok (.iload_n 3, 1) := by decide +kernel
theorem dX7_timeBy_5 : decode cX7_timeBy 5 = .ok (.aload_n 0, 1) := by decide +kernel
theorem dX7_timeBy_6 : decode cX7_timeBy 6 = .ok (.getfield 15, 3) := by decide +kernel
theorem dX7_timeBy_9 : decode cX7_timeBy 9 = .ok (.getfield 20, 3) := by decide +kernel
theorem dX7_timeBy_12 : decode cX7_timeBy 12 = .ok (.getfield 26, 3) := by decide +kernel
theorem dX7_timeBy_15 : decode cX7_timeBy 15 = .ok (.if_icmp .ge 35, 3) := by decide +kernel
theorem dX7_timeBy_18 : decode cX7_timeBy 18 = .ok (.aload_n 0, 1) := by decide +kernel
theorem dX7_timeBy_19 : decode cX7_timeBy 19 = .ok (.getfield 15, 3) := by decide +kernel
theorem dX7_timeBy_22 : decode cX7_timeBy 22 = .ok (.iload_n 1, 1) := by decide +kernel
theorem dX7_timeBy_23 : decode cX7_timeBy 23 = .ok (.invokevirtual 48, 3) := by decide +kernel
theorem dX7_timeBy_26 : decode cX7_timeBy 26 = .ok (.iload_n 3, 1) := by decide +kernel
theorem dX7_timeBy_27 : decode cX7_timeBy 27 = .ok (.ishr, 1) := by decide +kernel
theorem dX7_timeBy_28 : decode cX7_timeBy 28 = .ok (.iconst 1, 1) := by decide +kernel
theorem dX7_timeBy_29 : decode cX7_timeBy 29 = .ok (.iand, 1) := by decide +kernel
theorem dX7_timeBy_30 : decode cX7_timeBy 30 = .ok (.ifCond .eq 14, 3) := by decide +kernel
theorem dX7_timeBy_33 : decode cX7_timeBy 33 = .ok (.iload_n 2, 1) := by decide +kernel
theorem dX7_timeBy_34 : decode cX7_timeBy 34 = .ok (.aload_n 0, 1) := by decide +kernel
theorem dX7_timeBy_35 : decode cX7_timeBy 35 = .ok (.getfield 9, 3) := by decide +kernel
theorem dX7_timeBy_38 : decode cX7_timeBy 38 = .ok (.iload_n 3, 1) := by decide +kernel
theorem dX7_timeBy_39 : decode cX7_timeBy 39 = .ok (.iaload, 1) := by decide +kernel
theorem dX7_timeBy_40 : decode cX7_timeBy 40 = .ok (.invokestatic 51, 3) := by decide +kernel
theorem dX7_timeBy_43 : decode cX7_timeBy 43 = .ok (.istore_n 2, 1) := by decide +kernel
theorem dX7_timeBy_44 : decode cX7_timeBy 44 = .ok (.iinc 3 1, 3) := by decide +kernel
theorem dX7_timeBy_47 : decode cX7_timeBy 47 = .ok (.goto (-43), 3) := by decide +kernel
theorem dX7_timeBy_50 : decode cX7_timeBy 50 = .ok (.ldc 19, 2) := by decide +kernel
theorem dX7_timeBy_52 : decode cX7_timeBy 52 = .ok (.iload_n 2, 1) := by decide +kernel
theorem dX7_timeBy_53 : decode cX7_timeBy 53 = .ok (.aload_n 0, 1) := by decide +kernel
theorem dX7_timeBy_54 : decode cX7_timeBy 54 = .ok (.getfield 15, 3) := by decide +kernel
theorem dX7_timeBy_57 : decode cX7_timeBy 57 = .ok (.getfield 54, 3) := by decide +kernel
theorem dX7_timeBy_60 : decode cX7_timeBy 60 = .ok (.iload_n 1, 1) := by decide +kernel
theorem dX7_timeBy_61 : decode cX7_timeBy 61 = .ok (.iaload, 1) := by decide +kernel
theorem dX7_timeBy_62 : decode cX7_timeBy 62 = .ok (.iadd, 1) := by decide +kernel
theorem dX7_timeBy_63 : decode cX7_timeBy 63 = .ok (.invokestatic 42, 3) := by decide +kernel
theorem dX7_timeBy_66 : decode cX7_timeBy 66 = .ok (.ireturn, 1) := by decide +kernel
theorem dX7_firstMaking_0 : decode cX7_firstMaking 0 = .ok (.iconst 0, 1) := by decide +kernel
theorem dX7_firstMaking_1 : decode cX7_firstMaking 1 = .ok (.istore_n 2, 1) := by decide +kernel
theorem dX7_firstMaking_2 : decode cX7_firstMaking 2 = .ok (.iload_n 2, 1) := by decide +kernel
theorem dX7_firstMaking_3 : decode cX7_firstMaking 3 = .ok (.aload_n 0, 1) := by decide +kernel
theorem dX7_firstMaking_4 : decode cX7_firstMaking 4 = .ok (.getfield 15, 3) := by decide +kernel
theorem dX7_firstMaking_7 : decode cX7_firstMaking 7 = .ok (.getfield 32, 3) := by decide +kernel
theorem dX7_firstMaking_10 : decode cX7_firstMaking 10 = .ok (.getfield 26, 3) := by decide +kernel
theorem dX7_firstMaking_13 : decode cX7_firstMaking 13 = .ok (.if_icmp .ge 49, 3) := by decide +kernel
theorem dX7_firstMaking_16 : decode cX7_firstMaking 16 = .ok (.aload_n 0, 1) := by decide +kernel
theorem dX7_firstMaking_17 : decode cX7_firstMaking 17 = .ok (.getfield 15, 3) := by decide +kernel
theorem dX7_firstMaking_20 : decode cX7_firstMaking 20 = .ok (.getfield 35, 3) := by decide +kernel
theorem dX7_firstMaking_23 : decode cX7_firstMaking 23 = .ok (.iload_n 2, 1) := by decide +kernel
theorem dX7_firstMaking_24 : decode cX7_firstMaking 24 = .ok (.iaload, 1) := by decide +kernel
theorem dX7_firstMaking_25 : decode cX7_firstMaking 25 = .ok (.iload_n 1, 1) := by decide +kernel
theorem dX7_firstMaking_26 : decode cX7_firstMaking 26 = .ok (.if_icmp .ne 30, 3) := by decide +kernel
theorem dX7_firstMaking_29 : decode cX7_firstMaking 29 = .ok (.aload_n 0, 1) := by decide +kernel
theorem dX7_firstMaking_30 : decode cX7_firstMaking 30 = .ok (.getfield 9, 3) := by decide +kernel
theorem dX7_firstMaking_33 : decode cX7_firstMaking 33 = .ok (.iload_n 1, 1) := by decide +kernel
theorem dX7_firstMaking_34 : decode cX7_firstMaking 34 = .ok (.iaload, 1) := by decide +kernel
theorem dX7_firstMaking_35 : decode cX7_firstMaking 35 = .ok (.ldc 19, 2) := by decide +kernel
theorem dX7_firstMaking_37 : decode cX7_firstMaking 37 = .ok (.if_icmp .ge 19, 3) := by decide +kernel
theorem dX7_firstMaking_40 : decode cX7_firstMaking 40 = .ok (.aload_n 0, 1) := by decide +kernel
theorem dX7_firstMaking_41 : decode cX7_firstMaking 41 = .ok (.iload_n 2, 1) := by decide +kernel
theorem dX7_firstMaking_42 : decode cX7_firstMaking 42 = .ok (.invokevirtual 38, 3) := by decide +kernel
theorem dX7_firstMaking_45 : decode cX7_firstMaking 45 = .ok (.aload_n 0, 1) := by decide +kernel
theorem dX7_firstMaking_46 : decode cX7_firstMaking 46 = .ok (.getfield 9, 3) := by decide +kernel
theorem dX7_firstMaking_49 : decode cX7_firstMaking 49 = .ok (.iload_n 1, 1) := by decide +kernel
theorem dX7_firstMaking_50 : decode cX7_firstMaking 50 = .ok (.iaload, 1) := by decide +kernel
theorem dX7_firstMaking_51 : decode cX7_firstMaking 51 = .ok (.if_icmp .ne 5, 3) := by decide +kernel
theorem dX7_firstMaking_54 : decode cX7_firstMaking 54 = .ok (.iload_n 2, 1) := by decide +kernel
theorem dX7_firstMaking_55 : decode cX7_firstMaking 55 = .ok (.ireturn, 1) := by decide +kernel
theorem dX7_firstMaking_56 : decode cX7_firstMaking 56 = .ok (.iinc 2 1, 3) := by decide +kernel
theorem dX7_firstMaking_59 : decode cX7_firstMaking 59 = .ok (.goto (-57), 3) := by decide +kernel
theorem dX7_firstMaking_62 : decode cX7_firstMaking 62 = .ok (.iconst (-1), 1) := by decide +kernel
theorem dX7_firstMaking_63 : decode cX7_firstMaking 63 = .ok (.ireturn, 1) := by decide +kernel
theorem dX7_lastNeed_0 : decode cX7_lastNeed 0 = .ok (.iconst (-1), 1) := by decide +kernel
theorem dX7_lastNeed_1 : decode cX7_lastNeed 1 = .ok (.istore_n 2, 1) := by decide +kernel
theorem dX7_lastNeed_2 : decode cX7_lastNeed 2 = .ok (.iconst 0, 1) := by decide +kernel
theorem dX7_lastNeed_3 : decode cX7_lastNeed 3 = .ok (.istore_n 3, 1) := by decide +kernel
theorem dX7_lastNeed_4 : decode cX7_lastNeed 4 = .ok (.iload_n 3, 1) := by decide +kernel
theorem dX7_lastNeed_5 : decode cX7_lastNeed 5 = .ok (.aload_n 0, 1) := by decide +kernel
theorem dX7_lastNeed_6 : decode cX7_lastNeed 6 = .ok (.getfield 15, 3) := by decide +kernel
theorem dX7_lastNeed_9 : decode cX7_lastNeed 9 = .ok (.getfield 20, 3) := by decide +kernel
theorem dX7_lastNeed_12 : decode cX7_lastNeed 12 = .ok (.getfield 26, 3) := by decide +kernel
theorem dX7_lastNeed_15 : decode cX7_lastNeed 15 = .ok (.if_icmp .ge 58, 3) := by decide +kernel
theorem dX7_lastNeed_18 : decode cX7_lastNeed 18 = .ok (.aload_n 0, 1) := by decide +kernel
theorem dX7_lastNeed_19 : decode cX7_lastNeed 19 = .ok (.getfield 15, 3) := by decide +kernel
theorem dX7_lastNeed_22 : decode cX7_lastNeed 22 = .ok (.iload_n 1, 1) := by decide +kernel
theorem dX7_lastNeed_23 : decode cX7_lastNeed 23 = .ok (.invokevirtual 48, 3) := by decide +kernel
theorem dX7_lastNeed_26 : decode cX7_lastNeed 26 = .ok (.iload_n 3, 1) := by decide +kernel
theorem dX7_lastNeed_27 : decode cX7_lastNeed 27 = .ok (.ishr, 1) := by decide +kernel
theorem dX7_lastNeed_28 : decode cX7_lastNeed 28 = .ok (.iconst 1, 1) := by decide +kernel
theorem dX7_lastNeed_29 : decode cX7_lastNeed 29 = .ok (.iand, 1) := by decide +kernel
theorem dX7_lastNeed_30 : decode cX7_lastNeed 30 = .ok (.ifCond .eq 7, 3) := by decide +kernel
theorem dX7_lastNeed_33 : decode cX7_lastNeed 33 = .ok (.iconst 1, 1) := by decide +kernel
theorem dX7_lastNeed_34 : decode cX7_lastNeed 34 = .ok (.goto 4, 3) := by decide +kernel
theorem dX7_lastNeed_37 : decode cX7_lastNeed 37 = .ok (.iconst 0, 1) := by decide +kernel
theorem dX7_lastNeed_38 : decode cX7_lastNeed 38 = .ok (.istore 4, 2) := by decide +kernel
theorem dX7_lastNeed_40 : decode cX7_lastNeed 40 = .ok (.iload 4, 2) := by decide +kernel
theorem dX7_lastNeed_42 : decode cX7_lastNeed 42 = .ok (.ifCond .eq 25, 3) := by decide +kernel
theorem dX7_lastNeed_45 : decode cX7_lastNeed 45 = .ok (.iload_n 2, 1) := by decide +kernel
theorem dX7_lastNeed_46 : decode cX7_lastNeed 46 = .ok (.iconst (-1), 1) := by decide +kernel
theorem dX7_lastNeed_47 : decode cX7_lastNeed 47 = .ok (.if_icmp .eq 18, 3) := by decide +kernel
theorem dX7_lastNeed_50 : decode cX7_lastNeed 50 = .ok (.aload_n 0, 1) := by decide +kernel
theorem dX7_lastNeed_51 : decode cX7_lastNeed 51 = .ok (.getfield 9, 3) := by decide +kernel
theorem dX7_lastNeed_54 : decode cX7_lastNeed 54 = .ok (.iload_n 3, 1) := by decide +kernel
theorem dX7_lastNeed_55 : decode cX7_lastNeed 55 = .ok (.iaload, 1) := by decide +kernel
theorem dX7_lastNeed_56 : decode cX7_lastNeed 56 = .ok (.aload_n 0, 1) := by decide +kernel
theorem dX7_lastNeed_57 : decode cX7_lastNeed 57 = .ok (.getfield 9, 3) := by decide +kernel
theorem dX7_lastNeed_60 : decode cX7_lastNeed 60 = .ok (.iload_n 2, 1) := by decide +kernel
theorem dX7_lastNeed_61 : decode cX7_lastNeed 61 = .ok (.iaload, 1) := by decide +kernel
theorem dX7_lastNeed_62 : decode cX7_lastNeed 62 = .ok (.if_icmp .le 5, 3) := by decide +kernel
theorem dX7_lastNeed_65 : decode cX7_lastNeed 65 = .ok (.iload_n 3, 1) := by decide +kernel
theorem dX7_lastNeed_66 : decode cX7_lastNeed 66 = .ok (.istore_n 2, 1) := by decide +kernel
theorem dX7_lastNeed_67 : decode cX7_lastNeed 67 = .ok (.iinc 3 1, 3) := by decide +kernel
theorem dX7_lastNeed_70 : decode cX7_lastNeed 70 = .ok (.goto (-66), 3) := by decide +kernel
theorem dX7_lastNeed_73 : decode cX7_lastNeed 73 = .ok (.iload_n 2, 1) := by decide +kernel
theorem dX7_lastNeed_74 : decode cX7_lastNeed 74 = .ok (.ireturn, 1) := by decide +kernel
theorem dX7_fewestHands_0 : decode cX7_fewestHands 0 = .ok (.iconst 0, 1) := by decide +kernel
theorem dX7_fewestHands_1 : decode cX7_fewestHands 1 = .ok (.istore_n 2, 1) := by decide +kernel
theorem dX7_fewestHands_2 : decode cX7_fewestHands 2 = .ok (.iconst 0, 1) := by decide +kernel
theorem dX7_fewestHands_3 : decode cX7_fewestHands 3 = .ok (.istore_n 3, 1) := by decide +kernel
theorem dX7_fewestHands_4 : decode cX7_fewestHands 4 = .ok (.aload_n 0, 1) := by decide +kernel
theorem dX7_fewestHands_5 : decode cX7_fewestHands 5 = .ok (.iload_n 1, 1) := by decide +kernel
theorem dX7_fewestHands_6 : decode cX7_fewestHands 6 = .ok (.invokevirtual 57, 3) := by decide +kernel
theorem dX7_fewestHands_9 : decode cX7_fewestHands 9 = .ok (.istore 4, 2) := by decide +kernel
theorem dX7_fewestHands_11 : decode cX7_fewestHands 11 = .ok (.iconst 0, 1) := by decide +kernel
theorem dX7_fewestHands_12 : decode cX7_fewestHands 12 = .ok (.istore 5, 2) := by decide +kernel
theorem dX7_fewestHands_14 : decode cX7_fewestHands 14 = .ok (.iload 5, 2) := by decide +kernel
theorem dX7_fewestHands_16 : decode cX7_fewestHands 16 = .ok (.aload_n 0, 1) := by decide +kernel
theorem dX7_fewestHands_17 : decode cX7_fewestHands 17 = .ok (.getfield 15, 3) := by decide +kernel
theorem dX7_fewestHands_20 : decode cX7_fewestHands 20 = .ok (.getfield 20, 3) := by decide +kernel
theorem dX7_fewestHands_23 : decode cX7_fewestHands 23 = .ok (.getfield 26, 3) := by decide +kernel
theorem dX7_fewestHands_26 : decode cX7_fewestHands 26 = .ok (.if_icmp .ge 86, 3) := by decide +kernel
theorem dX7_fewestHands_29 : decode cX7_fewestHands 29 = .ok (.iload 4, 2) := by decide +kernel
theorem dX7_fewestHands_31 : decode cX7_fewestHands 31 = .ok (.iload 5, 2) := by decide +kernel
theorem dX7_fewestHands_33 : decode cX7_fewestHands 33 = .ok (.ishr, 1) := by decide +kernel
theorem dX7_fewestHands_34 : decode cX7_fewestHands 34 = .ok (.iconst 1, 1) := by decide +kernel
theorem dX7_fewestHands_35 : decode cX7_fewestHands 35 = .ok (.iand, 1) := by decide +kernel
theorem dX7_fewestHands_36 : decode cX7_fewestHands 36 = .ok (.ifCond .eq 70, 3) := by decide +kernel
theorem dX7_fewestHands_39 : decode cX7_fewestHands 39 = .ok (.aload_n 0, 1) := by decide +kernel
theorem dX7_fewestHands_40 : decode cX7_fewestHands 40 = .ok (.iload 5, 2) := by decide +kernel
theorem dX7_fewestHands_42 : decode cX7_fewestHands 42 = .ok (.invokevirtual 60, 3) := by decide +kernel
theorem dX7_fewestHands_45 : decode cX7_fewestHands 45 = .ok (.istore 6, 2) := by decide +kernel
theorem dX7_fewestHands_47 : decode cX7_fewestHands 47 = .ok (.iload 6, 2) := by decide +kernel
theorem dX7_fewestHands_49 : decode cX7_fewestHands 49 = .ok (.iconst (-1), 1) := by decide +kernel
theorem dX7_fewestHands_50 : decode cX7_fewestHands 50 = .ok (.if_icmp .eq 15, 3) := by decide +kernel
theorem dX7_fewestHands_53 : decode cX7_fewestHands 53 = .ok (.aload_n 0, 1) := by decide +kernel
theorem dX7_fewestHands_54 : decode cX7_fewestHands 54 = .ok (.getfield 9, 3) := by decide +kernel
theorem dX7_fewestHands_57 : decode cX7_fewestHands 57 = .ok (.iload 5, 2) := by decide +kernel
theorem dX7_fewestHands_59 : decode cX7_fewestHands 59 = .ok (.iaload, 1) := by decide +kernel
theorem dX7_fewestHands_60 : decode cX7_fewestHands 60 = .ok (.bipush 24, 2) := by decide +kernel
theorem dX7_fewestHands_62 : decode cX7_fewestHands 62 = .ok (.if_icmp .le 5, 3) := by decide +kernel
theorem dX7_fewestHands_65 : decode cX7_fewestHands 65 = .ok (.iconst (-1), 1) := by decide +kernel
theorem dX7_fewestHands_66 : decode cX7_fewestHands 66 = .ok (.ireturn, 1) := by decide +kernel
theorem dX7_fewestHands_67 : decode cX7_fewestHands 67 = .ok (.iload_n 3, 1) := by decide +kernel
theorem dX7_fewestHands_68 : decode cX7_fewestHands 68 = .ok (.aload_n 0, 1) := by decide +kernel
theorem dX7_fewestHands_69 : decode cX7_fewestHands 69 = .ok (.getfield 15, 3) := by decide +kernel
theorem dX7_fewestHands_72 : decode cX7_fewestHands 72 = .ok (.getfield 54, 3) := by decide +kernel
theorem dX7_fewestHands_75 : decode cX7_fewestHands 75 = .ok (.iload 6, 2) := by decide +kernel
theorem dX7_fewestHands_77 : decode cX7_fewestHands 77 = .ok (.iaload, 1) := by decide +kernel
theorem dX7_fewestHands_78 : decode cX7_fewestHands 78 = .ok (.aload_n 0, 1) := by decide +kernel
theorem dX7_fewestHands_79 : decode cX7_fewestHands 79 = .ok (.getfield 15, 3) := by decide +kernel
theorem dX7_fewestHands_82 : decode cX7_fewestHands 82 = .ok (.getfield 63, 3) := by decide +kernel
theorem dX7_fewestHands_85 : decode cX7_fewestHands 85 = .ok (.iload 6, 2) := by decide +kernel
theorem dX7_fewestHands_87 : decode cX7_fewestHands 87 = .ok (.iaload, 1) := by decide +kernel
theorem dX7_fewestHands_88 : decode cX7_fewestHands 88 = .ok (.imul, 1) := by decide +kernel
theorem dX7_fewestHands_89 : decode cX7_fewestHands 89 = .ok (.iadd, 1) := by decide +kernel
theorem dX7_fewestHands_90 : decode cX7_fewestHands 90 = .ok (.istore_n 3, 1) := by decide +kernel
theorem dX7_fewestHands_91 : decode cX7_fewestHands 91 = .ok (.iload_n 2, 1) := by decide +kernel
theorem dX7_fewestHands_92 : decode cX7_fewestHands 92 = .ok (.aload_n 0, 1) := by decide +kernel
theorem dX7_fewestHands_93 : decode cX7_fewestHands 93 = .ok (.getfield 15, 3) := by decide +kernel
theorem dX7_fewestHands_96 : decode cX7_fewestHands 96 = .ok (.getfield 63, 3) := by decide +kernel
theorem dX7_fewestHands_99 : decode cX7_fewestHands 99 = .ok (.iload 6, 2) := by decide +kernel
theorem dX7_fewestHands_101 : decode cX7_fewestHands 101 = .ok (.iaload, 1) := by decide +kernel
theorem dX7_fewestHands_102 : decode cX7_fewestHands 102 = .ok (.invokestatic 51, 3) := by decide +kernel
theorem dX7_fewestHands_105 : decode cX7_fewestHands 105 = .ok (.istore_n 2, 1) := by decide +kernel
theorem dX7_fewestHands_106 : decode cX7_fewestHands 106 = .ok (.iinc 5 1, 3) := by decide +kernel
theorem dX7_fewestHands_109 : decode cX7_fewestHands 109 = .ok (.goto (-95), 3) := by decide +kernel
theorem dX7_fewestHands_112 : decode cX7_fewestHands 112 = .ok (.iload_n 2, 1) := by decide +kernel
theorem dX7_fewestHands_113 : decode cX7_fewestHands 113 = .ok (.iload_n 3, 1) := by decide +kernel
theorem dX7_fewestHands_114 : decode cX7_fewestHands 114 = .ok (.bipush 24, 2) := by decide +kernel
theorem dX7_fewestHands_116 : decode cX7_fewestHands 116 = .ok (.iadd, 1) := by decide +kernel
theorem dX7_fewestHands_117 : decode cX7_fewestHands 117 = .ok (.iconst 1, 1) := by decide +kernel
theorem dX7_fewestHands_118 : decode cX7_fewestHands 118 = .ok (.isub, 1) := by decide +kernel
theorem dX7_fewestHands_119 : decode cX7_fewestHands 119 = .ok (.bipush 24, 2) := by decide +kernel
theorem dX7_fewestHands_121 : decode cX7_fewestHands 121 = .ok (.idiv, 1) := by decide +kernel
theorem dX7_fewestHands_122 : decode cX7_fewestHands 122 = .ok (.invokestatic 51, 3) := by decide +kernel
theorem dX7_fewestHands_125 : decode cX7_fewestHands 125 = .ok (.ireturn, 1) := by decide +kernel
theorem dX7_allNeeded_0 : decode cX7_allNeeded 0 = .ok (.iload_n 1, 1) := by decide +kernel
theorem dX7_allNeeded_1 : decode cX7_allNeeded 1 = .ok (.istore_n 2, 1) := by decide +kernel
theorem dX7_allNeeded_2 : decode cX7_allNeeded 2 = .ok (.iconst 0, 1) := by decide +kernel
theorem dX7_allNeeded_3 : decode cX7_allNeeded 3 = .ok (.istore_n 3, 1) := by decide +kernel
theorem dX7_allNeeded_4 : decode cX7_allNeeded 4 = .ok (.iload_n 3, 1) := by decide +kernel
theorem dX7_allNeeded_5 : decode cX7_allNeeded 5 = .ok (.aload_n 0, 1) := by decide +kernel
theorem dX7_allNeeded_6 : decode cX7_allNeeded 6 = .ok (.getfield 15, 3) := by decide +kernel
theorem dX7_allNeeded_9 : decode cX7_allNeeded 9 = .ok (.getfield 20, 3) := by decide +kernel
theorem dX7_allNeeded_12 : decode cX7_allNeeded 12 = .ok (.getfield 26, 3) := by decide +kernel
theorem dX7_allNeeded_15 : decode cX7_allNeeded 15 = .ok (.if_icmp .ge 72, 3) := by decide +kernel
theorem dX7_allNeeded_18 : decode cX7_allNeeded 18 = .ok (.iconst 0, 1) := by decide +kernel
theorem dX7_allNeeded_19 : decode cX7_allNeeded 19 = .ok (.istore 4, 2) := by decide +kernel
theorem dX7_allNeeded_21 : decode cX7_allNeeded 21 = .ok (.iload 4, 2) := by decide +kernel
theorem dX7_allNeeded_23 : decode cX7_allNeeded 23 = .ok (.aload_n 0, 1) := by decide +kernel
theorem dX7_allNeeded_24 : decode cX7_allNeeded 24 = .ok (.getfield 15, 3) := by decide +kernel
theorem dX7_allNeeded_27 : decode cX7_allNeeded 27 = .ok (.getfield 20, 3) := by decide +kernel
theorem dX7_allNeeded_30 : decode cX7_allNeeded 30 = .ok (.getfield 26, 3) := by decide +kernel
theorem dX7_allNeeded_33 : decode cX7_allNeeded 33 = .ok (.if_icmp .ge 48, 3) := by decide +kernel
theorem dX7_allNeeded_36 : decode cX7_allNeeded 36 = .ok (.iload_n 2, 1) := by decide +kernel
theorem dX7_allNeeded_37 : decode cX7_allNeeded 37 = .ok (.iload 4, 2) := by decide +kernel
theorem dX7_allNeeded_39 : decode cX7_allNeeded 39 = .ok (.ishr, 1) := by decide +kernel
theorem dX7_allNeeded_40 : decode cX7_allNeeded 40 = .ok (.iconst 1, 1) := by decide +kernel
theorem dX7_allNeeded_41 : decode cX7_allNeeded 41 = .ok (.iand, 1) := by decide +kernel
theorem dX7_allNeeded_42 : decode cX7_allNeeded 42 = .ok (.ifCond .eq 12, 3) := by decide +kernel
theorem dX7_allNeeded_45 : decode cX7_allNeeded 45 = .ok (.aload_n 0, 1) := by decide +kernel
theorem dX7_allNeeded_46 : decode cX7_allNeeded 46 = .ok (.iload 4, 2) := by decide +kernel
theorem dX7_allNeeded_48 : decode cX7_allNeeded 48 = .ok (.invokevirtual 60, 3) := by decide +kernel
theorem dX7_allNeeded_51 : decode cX7_allNeeded 51 = .ok (.goto 4, 3) := by decide +kernel
theorem dX7_allNeeded_54 : decode cX7_allNeeded 54 = .ok (.iconst (-1), 1) := by decide +kernel
theorem dX7_allNeeded_55 : decode cX7_allNeeded 55 = .ok (.istore 5, 2) := by decide +kernel
theorem dX7_allNeeded_57 : decode cX7_allNeeded 57 = .ok (.iload 5, 2) := by decide +kernel
theorem dX7_allNeeded_59 : decode cX7_allNeeded 59 = .ok (.iconst (-1), 1) := by decide +kernel
theorem dX7_allNeeded_60 : decode cX7_allNeeded 60 = .ok (.if_icmp .eq 15, 3) := by decide +kernel
theorem dX7_allNeeded_63 : decode cX7_allNeeded 63 = .ok (.iload_n 2, 1) := by decide +kernel
theorem dX7_allNeeded_64 : decode cX7_allNeeded 64 = .ok (.aload_n 0, 1) := by decide +kernel
theorem dX7_allNeeded_65 : decode cX7_allNeeded 65 = .ok (.getfield 15, 3) := by decide +kernel
theorem dX7_allNeeded_68 : decode cX7_allNeeded 68 = .ok (.iload 5, 2) := by decide +kernel
theorem dX7_allNeeded_70 : decode cX7_allNeeded 70 = .ok (.invokevirtual 48, 3) := by decide +kernel
theorem dX7_allNeeded_73 : decode cX7_allNeeded 73 = .ok (.ior, 1) := by decide +kernel
theorem dX7_allNeeded_74 : decode cX7_allNeeded 74 = .ok (.istore_n 2, 1) := by decide +kernel
theorem dX7_allNeeded_75 : decode cX7_allNeeded 75 = .ok (.iinc 4 1, 3) := by decide +kernel
theorem dX7_allNeeded_78 : decode cX7_allNeeded 78 = .ok (.goto (-57), 3) := by decide +kernel
theorem dX7_allNeeded_81 : decode cX7_allNeeded 81 = .ok (.iinc 3 1, 3) := by decide +kernel
theorem dX7_allNeeded_84 : decode cX7_allNeeded 84 = .ok (.goto (-80), 3) := by decide +kernel
theorem dX7_allNeeded_87 : decode cX7_allNeeded 87 = .ok (.iload_n 2, 1) := by decide +kernel
theorem dX7_allNeeded_88 : decode cX7_allNeeded 88 = .ok (.ireturn, 1) := by decide +kernel
theorem dX8_init_0 : decode cX8_init 0 = .ok (.aload_n 0, 1) := by decide +kernel
theorem dX8_init_1 : decode cX8_init 1 = .ok (.invokespecial 3, 3) := by decide +kernel
theorem dX8_init_4 : decode cX8_init 4 = .ok (.aload_n 0, 1) := by decide +kernel
theorem dX8_init_5 : decode cX8_init 5 = .ok (.sipush 800, 3) := by decide +kernel
theorem dX8_init_8 : decode cX8_init 8 = .ok (.newarray .byte, 2) := by decide +kernel
theorem dX8_init_10 : decode cX8_init 10 = .ok (.putfield 9, 3) := by decide +kernel
theorem dX8_init_13 : decode cX8_init 13 = .ok (.aload_n 0, 1) := by decide +kernel
theorem dX8_init_14 : decode cX8_init 14 = .ok (.bipush 28, 2) := by decide +kernel
theorem dX8_init_16 : decode cX8_init 16 = .ok (.newarray .long, 2) := by decide +kernel
theorem dX8_init_18 : decode cX8_init 18 = .ok (.putfield 15, 3) := by decide +kernel
theorem dX8_init_21 : decode cX8_init 21 = .ok (.aload_n 0, 1) := by decide +kernel
theorem dX8_init_22 : decode cX8_init 22 = .ok (.sipush 801, 3) := by decide +kernel
theorem dX8_init_25 : decode cX8_init 25 = .ok (.newarray .int, 2) := by decide +kernel
theorem dX8_init_27 : decode cX8_init 27 = .ok (.putfield 19, 3) := by decide +kernel
theorem dX8_init_30 : decode cX8_init 30 = .ok (.aload_n 0, 1) := by decide +kernel
theorem dX8_init_31 : decode cX8_init 31 = .ok (.sipush 801, 3) := by decide +kernel
theorem dX8_init_34 : decode cX8_init 34 = .ok (.newarray .int, 2) := by decide +kernel
theorem dX8_init_36 : decode cX8_init 36 = .ok (.putfield 23, 3) := by decide +kernel
theorem dX8_init_39 : decode cX8_init 39 = .ok (.aload_n 0, 1) := by decide +kernel
theorem dX8_init_40 : decode cX8_init 40 = .ok (.sipush 801, 3) := by decide +kernel
theorem dX8_init_43 : decode cX8_init 43 = .ok (.newarray .long, 2) := by decide +kernel
theorem dX8_init_45 : decode cX8_init 45 = .ok (.putfield 26, 3) := by decide +kernel
theorem dX8_init_48 : decode cX8_init 48 = .ok (.aload_n 0, 1) := by decide +kernel
theorem dX8_init_49 : decode cX8_init 49 = .ok (.iconst (-1), 1) := by decide +kernel
theorem dX8_init_50 : decode cX8_init 50 = .ok (.putfield 29, 3) := by decide +kernel
theorem dX8_init_53 : decode cX8_init 53 = .ok (.aload_n 0, 1) := by decide +kernel
theorem dX8_init_54 : decode cX8_init 54 = .ok (.iconst (-1), 1) := by decide +kernel
theorem dX8_init_55 : decode cX8_init 55 = .ok (.putfield 33, 3) := by decide +kernel
theorem dX8_init_58 : decode cX8_init 58 = .ok (.iconst 0, 1) := by decide +kernel
theorem dX8_init_59 : decode cX8_init 59 = .ok (.istore_n 1, 1) := by decide +kernel
theorem dX8_init_60 : decode cX8_init 60 = .ok (.iconst 0, 1) := by decide +kernel
theorem dX8_init_61 : decode cX8_init 61 = .ok (.istore_n 2, 1) := by decide +kernel
theorem dX8_init_62 : decode cX8_init 62 = .ok (.iload_n 2, 1) := by decide +kernel
theorem dX8_init_63 : decode cX8_init 63 = .ok (.ldc 36, 2) := by decide +kernel
theorem dX8_init_65 : decode cX8_init 65 = .ok (.invokevirtual 38, 3) := by decide +kernel
theorem dX8_init_68 : decode cX8_init 68 = .ok (.if_icmp .ge 56, 3) := by decide +kernel
theorem dX8_init_71 : decode cX8_init 71 = .ok (.iload_n 1, 1) := by decide +kernel
theorem dX8_init_72 : decode cX8_init 72 = .ok (.aload_n 0, 1) := by decide +kernel
theorem dX8_init_73 : decode cX8_init 73 = .ok (.getfield 15, 3) := by decide +kernel
theorem dX8_init_76 : decode cX8_init 76 = .ok (.arraylength, 1) := by decide +kernel
theorem dX8_init_77 : decode cX8_init 77 = .ok (.if_icmp .ge 47, 3) := by decide +kernel
theorem dX8_init_80 : decode cX8_init 80 = .ok (.ldc 36, 2) := by decide +kernel
theorem dX8_init_82 : decode cX8_init 82 = .ok (.iload_n 2, 1) := by decide +kernel
theorem dX8_init_83 : decode cX8_init 83 = .ok (.invokevirtual 44, 3) := by decide +kernel
theorem dX8_init_86 : decode cX8_init 86 = .ok (.bipush 32, 2) := by decide +kernel
theorem dX8_init_88 : decode cX8_init 88 = .ok (.if_icmp .ne 9, 3) := by decide +kernel
theorem dX8_init_91 : decode cX8_init 91 = .ok (.iinc 1 1, 3) := by decide +kernel
theorem dX8_init_94 : decode cX8_init 94 = .ok (.goto 24, 3) := by decide +kernel
theorem dX8_init_97 : decode cX8_init 97 = .ok (.aload_n 0, 1) := by decide +kernel
theorem dX8_init_98 : decode cX8_init 98 = .ok (.getfield 15, 3) := by decide +kernel
theorem dX8_init_101 : decode cX8_init 101 = .ok (.iload_n 1, 1) := by decide +kernel
theorem dX8_init_102 : decode cX8_init 102 = .ok (.aload_n 0, 1) := by decide +kernel
theorem dX8_init_103 : decode cX8_init 103 = .ok (.getfield 15, 3) := by decide +kernel
theorem dX8_init_106 : decode cX8_init 106 = .ok (.iload_n 1, 1) := by decide +kernel
theorem dX8_init_107 : decode cX8_init 107 = .ok (.laload, 1) := by decide +kernel
theorem dX8_init_108 : decode cX8_init 108 = .ok (.ldc 36, 2) := by decide +kernel
theorem dX8_init_110 : decode cX8_init 110 = .ok (.iload_n 2, 1) := by decide +kernel
theorem dX8_init_111 : decode cX8_init 111 = .ok (.invokevirtual 44, 3) := by decide +kernel
theorem dX8_init_114 : decode cX8_init 114 = .ok (.invokestatic 48, 3) := by decide +kernel
theorem dX8_init_117 : decode cX8_init 117 = .ok (.lastore, 1) := by decide +kernel
theorem dX8_init_118 : decode cX8_init 118 = .ok (.iinc 2 1, 3) := by decide +kernel
theorem dX8_init_121 : decode cX8_init 121 = .ok (.goto (-59), 3) := by decide +kernel
theorem dX8_init_124 : decode cX8_init 124 = .ok (.return_, 1) := by decide +kernel
theorem dX8_tapeFour_0 : decode cX8_tapeFour 0 = .ok (.bipush 24, 2) := by decide +kernel
theorem dX8_tapeFour_2 : decode cX8_tapeFour 2 = .ok (.istore_n 2, 1) := by decide +kernel
theorem dX8_tapeFour_3 : decode cX8_tapeFour 3 = .ok (.iload_n 2, 1) := by decide +kernel
theorem dX8_tapeFour_4 : decode cX8_tapeFour 4 = .ok (.ifCond .lt 44, 3) := by decide +kernel
theorem dX8_tapeFour_7 : decode cX8_tapeFour 7 = .ok (.aload_n 0, 1) := by decide +kernel
theorem dX8_tapeFour_8 : decode cX8_tapeFour 8 = .ok (.getfield 52, 3) := by decide +kernel
theorem dX8_tapeFour_11 : decode cX8_tapeFour 11 = .ok (.aload_n 0, 1) := by decide +kernel
theorem dX8_tapeFour_12 : decode cX8_tapeFour 12 = .ok (.getfield 9, 3) := by decide +kernel
theorem dX8_tapeFour_15 : decode cX8_tapeFour 15 = .ok (.arraylength, 1) := by decide +kernel
theorem dX8_tapeFour_16 : decode cX8_tapeFour 16 = .ok (.if_icmp .ge 26, 3) := by decide +kernel
theorem dX8_tapeFour_19 : decode cX8_tapeFour 19 = .ok (.aload_n 0, 1) := by decide +kernel
theorem dX8_tapeFour_20 : decode cX8_tapeFour 20 = .ok (.getfield 9, 3) := by decide +kernel
theorem dX8_tapeFour_23 : decode cX8_tapeFour 23 = .ok (.aload_n 0, 1) := by decide +kernel
theorem dX8_tapeFour_24 : decode cX8_tapeFour 24 = .ok (.getfield 52, 3) := by decide +kernel
theorem dX8_tapeFour_27 : decode cX8_tapeFour 27 = .ok (.iload_n 1, 1) := by decide +kernel
theorem dX8_tapeFour_28 : decode cX8_tapeFour 28 = .ok (.iload_n 2, 1) := by decide +kernel
theorem dX8_tapeFour_29 : decode cX8_tapeFour 29 = .ok (.ishr, 1) := by decide +kernel
theorem dX8_tapeFour_30 : decode cX8_tapeFour 30 = .ok (.i2b, 1) := by decide +kernel
theorem dX8_tapeFour_31 : decode cX8_tapeFour 31 = .ok (.bastore, 1) := by decide +kernel
theorem dX8_tapeFour_32 : decode cX8_tapeFour 32 = .ok (.aload_n 0, 1) := by decide +kernel
theorem dX8_tapeFour_33 : decode cX8_tapeFour 33 = .ok (.dup, 1) := by decide +kernel
theorem dX8_tapeFour_34 : decode cX8_tapeFour 34 = .ok (.getfield 52, 3) := by decide +kernel
theorem dX8_tapeFour_37 : decode cX8_tapeFour 37 = .ok (.iconst 1, 1) := by decide +kernel
theorem dX8_tapeFour_38 : decode cX8_tapeFour 38 = .ok (.iadd, 1) := by decide +kernel
theorem dX8_tapeFour_39 : decode cX8_tapeFour 39 = .ok (.putfield 52, 3) := by decide +kernel
theorem dX8_tapeFour_42 : decode cX8_tapeFour 42 = .ok (.iinc 2 (-8), 3) := by decide +kernel
theorem dX8_tapeFour_45 : decode cX8_tapeFour 45 = .ok (.goto (-42), 3) := by decide +kernel
theorem dX8_tapeFour_48 : decode cX8_tapeFour 48 = .ok (.return_, 1) := by decide +kernel
theorem dX8_begin_0 : decode cX8_begin 0 = .ok (.iload_n 1, 1) := by decide +kernel
theorem dX8_begin_1 : decode cX8_begin 1 = .ok (.aload_n 0, 1) := by decide +kernel
theorem dX8_begin_2 : decode cX8_begin 2 = .ok (.getfield 52, 3) := by decide +kernel
theorem dX8_begin_5 : decode cX8_begin 5 = .ok (.invokestatic 55, 3) := by decide +kernel
theorem dX8_begin_8 : decode cX8_begin 8 = .ok (.istore_n 2, 1) := by decide +kernel
theorem dX8_begin_9 : decode cX8_begin 9 = .ok (.aload_n 0, 1) := by decide +kernel
theorem dX8_begin_10 : decode cX8_begin 10 = .ok (.iconst 0, 1) := by decide +kernel
theorem dX8_begin_11 : decode cX8_begin 11 = .ok (.putfield 52, 3) := by decide +kernel
theorem dX8_begin_14 : decode cX8_begin 14 = .ok (.iconst 0, 1) := by decide +kernel
theorem dX8_begin_15 : decode cX8_begin 15 = .ok (.istore_n 3, 1) := by decide +kernel
theorem dX8_begin_16 : decode cX8_begin 16 = .ok (.iconst 0, 1) := by decide +kernel
theorem dX8_begin_17 : decode cX8_begin 17 = .ok (.istore 4, 2) := by decide +kernel
theorem dX8_begin_19 : decode cX8_begin 19 = .ok (.iconst 0, 1) := by decide +kernel
theorem dX8_begin_20 : decode cX8_begin 20 = .ok (.istore 5, 2) := by decide +kernel
theorem dX8_begin_22 : decode cX8_begin 22 = .ok (.iload 5, 2) := by decide +kernel
theorem dX8_begin_24 : decode cX8_begin 24 = .ok (.sipush 800, 3) := by decide +kernel
theorem dX8_begin_27 : decode cX8_begin 27 = .ok (.if_icmp .ge 55, 3) := by decide +kernel
theorem dX8_begin_30 : decode cX8_begin 30 = .ok (.iload 4, 2) := by decide +kernel
theorem dX8_begin_32 : decode cX8_begin 32 = .ok (.iload_n 2, 1) := by decide +kernel
theorem dX8_begin_33 : decode cX8_begin 33 = .ok (.if_icmp .ge 49, 3) := by decide +kernel
theorem dX8_begin_36 : decode cX8_begin 36 = .ok (.aload_n 0, 1) := by decide +kernel
theorem dX8_begin_37 : decode cX8_begin 37 = .ok (.getfield 9, 3) := by decide +kernel
theorem dX8_begin_40 : decode cX8_begin 40 = .ok (.iload 4, 2) := by decide +kernel
theorem dX8_begin_42 : decode cX8_begin 42 = .ok (.baload, 1) := by decide +kernel
theorem dX8_begin_43 : decode cX8_begin 43 = .ok (.invokestatic 61, 3) := by decide +kernel
theorem dX8_begin_46 : decode cX8_begin 46 = .ok (.ifCond .eq 9, 3) := by decide +kernel
theorem dX8_begin_49 : decode cX8_begin 49 = .ok (.iinc 4 1, 3) := by decide +kernel
theorem dX8_begin_52 : decode cX8_begin 52 = .ok (.goto 24, 3) := by decide +kernel
theorem dX8_begin_55 : decode cX8_begin 55 = .ok (.aload_n 0, 1) := by decide +kernel
theorem dX8_begin_56 : decode cX8_begin 56 = .ok (.getfield 23, 3) := by decide +kernel
theorem dX8_begin_59 : decode cX8_begin 59 = .ok (.iload_n 3, 1) := by decide +kernel
theorem dX8_begin_60 : decode cX8_begin 60 = .ok (.iload 4, 2) := by decide +kernel
theorem dX8_begin_62 : decode cX8_begin 62 = .ok (.iastore, 1) := by decide +kernel
theorem dX8_begin_63 : decode cX8_begin 63 = .ok (.aload_n 0, 1) := by decide +kernel
theorem dX8_begin_64 : decode cX8_begin 64 = .ok (.iload_n 3, 1) := by decide +kernel
theorem dX8_begin_65 : decode cX8_begin 65 = .ok (.iload 4, 2) := by decide +kernel
theorem dX8_begin_67 : decode cX8_begin 67 = .ok (.iload_n 2, 1) := by decide +kernel
theorem dX8_begin_68 : decode cX8_begin 68 = .ok (.invokevirtual 65, 3) := by decide +kernel
theorem dX8_begin_71 : decode cX8_begin 71 = .ok (.istore 4, 2) := by decide +kernel
theorem dX8_begin_73 : decode cX8_begin 73 = .ok (.iinc 3 1, 3) := by decide +kernel
theorem dX8_begin_76 : decode cX8_begin 76 = .ok (.iinc 5 1, 3) := by decide +kernel
theorem dX8_begin_79 : decode cX8_begin 79 = .ok (.goto (-57), 3) := by decide +kernel
theorem dX8_begin_82 : decode cX8_begin 82 = .ok (.aload_n 0, 1) := by decide +kernel
theorem dX8_begin_83 : decode cX8_begin 83 = .ok (.getfield 19, 3) := by decide +kernel
theorem dX8_begin_86 : decode cX8_begin 86 = .ok (.iload_n 3, 1) := by decide +kernel
theorem dX8_begin_87 : decode cX8_begin 87 = .ok (.iconst 0, 1) := by decide +kernel
theorem dX8_begin_88 : decode cX8_begin 88 = .ok (.iastore, 1) := by decide +kernel
theorem dX8_begin_89 : decode cX8_begin 89 = .ok (.aload_n 0, 1) := by decide +kernel
theorem dX8_begin_90 : decode cX8_begin 90 = .ok (.getfield 23, 3) := by decide +kernel
theorem dX8_begin_93 : decode cX8_begin 93 = .ok (.iload_n 3, 1) := by decide +kernel
theorem dX8_begin_94 : decode cX8_begin 94 = .ok (.iload_n 2, 1) := by decide +kernel
theorem dX8_begin_95 : decode cX8_begin 95 = .ok (.iastore, 1) := by decide +kernel
theorem dX8_begin_96 : decode cX8_begin 96 = .ok (.aload_n 0, 1) := by decide +kernel
theorem dX8_begin_97 : decode cX8_begin 97 = .ok (.iconst 0, 1) := by decide +kernel
theorem dX8_begin_98 : decode cX8_begin 98 = .ok (.putfield 69, 3) := by decide +kernel
theorem dX8_begin_101 : decode cX8_begin 101 = .ok (.aload_n 0, 1) := by decide +kernel
theorem dX8_begin_102 : decode cX8_begin 102 = .ok (.iconst 0, 1) := by decide +kernel
theorem dX8_begin_103 : decode cX8_begin 103 = .ok (.putfield 29, 3) := by decide +kernel
theorem dX8_begin_106 : decode cX8_begin 106 = .ok (.aload_n 0, 1) := by decide +kernel
theorem dX8_begin_107 : decode cX8_begin 107 = .ok (.iconst (-1), 1) := by decide +kernel
theorem dX8_begin_108 : decode cX8_begin 108 = .ok (.putfield 33, 3) := by decide +kernel
theorem dX8_begin_111 : decode cX8_begin 111 = .ok (.return_, 1) := by decide +kernel
theorem dX8_scan_0 : decode cX8_scan 0 = .ok (.aload_n 0, 1) := by decide +kernel
theorem dX8_scan_1 : decode cX8_scan 1 = .ok (.getfield 9, 3) := by decide +kernel
theorem dX8_scan_4 : decode cX8_scan 4 = .ok (.iload_n 2, 1) := by decide +kernel
theorem dX8_scan_5 : decode cX8_scan 5 = .ok (.baload, 1) := by decide +kernel
theorem dX8_scan_6 : decode cX8_scan 6 = .ok (.invokestatic 72, 3) := by decide +kernel
theorem dX8_scan_9 : decode cX8_scan 9 = .ok (.ifCond .eq 11, 3) := by decide +kernel
theorem dX8_scan_12 : decode cX8_scan 12 = .ok (.aload_n 0, 1) := by decide +kernel
theorem dX8_scan_13 : decode cX8_scan 13 = .ok (.iload_n 1, 1) := by decide +kernel
theorem dX8_scan_14 : decode cX8_scan 14 = .ok (.iload_n 2, 1) := by decide +kernel
theorem dX8_scan_15 : decode cX8_scan 15 = .ok (.iload_n 3, 1) := by decide +kernel
theorem dX8_scan_16 : decode cX8_scan 16 = .ok (.invokevirtual 75, 3) := by decide +kernel
theorem dX8_scan_19 : decode cX8_scan 19 = .ok (.ireturn, 1) := by decide +kernel
theorem dX8_scan_20 : decode cX8_scan 20 = .ok (.aload_n 0, 1) := by decide +kernel
theorem dX8_scan_21 : decode cX8_scan 21 = .ok (.getfield 9, 3) := by decide +kernel
theorem dX8_scan_24 : decode cX8_scan 24 = .ok (.iload_n 2, 1) := by decide +kernel
theorem dX8_scan_25 : decode cX8_scan 25 = .ok (.baload, 1) := by decide +kernel
theorem dX8_scan_26 : decode cX8_scan 26 = .ok (.invokestatic 78, 3) := by decide +kernel
theorem dX8_scan_29 : decode cX8_scan 29 = .ok (.ifCond .eq 11, 3) := by decide +kernel
theorem dX8_scan_32 : decode cX8_scan 32 = .ok (.aload_n 0, 1) := by decide +kernel
theorem dX8_scan_33 : decode cX8_scan 33 = .ok (.iload_n 1, 1) := by decide +kernel
theorem dX8_scan_34 : decode cX8_scan 34 = .ok (.iload_n 2, 1) := by decide +kernel
theorem dX8_scan_35 : decode cX8_scan 35 = .ok (.iload_n 3, 1) := by decide +kernel
theorem dX8_scan_36 : decode cX8_scan 36 = .ok (.invokevirtual 81, 3) := by decide +kernel
theorem dX8_scan_39 : decode cX8_scan 39 = .ok (.ireturn, 1) := by decide +kernel
theorem dX8_scan_40 : decode cX8_scan 40 = .ok (.aload_n 0, 1) := by decide +kernel
theorem dX8_scan_41 : decode cX8_scan 41 = .ok (.getfield 19, 3) := by decide +kernel
theorem dX8_scan_44 : decode cX8_scan 44 = .ok (.iload_n 1, 1) := by decide +kernel
theorem dX8_scan_45 : decode cX8_scan 45 = .ok (.ldc 84, 2) := by decide +kernel
theorem dX8_scan_47 : decode cX8_scan 47 = .ok (.aload_n 0, 1) := by decide +kernel
theorem dX8_scan_48 : decode cX8_scan 48 = .ok (.getfield 9, 3) := by decide +kernel
theorem dX8_scan_51 : decode cX8_scan 51 = .ok (.iload_n 2, 1) := by decide +kernel
theorem dX8_scan_52 : decode cX8_scan 52 = .ok (.baload, 1) := by decide +kernel
theorem dX8_scan_53 : decode cX8_scan 53 = .ok (.sipush 255, 3) := by decide +kernel
theorem dX8_scan_56 : decode cX8_scan 56 = .ok (.iand, 1) := by decide +kernel
theorem dX8_scan_57 : decode cX8_scan 57 = .ok (.i2c, 1) := by decide +kernel
theorem dX8_scan_58 : decode cX8_scan 58 = .ok (.invokevirtual 86, 3) := by decide +kernel
theorem dX8_scan_61 : decode cX8_scan 61 = .ok (.ifCond .lt 12, 3) := by decide +kernel
theorem dX8_scan_64 : decode cX8_scan 64 = .ok (.aload_n 0, 1) := by decide +kernel
theorem dX8_scan_65 : decode cX8_scan 65 = .ok (.getfield 9, 3) := by decide +kernel
theorem dX8_scan_68 : decode cX8_scan 68 = .ok (.iload_n 2, 1) := by decide +kernel
theorem dX8_scan_69 : decode cX8_scan 69 = .ok (.baload, 1) := by decide +kernel
theorem dX8_scan_70 : decode cX8_scan 70 = .ok (.goto 4, 3) := by decide +kernel
theorem dX8_scan_73 : decode cX8_scan 73 = .ok (.iconst 1, 1) := by decide +kernel
theorem dX8_scan_74 : decode cX8_scan 74 = .ok (.iastore, 1) := by decide +kernel
theorem dX8_scan_75 : decode cX8_scan 75 = .ok (.iload_n 2, 1) := by decide +kernel
theorem dX8_scan_76 : decode cX8_scan 76 = .ok (.iconst 1, 1) := by decide +kernel
theorem dX8_scan_77 : decode cX8_scan 77 = .ok (.iadd, 1) := by decide +kernel
theorem dX8_scan_78 : decode cX8_scan 78 = .ok (.ireturn, 1) := by decide +kernel
theorem dX8_scanWord_0 : decode cX8_scanWord 0 = .ok (.iload_n 2, 1) := by decide +kernel
theorem dX8_scanWord_1 : decode cX8_scanWord 1 = .ok (.istore 4, 2) := by decide +kernel
theorem dX8_scanWord_3 : decode cX8_scanWord 3 = .ok (.lconst 0, 1) := by decide +kernel
theorem dX8_scanWord_4 : decode cX8_scanWord 4 = .ok (.lstore 5, 2) := by decide +kernel
theorem dX8_scanWord_6 : decode cX8_scanWord 6 = .ok (.iload 4, 2) := by decide +kernel
theorem dX8_scanWord_8 : decode cX8_scanWord 8 = .ok (.iload_n 3, 1) := by decide +kernel
theorem dX8_scanWord_9 : decode cX8_scanWord 9 = .ok (.if_icmp .ge 49, 3) := by decide +kernel
theorem dX8_scanWord_12 : decode cX8_scanWord 12 = .ok (.aload_n 0, 1) := by decide +kernel
theorem dX8_scanWord_13 : decode cX8_scanWord 13 = .ok (.getfield 9, 3) := by decide +kernel
theorem dX8_scanWord_16 : decode cX8_scanWord 16 = .ok (.iload 4, 2) := by decide +kernel
theorem dX8_scanWord_18 : decode cX8_scanWord 18 = .ok (.baload, 1) := by decide +kernel
theorem dX8_scanWord_19 : decode cX8_scanWord 19 = .ok (.invokestatic 72, 3) := by decide +kernel
theorem dX8_scanWord_22 : decode cX8_scanWord 22 = .ok (.ifCond .eq 36, 3) := by decide +kernel
theorem dX8_scanWord_25 : decode cX8_scanWord 25 = .ok (.iload 4, 2) := by decide +kernel
theorem dX8_scanWord_27 : decode cX8_scanWord 27 = .ok (.iload_n 2, 1) := by decide +kernel
theorem dX8_scanWord_28 : decode cX8_scanWord 28 = .ok (.isub, 1) := by decide +kernel
theorem dX8_scanWord_29 : decode cX8_scanWord 29 = .ok (.bipush 8, 2) := by decide +kernel
theorem dX8_scanWord_31 : decode cX8_scanWord 31 = .ok (.if_icmp .ge 18, 3) := by decide +kernel
theorem dX8_scanWord_34 : decode cX8_scanWord 34 = .ok (.lload 5, 2) := by decide +kernel
theorem dX8_scanWord_36 : decode cX8_scanWord 36 = .ok (.aload_n 0, 1) := by decide +kernel
theorem dX8_scanWord_37 : decode cX8_scanWord 37 = .ok (.getfield 9, 3) := by decide +kernel
theorem dX8_scanWord_40 : decode cX8_scanWord 40 = .ok (.iload 4, 2) := by decide +kernel
theorem dX8_scanWord_42 : decode cX8_scanWord 42 = .ok (.baload, 1) := by decide +kernel
theorem dX8_scanWord_43 : decode cX8_scanWord 43 = .ok (.invokestatic 48, 3) := by decide +kernel
theorem dX8_scanWord_46 : decode cX8_scanWord 46 = .ok (.goto 4, 3) := by decide +kernel
theorem dX8_scanWord_49 : decode cX8_scanWord 49 = .ok (.lconst 0, 1) := by decide +kernel
theorem dX8_scanWord_50 : decode cX8_scanWord 50 = .ok (.lstore 5, 2) := by decide +kernel
theorem dX8_scanWord_52 : decode cX8_scanWord 52 = .ok (.iinc 4 1, 3) := by decide +kernel
theorem dX8_scanWord_55 : decode cX8_scanWord 55 = .ok (.goto (-49), 3) := by decide +kernel
theorem dX8_scanWord_58 : decode cX8_scanWord 58 = .ok (.aload_n 0, 1) := by decide +kernel
theorem dX8_scanWord_59 : decode cX8_scanWord 59 = .ok (.getfield 26, 3) := by decide +kernel
theorem dX8_scanWord_62 : decode cX8_scanWord 62 = .ok (.iload_n 1, 1) := by decide +kernel
theorem dX8_scanWord_63 : decode cX8_scanWord 63 = .ok (.lload 5, 2) := by decide +kernel
theorem dX8_scanWord_65 : decode cX8_scanWord 65 = .ok (.lastore, 1) := by decide +kernel
theorem dX8_scanWord_66 : decode cX8_scanWord 66 = .ok (.aload_n 0, 1) := by decide +kernel
theorem dX8_scanWord_67 : decode cX8_scanWord 67 = .ok (.getfield 19, 3) := by decide +kernel
theorem dX8_scanWord_70 : decode cX8_scanWord 70 = .ok (.iload_n 1, 1) := by decide +kernel
theorem dX8_scanWord_71 : decode cX8_scanWord 71 = .ok (.iload 4, 2) := by decide +kernel
theorem dX8_scanWord_73 : decode cX8_scanWord 73 = .ok (.iload_n 2, 1) := by decide +kernel
theorem dX8_scanWord_74 : decode cX8_scanWord 74 = .ok (.isub, 1) := by decide +kernel
theorem dX8_scanWord_75 : decode cX8_scanWord 75 = .ok (.bipush 8, 2) := by decide +kernel
theorem dX8_scanWord_77 : decode cX8_scanWord 77 = .ok (.if_icmp .le 7, 3) := by decide +kernel
theorem dX8_scanWord_80 : decode cX8_scanWord 80 = .ok (.iconst 4, 1) := by decide +kernel
theorem dX8_scanWord_81 : decode cX8_scanWord 81 = .ok (.goto 4, 3) := by decide +kernel
theorem dX8_scanWord_84 : decode cX8_scanWord 84 = .ok (.iconst 3, 1) := by decide +kernel
theorem dX8_scanWord_85 : decode cX8_scanWord 85 = .ok (.iastore, 1) := by decide +kernel
theorem dX8_scanWord_86 : decode cX8_scanWord 86 = .ok (.iconst 0, 1) := by decide +kernel
theorem dX8_scanWord_87 : decode cX8_scanWord 87 = .ok (.istore 7, 2) := by decide +kernel
theorem dX8_scanWord_89 : decode cX8_scanWord 89 = .ok (.iload 7, 2) := by decide +kernel
theorem dX8_scanWord_91 : decode cX8_scanWord 91 = .ok (.aload_n 0, 1) := by decide +kernel
theorem dX8_scanWord_92 : decode cX8_scanWord 92 = .ok (.getfield 15, 3) := by decide +kernel
theorem dX8_scanWord_95 : decode cX8_scanWord 95 = .ok (.arraylength, 1) := by decide +kernel
theorem dX8_scanWord_96 : decode cX8_scanWord 96 = .ok (.if_icmp .ge 34, 3) := by decide +kernel
theorem dX8_scanWord_99 : decode cX8_scanWord 99 = .ok (.aload_n 0, 1) := by decide +kernel
theorem dX8_scanWord_100 : decode cX8_scanWord 100 = .ok (.getfield 15, 3) := by decide +kernel
theorem dX8_scanWord_103 : decode cX8_scanWord 103 = .ok (.iload 7, 2) := by decide +kernel
theorem dX8_scanWord_105 : decode cX8_scanWord 105 = .ok (.laload, 1) := by decide +kernel
theorem dX8_scanWord_106 : decode cX8_scanWord 106 = .ok (.lload 5, 2) := by decide +kernel
theorem dX8_scanWord_108 : decode cX8_scanWord 108 = .ok (.lcmp, 1) := by decide +kernel
theorem dX8_scanWord_109 : decode cX8_scanWord 109 = .ok (.ifCond .ne 15, 3) := by decide +kernel
theorem dX8_scanWord_112 : decode cX8_scanWord 112 = .ok (.aload_n 0, 1) := by decide +kernel
theorem dX8_scanWord_113 : decode cX8_scanWord 113 = .ok (.getfield 19, 3) := by decide +kernel
theorem dX8_scanWord_116 : decode cX8_scanWord 116 = .ok (.iload_n 1, 1) := by decide +kernel
theorem dX8_scanWord_117 : decode cX8_scanWord 117 = .ok (.sipush 128, 3) := by decide +kernel
theorem dX8_scanWord_120 : decode cX8_scanWord 120 = .ok (.iload 7, 2) := by decide +kernel
theorem dX8_scanWord_122 : decode cX8_scanWord 122 = .ok (.iadd, 1) := by decide +kernel
theorem dX8_scanWord_123 : decode cX8_scanWord 123 = .ok (.iastore, 1) := by decide +kernel
theorem dX8_scanWord_124 : decode cX8_scanWord 124 = .ok (.iinc 7 1, 3) := by decide +kernel
theorem dX8_scanWord_127 : decode cX8_scanWord 127 = .ok (.goto (-38), 3) := by decide +kernel
theorem dX8_scanWord_130 : decode cX8_scanWord 130 = .ok (.iload 4, 2) := by decide +kernel
theorem dX8_scanWord_132 : decode cX8_scanWord 132 = .ok (.ireturn, 1) := by decide +kernel
theorem dX8_scanNumber_0 : decode cX8_scanNumber 0 = .ok (.iload_n 2, 1) := by decide +kernel
theorem dX8_scanNumber_1 : decode cX8_scanNumber 1 = .ok (.istore 4, 2) := by decide +kernel
theorem dX8_scanNumber_3 : decode cX8_scanNumber 3 = .ok (.iconst 0, 1) := by decide +kernel
theorem dX8_scanNumber_4 : decode cX8_scanNumber 4 = .ok (.istore 5, 2) := by decide +kernel
theorem dX8_scanNumber_6 : decode cX8_scanNumber 6 = .ok (.iload 4, 2) := by decide +kernel
theorem dX8_scanNumber_8 : decode cX8_scanNumber 8 = .ok (.iload_n 3, 1) := by decide +kernel
theorem dX8_scanNumber_9 : decode cX8_scanNumber 9 = .ok (.if_icmp .ge 52, 3) := by decide +kernel
theorem dX8_scanNumber_12 : decode cX8_scanNumber 12 = .ok (.aload_n 0, 1) := by decide +kernel
theorem dX8_scanNumber_13 : decode cX8_scanNumber 13 = .ok (.getfield 9, 3) := by decide +kernel
theorem dX8_scanNumber_16 : decode cX8_scanNumber 16 = .ok (.iload 4, 2) := by decide +kernel
theorem dX8_scanNumber_18 : decode cX8_scanNumber 18 = .ok (.baload, 1) := by decide +kernel
theorem dX8_scanNumber_19 : decode cX8_scanNumber 19 = .ok (.invokestatic 78, 3) := by decide +kernel
theorem dX8_scanNumber_22 : decode cX8_scanNumber 22 = .ok (.ifCond .eq 39, 3) := by decide +kernel
theorem dX8_scanNumber_25 : decode cX8_scanNumber 25 = .ok (.iload 4, 2) := by decide +kernel
theorem dX8_scanNumber_27 : decode cX8_scanNumber 27 = .ok (.iload_n 2, 1) := by decide +kernel
theorem dX8_scanNumber_28 : decode cX8_scanNumber 28 = .ok (.isub, 1) := by decide +kernel
theorem dX8_scanNumber_29 : decode cX8_scanNumber 29 = .ok (.iconst 4, 1) := by decide +kernel
theorem dX8_scanNumber_30 : decode cX8_scanNumber 30 = .ok (.if_icmp .ge 22, 3) := by decide +kernel
theorem dX8_scanNumber_33 : decode cX8_scanNumber 33 = .ok (.iload 5, 2) := by decide +kernel
theorem dX8_scanNumber_35 : decode cX8_scanNumber 35 = .ok (.bipush 10, 2) := by decide +kernel
theorem dX8_scanNumber_37 : decode cX8_scanNumber 37 = .ok (.imul, 1) := by decide +kernel
theorem dX8_scanNumber_38 : decode cX8_scanNumber 38 = .ok (.aload_n 0, 1) := by decide +kernel
theorem dX8_scanNumber_39 : decode cX8_scanNumber 39 = .ok (.getfield 9, 3) := by decide +kernel
theorem dX8_scanNumber_42 : decode cX8_scanNumber 42 = .ok (.iload 4, 2) := by decide +kernel
theorem dX8_scanNumber_44 : decode cX8_scanNumber 44 = .ok (.baload, 1) := by decide +kernel
theorem dX8_scanNumber_45 : decode cX8_scanNumber 45 = .ok (.iadd, 1) := by decide +kernel
theorem dX8_scanNumber_46 : decode cX8_scanNumber 46 = .ok (.bipush 48, 2) := by decide +kernel
theorem dX8_scanNumber_48 : decode cX8_scanNumber 48 = .ok (.isub, 1) := by decide +kernel
theorem dX8_scanNumber_49 : decode cX8_scanNumber 49 = .ok (.goto 4, 3) := by decide +kernel
theorem dX8_scanNumber_52 : decode cX8_scanNumber 52 = .ok (.iconst 0, 1) := by decide +kernel
theorem dX8_scanNumber_53 : decode cX8_scanNumber 53 = .ok (.istore 5, 2) := by decide +kernel
theorem dX8_scanNumber_55 : decode cX8_scanNumber 55 = .ok (.iinc 4 1, 3) := by decide +kernel
theorem dX8_scanNumber_58 : decode cX8_scanNumber 58 = .ok (.goto (-52), 3) := by decide +kernel
theorem dX8_scanNumber_61 : decode cX8_scanNumber 61 = .ok (.aload_n 0, 1) := by decide +kernel
theorem dX8_scanNumber_62 : decode cX8_scanNumber 62 = .ok (.getfield 26, 3) := by decide +kernel
theorem dX8_scanNumber_65 : decode cX8_scanNumber 65 = .ok (.iload_n 1, 1) := by decide +kernel
theorem dX8_scanNumber_66 : decode cX8_scanNumber 66 = .ok (.iload 5, 2) := by decide +kernel
theorem dX8_scanNumber_68 : decode cX8_scanNumber 68 = .ok (.i2l, 1) := by decide +kernel
theorem dX8_scanNumber_69 : decode cX8_scanNumber 69 = .ok (.lastore, 1) := by decide +kernel
theorem dX8_scanNumber_70 : decode cX8_scanNumber 70 = .ok (.aload_n 0, 1) := by decide +kernel
theorem dX8_scanNumber_71 : decode cX8_scanNumber 71 = .ok (.getfield 19, 3) := by decide +kernel
theorem dX8_scanNumber_74 : decode cX8_scanNumber 74 = .ok (.iload_n 1, 1) := by decide +kernel
theorem dX8_scanNumber_75 : decode cX8_scanNumber 75 = .ok (.iload 4, 2) := by decide +kernel
theorem dX8_scanNumber_77 : decode cX8_scanNumber 77 = .ok (.iload_n 2, 1) := by decide +kernel
theorem dX8_scanNumber_78 : decode cX8_scanNumber 78 = .ok (.isub, 1) := by decide +kernel
theorem dX8_scanNumber_79 : decode cX8_scanNumber 79 = .ok (.iconst 4, 1) := by decide +kernel
theorem dX8_scanNumber_80 : decode cX8_scanNumber 80 = .ok (.if_icmp .le 7, 3) := by decide +kernel
theorem dX8_scanNumber_83 : decode cX8_scanNumber 83 = .ok (.iconst 1, 1) := by decide +kernel
theorem dX8_scanNumber_84 : decode cX8_scanNumber 84 = .ok (.goto 4, 3) := by decide +kernel
theorem dX8_scanNumber_87 : decode cX8_scanNumber 87 = .ok (.iconst 2, 1) := by decide +kernel
theorem dX8_scanNumber_88 : decode cX8_scanNumber 88 = .ok (.iastore, 1) := by decide +kernel
theorem dX8_scanNumber_89 : decode cX8_scanNumber 89 = .ok (.iload 4, 2) := by decide +kernel
theorem dX8_scanNumber_91 : decode cX8_scanNumber 91 = .ok (.ireturn, 1) := by decide +kernel
theorem dX8_longer_0 : decode cX8_longer 0 = .ok (.lload_n 0, 1) := by decide +kernel
theorem dX8_longer_1 : decode cX8_longer 1 = .ok (.ldc2_w 90, 3) := by decide +kernel
theorem dX8_longer_4 : decode cX8_longer 4 = .ok (.lmul, 1) := by decide +kernel
theorem dX8_longer_5 : decode cX8_longer 5 = .ok (.iload_n 2, 1) := by decide +kernel
theorem dX8_longer_6 : decode cX8_longer 6 = .ok (.bipush 97, 2) := by decide +kernel
theorem dX8_longer_8 : decode cX8_longer 8 = .ok (.isub, 1) := by decide +kernel
theorem dX8_longer_9 : decode cX8_longer 9 = .ok (.iconst 1, 1) := by decide +kernel
theorem dX8_longer_10 : decode cX8_longer 10 = .ok (.iadd, 1) := by decide +kernel
theorem dX8_longer_11 : decode cX8_longer 11 = .ok (.i2l, 1) := by decide +kernel
theorem dX8_longer_12 : decode cX8_longer 12 = .ok (.ladd, 1) := by decide +kernel
theorem dX8_longer_13 : decode cX8_longer 13 = .ok (.lreturn, 1) := by decide +kernel
theorem dX8_isBlank_0 : decode cX8_isBlank 0 = .ok (.iload_n 0, 1) := by decide +kernel
theorem dX8_isBlank_1 : decode cX8_isBlank 1 = .ok (.bipush 10, 2) := by decide +kernel
theorem dX8_isBlank_3 : decode cX8_isBlank 3 = .ok (.if_icmp .eq 9, 3) := by decide +kernel
theorem dX8_isBlank_6 : decode cX8_isBlank 6 = .ok (.iload_n 0, 1) := by decide +kernel
theorem dX8_isBlank_7 : decode cX8_isBlank 7 = .ok (.bipush 32, 2) := by decide +kernel
theorem dX8_isBlank_9 : decode cX8_isBlank 9 = .ok (.if_icmp .ne 7, 3) := by decide +kernel
theorem dX8_isBlank_12 : decode cX8_isBlank 12 = .ok (.iconst 1, 1) := by decide +kernel
theorem dX8_isBlank_13 : decode cX8_isBlank 13 = .ok (.goto 4, 3) := by decide +kernel
theorem dX8_isBlank_16 : decode cX8_isBlank 16 = .ok (.iconst 0, 1) := by decide +kernel
theorem dX8_isBlank_17 : decode cX8_isBlank 17 = .ok (.ireturn, 1) := by decide +kernel
theorem dX8_isLetter_0 : decode cX8_isLetter 0 = .ok (.iload_n 0, 1) := by decide +kernel
theorem dX8_isLetter_1 : decode cX8_isLetter 1 = .ok (.bipush 97, 2) := by decide +kernel
theorem dX8_isLetter_3 : decode cX8_isLetter 3 = .ok (.if_icmp .lt 13, 3) := by decide +kernel
theorem dX8_isLetter_6 : decode cX8_isLetter 6 = .ok (.iload_n 0, 1) := by decide +kernel
theorem dX8_isLetter_7 : decode cX8_isLetter 7 = .ok (.bipush 122, 2) := by decide +kernel
theorem dX8_isLetter_9 : decode cX8_isLetter 9 = .ok (.if_icmp .gt 7, 3) := by decide +kernel
theorem dX8_isLetter_12 : decode cX8_isLetter 12 = .ok (.iconst 1, 1) := by decide +kernel
theorem dX8_isLetter_13 : decode cX8_isLetter 13 = .ok (.goto 4, 3) := by decide +kernel
theorem dX8_isLetter_16 : decode cX8_isLetter 16 = .ok (.iconst 0, 1) := by decide +kernel
theorem dX8_isLetter_17 : decode cX8_isLetter 17 = .ok (.ireturn, 1) := by decide +kernel
theorem dX8_isDigit_0 : decode cX8_isDigit 0 = .ok (.iload_n 0, 1) := by decide +kernel
theorem dX8_isDigit_1 : decode cX8_isDigit 1 = .ok (.bipush 48, 2) := by decide +kernel
theorem dX8_isDigit_3 : decode cX8_isDigit 3 = .ok (.if_icmp .lt 13, 3) := by decide +kernel
theorem dX8_isDigit_6 : decode cX8_isDigit 6 = .ok (.iload_n 0, 1) := by decide +kernel
theorem dX8_isDigit_7 : decode cX8_isDigit 7 = .ok (.bipush 57, 2) := by decide +kernel
theorem dX8_isDigit_9 : decode cX8_isDigit 9 = .ok (.if_icmp .gt 7, 3) := by decide +kernel
theorem dX8_isDigit_12 : decode cX8_isDigit 12 = .ok (.iconst 1, 1) := by decide +kernel
theorem dX8_isDigit_13 : decode cX8_isDigit 13 = .ok (.goto 4, 3) := by decide +kernel
theorem dX8_isDigit_16 : decode cX8_isDigit 16 = .ok (.iconst 0, 1) := by decide +kernel
theorem dX8_isDigit_17 : decode cX8_isDigit 17 = .ok (.ireturn, 1) := by decide +kernel
theorem dX8_kind_0 : decode cX8_kind 0 = .ok (.aload_n 0, 1) := by decide +kernel
theorem dX8_kind_1 : decode cX8_kind 1 = .ok (.getfield 19, 3) := by decide +kernel
theorem dX8_kind_4 : decode cX8_kind 4 = .ok (.aload_n 0, 1) := by decide +kernel
theorem dX8_kind_5 : decode cX8_kind 5 = .ok (.getfield 69, 3) := by decide +kernel
theorem dX8_kind_8 : decode cX8_kind 8 = .ok (.iaload, 1) := by decide +kernel
theorem dX8_kind_9 : decode cX8_kind 9 = .ok (.ireturn, 1) := by decide +kernel
theorem dX8_word_0 : decode cX8_word 0 = .ok (.aload_n 0, 1) := by decide +kernel
theorem dX8_word_1 : decode cX8_word 1 = .ok (.getfield 26, 3) := by decide +kernel
theorem dX8_word_4 : decode cX8_word 4 = .ok (.aload_n 0, 1) := by decide +kernel
theorem dX8_word_5 : decode cX8_word 5 = .ok (.getfield 69, 3) := by decide +kernel
theorem dX8_word_8 : decode cX8_word 8 = .ok (.laload, 1) := by decide +kernel
theorem dX8_word_9 : decode cX8_word 9 = .ok (.lreturn, 1) := by decide +kernel
theorem dX8_next_0 : decode cX8_next 0 = .ok (.aload_n 0, 1) := by decide +kernel
theorem dX8_next_1 : decode cX8_next 1 = .ok (.getfield 19, 3) := by decide +kernel
theorem dX8_next_4 : decode cX8_next 4 = .ok (.aload_n 0, 1) := by decide +kernel
theorem dX8_next_5 : decode cX8_next 5 = .ok (.getfield 69, 3) := by decide +kernel
theorem dX8_next_8 : decode cX8_next 8 = .ok (.iaload, 1) := by decide +kernel
theorem dX8_next_9 : decode cX8_next 9 = .ok (.ifCond .eq 23, 3) := by decide +kernel
theorem dX8_next_12 : decode cX8_next 12 = .ok (.aload_n 0, 1) := by decide +kernel
theorem dX8_next_13 : decode cX8_next 13 = .ok (.getfield 69, 3) := by decide +kernel
theorem dX8_next_16 : decode cX8_next 16 = .ok (.sipush 800, 3) := by decide +kernel
theorem dX8_next_19 : decode cX8_next 19 = .ok (.if_icmp .ge 13, 3) := by decide +kernel
theorem dX8_next_22 : decode cX8_next 22 = .ok (.aload_n 0, 1) := by decide +kernel
theorem dX8_next_23 : decode cX8_next 23 = .ok (.dup, 1) := by decide +kernel
theorem dX8_next_24 : decode cX8_next 24 = .ok (.getfield 69, 3) := by decide +kernel
theorem dX8_next_27 : decode cX8_next 27 = .ok (.iconst 1, 1) := by decide +kernel
theorem dX8_next_28 : decode cX8_next 28 = .ok (.iadd, 1) := by decide +kernel
theorem dX8_next_29 : decode cX8_next 29 = .ok (.putfield 69, 3) := by decide +kernel
theorem dX8_next_32 : decode cX8_next 32 = .ok (.return_, 1) := by decide +kernel
theorem dX8_refuse_0 : decode cX8_refuse 0 = .ok (.aload_n 0, 1) := by decide +kernel
theorem dX8_refuse_1 : decode cX8_refuse 1 = .ok (.aload_n 0, 1) := by decide +kernel
theorem dX8_refuse_2 : decode cX8_refuse 2 = .ok (.getfield 19, 3) := by decide +kernel
theorem dX8_refuse_5 : decode cX8_refuse 5 = .ok (.aload_n 0, 1) := by decide +kernel
theorem dX8_refuse_6 : decode cX8_refuse 6 = .ok (.getfield 69, 3) := by decide +kernel
theorem dX8_refuse_9 : decode cX8_refuse 9 = .ok (.iaload, 1) := by decide +kernel
theorem dX8_refuse_10 : decode cX8_refuse 10 = .ok (.iconst 1, 1) := by decide +kernel
theorem dX8_refuse_11 : decode cX8_refuse 11 = .ok (.if_icmp .ne 7, 3) := by decide +kernel
theorem dX8_refuse_14 : decode cX8_refuse 14 = .ok (.iconst 1, 1) := by decide +kernel
theorem dX8_refuse_15 : decode cX8_refuse 15 = .ok (.goto 4, 3) := by decide +kernel
theorem dX8_refuse_18 : decode cX8_refuse 18 = .ok (.iload_n 1, 1) := by decide +kernel
theorem dX8_refuse_19 : decode cX8_refuse 19 = .ok (.putfield 29, 3) := by decide +kernel
theorem dX8_refuse_22 : decode cX8_refuse 22 = .ok (.aload_n 0, 1) := by decide +kernel
theorem dX8_refuse_23 : decode cX8_refuse 23 = .ok (.aload_n 0, 1) := by decide +kernel
theorem dX8_refuse_24 : decode cX8_refuse 24 = .ok (.getfield 23, 3) := by decide +kernel
theorem dX8_refuse_27 : decode cX8_refuse 27 = .ok (.aload_n 0, 1) := by decide +kernel
theorem dX8_refuse_28 : decode cX8_refuse 28 = .ok (.getfield 69, 3) := by decide +kernel
theorem dX8_refuse_31 : decode cX8_refuse 31 = .ok (.iaload, 1) := by decide +kernel
theorem dX8_refuse_32 : decode cX8_refuse 32 = .ok (.putfield 33, 3) := by decide +kernel
theorem dX8_refuse_35 : decode cX8_refuse 35 = .ok (.iconst 0, 1) := by decide +kernel
theorem dX8_refuse_36 : decode cX8_refuse 36 = .ok (.ireturn, 1) := by decide +kernel
theorem dX8_expect_0 : decode cX8_expect 0 = .ok (.aload_n 0, 1) := by decide +kernel
theorem dX8_expect_1 : decode cX8_expect 1 = .ok (.getfield 19, 3) := by decide +kernel
theorem dX8_expect_4 : decode cX8_expect 4 = .ok (.aload_n 0, 1) := by decide +kernel
theorem dX8_expect_5 : decode cX8_expect 5 = .ok (.getfield 69, 3) := by decide +kernel
theorem dX8_expect_8 : decode cX8_expect 8 = .ok (.iaload, 1) := by decide +kernel
theorem dX8_expect_9 : decode cX8_expect 9 = .ok (.iload_n 1, 1) := by decide +kernel
theorem dX8_expect_10 : decode cX8_expect 10 = .ok (.if_icmp .eq 9, 3) := by decide +kernel
theorem dX8_expect_13 : decode cX8_expect 13 = .ok (.aload_n 0, 1) := by decide +kernel
theorem dX8_expect_14 : decode cX8_expect 14 = .ok (.iconst 2, 1) := by decide +kernel
theorem dX8_expect_15 : decode cX8_expect 15 = .ok (.invokevirtual 92, 3) := by decide +kernel
theorem dX8_expect_18 : decode cX8_expect 18 = .ok (.ireturn, 1) := by decide +kernel
theorem dX8_expect_19 : decode cX8_expect 19 = .ok (.aload_n 0, 1) := by decide +kernel
theorem dX8_expect_20 : decode cX8_expect 20 = .ok (.invokevirtual 95, 3) := by decide +kernel
theorem dX8_expect_23 : decode cX8_expect 23 = .ok (.iconst 1, 1) := by decide +kernel
theorem dX8_expect_24 : decode cX8_expect 24 = .ok (.ireturn, 1) := by decide +kernel
theorem dX8_number_0 : decode cX8_number 0 = .ok (.aload_n 0, 1) := by decide +kernel
theorem dX8_number_1 : decode cX8_number 1 = .ok (.getfield 19, 3) := by decide +kernel
theorem dX8_number_4 : decode cX8_number 4 = .ok (.aload_n 0, 1) := by decide +kernel
theorem dX8_number_5 : decode cX8_number 5 = .ok (.getfield 69, 3) := by decide +kernel
theorem dX8_number_8 : decode cX8_number 8 = .ok (.iaload, 1) := by decide +kernel
theorem dX8_number_9 : decode cX8_number 9 = .ok (.iconst 2, 1) := by decide +kernel
theorem dX8_number_10 : decode cX8_number 10 = .ok (.if_icmp .eq 11, 3) := by decide +kernel
theorem dX8_number_13 : decode cX8_number 13 = .ok (.aload_n 0, 1) := by decide +kernel
theorem dX8_number_14 : decode cX8_number 14 = .ok (.iconst 2, 1) := by decide +kernel
theorem dX8_number_15 : decode cX8_number 15 = .ok (.invokevirtual 92, 3) := by decide +kernel
theorem dX8_number_18 : decode cX8_number 18 = .ok (.pop, 1) := by decide +kernel
theorem dX8_number_19 : decode cX8_number 19 = .ok (.iconst (-1), 1) := by decide +kernel
theorem dX8_number_20 : decode cX8_number 20 = .ok (.ireturn, 1) := by decide +kernel
theorem dX8_number_21 : decode cX8_number 21 = .ok (.aload_n 0, 1) := by decide +kernel
theorem dX8_number_22 : decode cX8_number 22 = .ok (.getfield 26, 3) := by decide +kernel
theorem dX8_number_25 : decode cX8_number 25 = .ok (.aload_n 0, 1) := by decide +kernel
theorem dX8_number_26 : decode cX8_number 26 = .ok (.getfield 69, 3) := by decide +kernel
theorem dX8_number_29 : decode cX8_number 29 = .ok (.laload, 1) := by decide +kernel
theorem dX8_number_30 : decode cX8_number 30 = .ok (.l2i, 1) := by decide +kernel
theorem dX8_number_31 : decode cX8_number 31 = .ok (.istore_n 3, 1) := by decide +kernel
theorem dX8_number_32 : decode cX8_number 32 = .ok (.iload_n 3, 1) := by decide +kernel
theorem dX8_number_33 : decode cX8_number 33 = .ok (.iload_n 1, 1) := by decide +kernel
theorem dX8_number_34 : decode cX8_number 34 = .ok (.if_icmp .lt 8, 3) := by decide +kernel
theorem dX8_number_37 : decode cX8_number 37 = .ok (.iload_n 3, 1) := by decide +kernel
theorem dX8_number_38 : decode cX8_number 38 = .ok (.iload_n 2, 1) := by decide +kernel
theorem dX8_number_39 : decode cX8_number 39 = .ok (.if_icmp .le 11, 3) := by decide +kernel
theorem dX8_number_42 : decode cX8_number 42 = .ok (.aload_n 0, 1) := by decide +kernel
theorem dX8_number_43 : decode cX8_number 43 = .ok (.iconst 4, 1) := by decide +kernel
theorem dX8_number_44 : decode cX8_number 44 = .ok (.invokevirtual 92, 3) := by decide +kernel
theorem dX8_number_47 : decode cX8_number 47 = .ok (.pop, 1) := by decide +kernel
theorem dX8_number_48 : decode cX8_number 48 = .ok (.iconst (-1), 1) := by decide +kernel
theorem dX8_number_49 : decode cX8_number 49 = .ok (.ireturn, 1) := by decide +kernel
theorem dX8_number_50 : decode cX8_number 50 = .ok (.aload_n 0, 1) := by decide +kernel
theorem dX8_number_51 : decode cX8_number 51 = .ok (.invokevirtual 95, 3) := by decide +kernel
theorem dX8_number_54 : decode cX8_number 54 = .ok (.iload_n 3, 1) := by decide +kernel
theorem dX8_number_55 : decode cX8_number 55 = .ok (.ireturn, 1) := by decide +kernel
theorem dX8_named_0 : decode cX8_named 0 = .ok (.aload_n 0, 1) := by decide +kernel
theorem dX8_named_1 : decode cX8_named 1 = .ok (.getfield 19, 3) := by decide +kernel
theorem dX8_named_4 : decode cX8_named 4 = .ok (.aload_n 0, 1) := by decide +kernel
theorem dX8_named_5 : decode cX8_named 5 = .ok (.getfield 69, 3) := by decide +kernel
