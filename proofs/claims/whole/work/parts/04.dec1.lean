theorem dX8_named_8 : decode cX8_named 8 = .ok (.iaload, 1) := by decide +kernel
theorem dX8_named_9 : decode cX8_named 9 = .ok (.iconst 3, 1) := by decide +kernel
theorem dX8_named_10 : decode cX8_named 10 = .ok (.if_icmp .eq 11, 3) := by decide +kernel
theorem dX8_named_13 : decode cX8_named 13 = .ok (.aload_n 0, 1) := by decide +kernel
theorem dX8_named_14 : decode cX8_named 14 = .ok (.iconst 2, 1) := by decide +kernel
theorem dX8_named_15 : decode cX8_named 15 = .ok (.invokevirtual 92, 3) := by decide +kernel
theorem dX8_named_18 : decode cX8_named 18 = .ok (.pop, 1) := by decide +kernel
theorem dX8_named_19 : decode cX8_named 19 = .ok (.iconst (-1), 1) := by decide +kernel
theorem dX8_named_20 : decode cX8_named 20 = .ok (.ireturn, 1) := by decide +kernel
theorem dX8_named_21 : decode cX8_named 21 = .ok (.aload_n 1, 1) := by decide +kernel
theorem dX8_named_22 : decode cX8_named 22 = .ok (.aload_n 0, 1) := by decide +kernel
theorem dX8_named_23 : decode cX8_named 23 = .ok (.getfield 26, 3) := by decide +kernel
theorem dX8_named_26 : decode cX8_named 26 = .ok (.aload_n 0, 1) := by decide +kernel
theorem dX8_named_27 : decode cX8_named 27 = .ok (.getfield 69, 3) := by decide +kernel
theorem dX8_named_30 : decode cX8_named 30 = .ok (.laload, 1) := by decide +kernel
theorem dX8_named_31 : decode cX8_named 31 = .ok (.invokevirtual 98, 3) := by decide +kernel
theorem dX8_named_34 : decode cX8_named 34 = .ok (.istore_n 3, 1) := by decide +kernel
theorem dX8_named_35 : decode cX8_named 35 = .ok (.iload_n 3, 1) := by decide +kernel
theorem dX8_named_36 : decode cX8_named 36 = .ok (.iconst (-1), 1) := by decide +kernel
theorem dX8_named_37 : decode cX8_named 37 = .ok (.if_icmp .ne 11, 3) := by decide +kernel
theorem dX8_named_40 : decode cX8_named 40 = .ok (.aload_n 0, 1) := by decide +kernel
theorem dX8_named_41 : decode cX8_named 41 = .ok (.iconst 3, 1) := by decide +kernel
theorem dX8_named_42 : decode cX8_named 42 = .ok (.invokevirtual 92, 3) := by decide +kernel
theorem dX8_named_45 : decode cX8_named 45 = .ok (.pop, 1) := by decide +kernel
theorem dX8_named_46 : decode cX8_named 46 = .ok (.iconst (-1), 1) := by decide +kernel
theorem dX8_named_47 : decode cX8_named 47 = .ok (.ireturn, 1) := by decide +kernel
theorem dX8_named_48 : decode cX8_named 48 = .ok (.iload_n 2, 1) := by decide +kernel
theorem dX8_named_49 : decode cX8_named 49 = .ok (.iload_n 3, 1) := by decide +kernel
theorem dX8_named_50 : decode cX8_named 50 = .ok (.ishr, 1) := by decide +kernel
theorem dX8_named_51 : decode cX8_named 51 = .ok (.iconst 1, 1) := by decide +kernel
theorem dX8_named_52 : decode cX8_named 52 = .ok (.iand, 1) := by decide +kernel
theorem dX8_named_53 : decode cX8_named 53 = .ok (.ifCond .eq 11, 3) := by decide +kernel
theorem dX8_named_56 : decode cX8_named 56 = .ok (.aload_n 0, 1) := by decide +kernel
theorem dX8_named_57 : decode cX8_named 57 = .ok (.iconst 5, 1) := by decide +kernel
theorem dX8_named_58 : decode cX8_named 58 = .ok (.invokevirtual 92, 3) := by decide +kernel
theorem dX8_named_61 : decode cX8_named 61 = .ok (.pop, 1) := by decide +kernel
theorem dX8_named_62 : decode cX8_named 62 = .ok (.iconst (-1), 1) := by decide +kernel
theorem dX8_named_63 : decode cX8_named 63 = .ok (.ireturn, 1) := by decide +kernel
theorem dX8_named_64 : decode cX8_named 64 = .ok (.aload_n 0, 1) := by decide +kernel
theorem dX8_named_65 : decode cX8_named 65 = .ok (.invokevirtual 95, 3) := by decide +kernel
theorem dX8_named_68 : decode cX8_named 68 = .ok (.iload_n 3, 1) := by decide +kernel
theorem dX8_named_69 : decode cX8_named 69 = .ok (.ireturn, 1) := by decide +kernel
theorem dX8_namedRow_0 : decode cX8_namedRow 0 = .ok (.iconst 0, 1) := by decide +kernel
theorem dX8_namedRow_1 : decode cX8_namedRow 1 = .ok (.istore_n 3, 1) := by decide +kernel
theorem dX8_namedRow_2 : decode cX8_namedRow 2 = .ok (.iconst 0, 1) := by decide +kernel
theorem dX8_namedRow_3 : decode cX8_namedRow 3 = .ok (.istore 4, 2) := by decide +kernel
theorem dX8_namedRow_5 : decode cX8_namedRow 5 = .ok (.iload 4, 2) := by decide +kernel
theorem dX8_namedRow_7 : decode cX8_namedRow 7 = .ok (.sipush 800, 3) := by decide +kernel
theorem dX8_namedRow_10 : decode cX8_namedRow 10 = .ok (.if_icmp .ge 52, 3) := by decide +kernel
theorem dX8_namedRow_13 : decode cX8_namedRow 13 = .ok (.iload 4, 2) := by decide +kernel
theorem dX8_namedRow_15 : decode cX8_namedRow 15 = .ok (.ifCond .eq 16, 3) := by decide +kernel
theorem dX8_namedRow_18 : decode cX8_namedRow 18 = .ok (.aload_n 0, 1) := by decide +kernel
theorem dX8_namedRow_19 : decode cX8_namedRow 19 = .ok (.getfield 19, 3) := by decide +kernel
theorem dX8_namedRow_22 : decode cX8_namedRow 22 = .ok (.aload_n 0, 1) := by decide +kernel
theorem dX8_namedRow_23 : decode cX8_namedRow 23 = .ok (.getfield 69, 3) := by decide +kernel
theorem dX8_namedRow_26 : decode cX8_namedRow 26 = .ok (.iaload, 1) := by decide +kernel
theorem dX8_namedRow_27 : decode cX8_namedRow 27 = .ok (.iconst 3, 1) := by decide +kernel
theorem dX8_namedRow_28 : decode cX8_namedRow 28 = .ok (.if_icmp .ne 34, 3) := by decide +kernel
theorem dX8_namedRow_31 : decode cX8_namedRow 31 = .ok (.aload_n 0, 1) := by decide +kernel
theorem dX8_namedRow_32 : decode cX8_namedRow 32 = .ok (.aload_n 1, 1) := by decide +kernel
theorem dX8_namedRow_33 : decode cX8_namedRow 33 = .ok (.iload_n 2, 1) := by decide +kernel
theorem dX8_namedRow_34 : decode cX8_namedRow 34 = .ok (.iload_n 3, 1) := by decide +kernel
theorem dX8_namedRow_35 : decode cX8_namedRow 35 = .ok (.ior, 1) := by decide +kernel
theorem dX8_namedRow_36 : decode cX8_namedRow 36 = .ok (.invokevirtual 104, 3) := by decide +kernel
theorem dX8_namedRow_39 : decode cX8_namedRow 39 = .ok (.istore 5, 2) := by decide +kernel
theorem dX8_namedRow_41 : decode cX8_namedRow 41 = .ok (.iload 5, 2) := by decide +kernel
theorem dX8_namedRow_43 : decode cX8_namedRow 43 = .ok (.iconst (-1), 1) := by decide +kernel
theorem dX8_namedRow_44 : decode cX8_namedRow 44 = .ok (.if_icmp .ne 5, 3) := by decide +kernel
theorem dX8_namedRow_47 : decode cX8_namedRow 47 = .ok (.iconst 0, 1) := by decide +kernel
theorem dX8_namedRow_48 : decode cX8_namedRow 48 = .ok (.ireturn, 1) := by decide +kernel
theorem dX8_namedRow_49 : decode cX8_namedRow 49 = .ok (.iload_n 3, 1) := by decide +kernel
theorem dX8_namedRow_50 : decode cX8_namedRow 50 = .ok (.iconst 1, 1) := by decide +kernel
theorem dX8_namedRow_51 : decode cX8_namedRow 51 = .ok (.iload 5, 2) := by decide +kernel
theorem dX8_namedRow_53 : decode cX8_namedRow 53 = .ok (.ishl, 1) := by decide +kernel
theorem dX8_namedRow_54 : decode cX8_namedRow 54 = .ok (.ior, 1) := by decide +kernel
theorem dX8_namedRow_55 : decode cX8_namedRow 55 = .ok (.istore_n 3, 1) := by decide +kernel
theorem dX8_namedRow_56 : decode cX8_namedRow 56 = .ok (.iinc 4 1, 3) := by decide +kernel
theorem dX8_namedRow_59 : decode cX8_namedRow 59 = .ok (.goto (-54), 3) := by decide +kernel
theorem dX8_namedRow_62 : decode cX8_namedRow 62 = .ok (.iload_n 3, 1) := by decide +kernel
theorem dX8_namedRow_63 : decode cX8_namedRow 63 = .ok (.ireturn, 1) := by decide +kernel
theorem dX9_init_0 : decode cX9_init 0 = .ok (.aload_n 0, 1) := by decide +kernel
theorem dX9_init_1 : decode cX9_init 1 = .ok (.invokespecial 3, 3) := by decide +kernel
theorem dX9_init_4 : decode cX9_init 4 = .ok (.aload_n 0, 1) := by decide +kernel
theorem dX9_init_5 : decode cX9_init 5 = .ok (.new 9, 3) := by decide +kernel
theorem dX9_init_8 : decode cX9_init 8 = .ok (.dup, 1) := by decide +kernel
theorem dX9_init_9 : decode cX9_init 9 = .ok (.bipush 8, 2) := by decide +kernel
theorem dX9_init_11 : decode cX9_init 11 = .ok (.invokespecial 11, 3) := by decide +kernel
theorem dX9_init_14 : decode cX9_init 14 = .ok (.putfield 14, 3) := by decide +kernel
theorem dX9_init_17 : decode cX9_init 17 = .ok (.aload_n 0, 1) := by decide +kernel
theorem dX9_init_18 : decode cX9_init 18 = .ok (.new 9, 3) := by decide +kernel
theorem dX9_init_21 : decode cX9_init 21 = .ok (.dup, 1) := by decide +kernel
theorem dX9_init_22 : decode cX9_init 22 = .ok (.bipush 12, 2) := by decide +kernel
theorem dX9_init_24 : decode cX9_init 24 = .ok (.invokespecial 11, 3) := by decide +kernel
theorem dX9_init_27 : decode cX9_init 27 = .ok (.putfield 20, 3) := by decide +kernel
theorem dX9_init_30 : decode cX9_init 30 = .ok (.aload_n 0, 1) := by decide +kernel
theorem dX9_init_31 : decode cX9_init 31 = .ok (.bipush 12, 2) := by decide +kernel
theorem dX9_init_33 : decode cX9_init 33 = .ok (.newarray .int, 2) := by decide +kernel
theorem dX9_init_35 : decode cX9_init 35 = .ok (.putfield 23, 3) := by decide +kernel
theorem dX9_init_38 : decode cX9_init 38 = .ok (.aload_n 0, 1) := by decide +kernel
theorem dX9_init_39 : decode cX9_init 39 = .ok (.bipush 12, 2) := by decide +kernel
theorem dX9_init_41 : decode cX9_init 41 = .ok (.newarray .int, 2) := by decide +kernel
theorem dX9_init_43 : decode cX9_init 43 = .ok (.putfield 27, 3) := by decide +kernel
theorem dX9_init_46 : decode cX9_init 46 = .ok (.aload_n 0, 1) := by decide +kernel
theorem dX9_init_47 : decode cX9_init 47 = .ok (.bipush 12, 2) := by decide +kernel
theorem dX9_init_49 : decode cX9_init 49 = .ok (.newarray .int, 2) := by decide +kernel
theorem dX9_init_51 : decode cX9_init 51 = .ok (.putfield 30, 3) := by decide +kernel
theorem dX9_init_54 : decode cX9_init 54 = .ok (.aload_n 0, 1) := by decide +kernel
theorem dX9_init_55 : decode cX9_init 55 = .ok (.bipush 12, 2) := by decide +kernel
theorem dX9_init_57 : decode cX9_init 57 = .ok (.newarray .int, 2) := by decide +kernel
theorem dX9_init_59 : decode cX9_init 59 = .ok (.putfield 33, 3) := by decide +kernel
theorem dX9_init_62 : decode cX9_init 62 = .ok (.aload_n 0, 1) := by decide +kernel
theorem dX9_init_63 : decode cX9_init 63 = .ok (.bipush 12, 2) := by decide +kernel
theorem dX9_init_65 : decode cX9_init 65 = .ok (.newarray .int, 2) := by decide +kernel
theorem dX9_init_67 : decode cX9_init 67 = .ok (.putfield 36, 3) := by decide +kernel
theorem dX9_init_70 : decode cX9_init 70 = .ok (.aload_n 0, 1) := by decide +kernel
theorem dX9_init_71 : decode cX9_init 71 = .ok (.new 9, 3) := by decide +kernel
theorem dX9_init_74 : decode cX9_init 74 = .ok (.dup, 1) := by decide +kernel
theorem dX9_init_75 : decode cX9_init 75 = .ok (.bipush 6, 2) := by decide +kernel
theorem dX9_init_77 : decode cX9_init 77 = .ok (.invokespecial 11, 3) := by decide +kernel
theorem dX9_init_80 : decode cX9_init 80 = .ok (.putfield 39, 3) := by decide +kernel
theorem dX9_init_83 : decode cX9_init 83 = .ok (.aload_n 0, 1) := by decide +kernel
theorem dX9_init_84 : decode cX9_init 84 = .ok (.bipush 6, 2) := by decide +kernel
theorem dX9_init_86 : decode cX9_init 86 = .ok (.newarray .int, 2) := by decide +kernel
theorem dX9_init_88 : decode cX9_init 88 = .ok (.putfield 42, 3) := by decide +kernel
theorem dX9_init_91 : decode cX9_init 91 = .ok (.aload_n 0, 1) := by decide +kernel
theorem dX9_init_92 : decode cX9_init 92 = .ok (.bipush 6, 2) := by decide +kernel
theorem dX9_init_94 : decode cX9_init 94 = .ok (.newarray .int, 2) := by decide +kernel
theorem dX9_init_96 : decode cX9_init 96 = .ok (.putfield 45, 3) := by decide +kernel
theorem dX9_init_99 : decode cX9_init 99 = .ok (.aload_n 0, 1) := by decide +kernel
theorem dX9_init_100 : decode cX9_init 100 = .ok (.bipush 8, 2) := by decide +kernel
theorem dX9_init_102 : decode cX9_init 102 = .ok (.newarray .int, 2) := by decide +kernel
theorem dX9_init_104 : decode cX9_init 104 = .ok (.putfield 48, 3) := by decide +kernel
theorem dX9_init_107 : decode cX9_init 107 = .ok (.aload_n 0, 1) := by decide +kernel
theorem dX9_init_108 : decode cX9_init 108 = .ok (.bipush 8, 2) := by decide +kernel
theorem dX9_init_110 : decode cX9_init 110 = .ok (.newarray .int, 2) := by decide +kernel
theorem dX9_init_112 : decode cX9_init 112 = .ok (.putfield 51, 3) := by decide +kernel
theorem dX9_init_115 : decode cX9_init 115 = .ok (.aload_n 0, 1) := by decide +kernel
theorem dX9_init_116 : decode cX9_init 116 = .ok (.bipush 8, 2) := by decide +kernel
theorem dX9_init_118 : decode cX9_init 118 = .ok (.newarray .int, 2) := by decide +kernel
theorem dX9_init_120 : decode cX9_init 120 = .ok (.putfield 54, 3) := by decide +kernel
theorem dX9_init_123 : decode cX9_init 123 = .ok (.aload_n 0, 1) := by decide +kernel
theorem dX9_init_124 : decode cX9_init 124 = .ok (.bipush 8, 2) := by decide +kernel
theorem dX9_init_126 : decode cX9_init 126 = .ok (.newarray .int, 2) := by decide +kernel
theorem dX9_init_128 : decode cX9_init 128 = .ok (.putfield 57, 3) := by decide +kernel
theorem dX9_init_131 : decode cX9_init 131 = .ok (.aload_n 0, 1) := by decide +kernel
theorem dX9_init_132 : decode cX9_init 132 = .ok (.bipush 26, 2) := by decide +kernel
theorem dX9_init_134 : decode cX9_init 134 = .ok (.newarray .int, 2) := by decide +kernel
theorem dX9_init_136 : decode cX9_init 136 = .ok (.putfield 60, 3) := by decide +kernel
theorem dX9_init_139 : decode cX9_init 139 = .ok (.aload_n 0, 1) := by decide +kernel
theorem dX9_init_140 : decode cX9_init 140 = .ok (.new 63, 3) := by decide +kernel
theorem dX9_init_143 : decode cX9_init 143 = .ok (.dup, 1) := by decide +kernel
theorem dX9_init_144 : decode cX9_init 144 = .ok (.invokespecial 65, 3) := by decide +kernel
theorem dX9_init_147 : decode cX9_init 147 = .ok (.putfield 66, 3) := by decide +kernel
theorem dX9_init_150 : decode cX9_init 150 = .ok (.aload_n 0, 1) := by decide +kernel
theorem dX9_init_151 : decode cX9_init 151 = .ok (.new 70, 3) := by decide +kernel
theorem dX9_init_154 : decode cX9_init 154 = .ok (.dup, 1) := by decide +kernel
theorem dX9_init_155 : decode cX9_init 155 = .ok (.invokespecial 72, 3) := by decide +kernel
theorem dX9_init_158 : decode cX9_init 158 = .ok (.putfield 73, 3) := by decide +kernel
theorem dX9_init_161 : decode cX9_init 161 = .ok (.return_, 1) := by decide +kernel
theorem dX9_build_0 : decode cX9_build 0 = .ok (.aload_n 0, 1) := by decide +kernel
theorem dX9_build_1 : decode cX9_build 1 = .ok (.invokevirtual 77, 3) := by decide +kernel
theorem dX9_build_4 : decode cX9_build 4 = .ok (.iconst 0, 1) := by decide +kernel
theorem dX9_build_5 : decode cX9_build 5 = .ok (.istore_n 2, 1) := by decide +kernel
theorem dX9_build_6 : decode cX9_build 6 = .ok (.iload_n 2, 1) := by decide +kernel
theorem dX9_build_7 : decode cX9_build 7 = .ok (.sipush 800, 3) := by decide +kernel
theorem dX9_build_10 : decode cX9_build 10 = .ok (.if_icmp .ge 26, 3) := by decide +kernel
theorem dX9_build_13 : decode cX9_build 13 = .ok (.aload_n 1, 1) := by decide +kernel
theorem dX9_build_14 : decode cX9_build 14 = .ok (.invokevirtual 80, 3) := by decide +kernel
theorem dX9_build_17 : decode cX9_build 17 = .ok (.ifCond .eq 19, 3) := by decide +kernel
theorem dX9_build_20 : decode cX9_build 20 = .ok (.aload_n 0, 1) := by decide +kernel
theorem dX9_build_21 : decode cX9_build 21 = .ok (.aload_n 1, 1) := by decide +kernel
theorem dX9_build_22 : decode cX9_build 22 = .ok (.invokevirtual 86, 3) := by decide +kernel
theorem dX9_build_25 : decode cX9_build 25 = .ok (.ifCond .ne 5, 3) := by decide +kernel
theorem dX9_build_28 : decode cX9_build 28 = .ok (.iconst 0, 1) := by decide +kernel
theorem dX9_build_29 : decode cX9_build 29 = .ok (.ireturn, 1) := by decide +kernel
theorem dX9_build_30 : decode cX9_build 30 = .ok (.iinc 2 1, 3) := by decide +kernel
theorem dX9_build_33 : decode cX9_build 33 = .ok (.goto (-27), 3) := by decide +kernel
theorem dX9_build_36 : decode cX9_build 36 = .ok (.aload_n 0, 1) := by decide +kernel
theorem dX9_build_37 : decode cX9_build 37 = .ok (.invokevirtual 90, 3) := by decide +kernel
theorem dX9_build_40 : decode cX9_build 40 = .ok (.iconst 1, 1) := by decide +kernel
theorem dX9_build_41 : decode cX9_build 41 = .ok (.ireturn, 1) := by decide +kernel
theorem dX9_clear_0 : decode cX9_clear 0 = .ok (.aload_n 0, 1) := by decide +kernel
theorem dX9_clear_1 : decode cX9_clear 1 = .ok (.getfield 14, 3) := by decide +kernel
theorem dX9_clear_4 : decode cX9_clear 4 = .ok (.iconst 0, 1) := by decide +kernel
theorem dX9_clear_5 : decode cX9_clear 5 = .ok (.putfield 93, 3) := by decide +kernel
theorem dX9_clear_8 : decode cX9_clear 8 = .ok (.aload_n 0, 1) := by decide +kernel
theorem dX9_clear_9 : decode cX9_clear 9 = .ok (.iconst 0, 1) := by decide +kernel
theorem dX9_clear_10 : decode cX9_clear 10 = .ok (.putfield 97, 3) := by decide +kernel
theorem dX9_clear_13 : decode cX9_clear 13 = .ok (.aload_n 0, 1) := by decide +kernel
theorem dX9_clear_14 : decode cX9_clear 14 = .ok (.iconst 0, 1) := by decide +kernel
theorem dX9_clear_15 : decode cX9_clear 15 = .ok (.putfield 100, 3) := by decide +kernel
theorem dX9_clear_18 : decode cX9_clear 18 = .ok (.aload_n 0, 1) := by decide +kernel
theorem dX9_clear_19 : decode cX9_clear 19 = .ok (.getfield 20, 3) := by decide +kernel
theorem dX9_clear_22 : decode cX9_clear 22 = .ok (.iconst 0, 1) := by decide +kernel
theorem dX9_clear_23 : decode cX9_clear 23 = .ok (.putfield 93, 3) := by decide +kernel
theorem dX9_clear_26 : decode cX9_clear 26 = .ok (.aload_n 0, 1) := by decide +kernel
theorem dX9_clear_27 : decode cX9_clear 27 = .ok (.getfield 39, 3) := by decide +kernel
theorem dX9_clear_30 : decode cX9_clear 30 = .ok (.iconst 0, 1) := by decide +kernel
theorem dX9_clear_31 : decode cX9_clear 31 = .ok (.putfield 93, 3) := by decide +kernel
theorem dX9_clear_34 : decode cX9_clear 34 = .ok (.aload_n 0, 1) := by decide +kernel
theorem dX9_clear_35 : decode cX9_clear 35 = .ok (.iconst 0, 1) := by decide +kernel
theorem dX9_clear_36 : decode cX9_clear 36 = .ok (.putfield 103, 3) := by decide +kernel
theorem dX9_clear_39 : decode cX9_clear 39 = .ok (.aload_n 0, 1) := by decide +kernel
theorem dX9_clear_40 : decode cX9_clear 40 = .ok (.iconst 0, 1) := by decide +kernel
theorem dX9_clear_41 : decode cX9_clear 41 = .ok (.putfield 106, 3) := by decide +kernel
theorem dX9_clear_44 : decode cX9_clear 44 = .ok (.aload_n 0, 1) := by decide +kernel
theorem dX9_clear_45 : decode cX9_clear 45 = .ok (.getfield 66, 3) := by decide +kernel
theorem dX9_clear_48 : decode cX9_clear 48 = .ok (.invokevirtual 109, 3) := by decide +kernel
theorem dX9_clear_51 : decode cX9_clear 51 = .ok (.aload_n 0, 1) := by decide +kernel
theorem dX9_clear_52 : decode cX9_clear 52 = .ok (.getfield 73, 3) := by decide +kernel
theorem dX9_clear_55 : decode cX9_clear 55 = .ok (.invokevirtual 110, 3) := by decide +kernel
theorem dX9_clear_58 : decode cX9_clear 58 = .ok (.return_, 1) := by decide +kernel
theorem dX9_buildPart_0 : decode cX9_buildPart 0 = .ok (.aload_n 1, 1) := by decide +kernel
theorem dX9_buildPart_1 : decode cX9_buildPart 1 = .ok (.invokevirtual 80, 3) := by decide +kernel
theorem dX9_buildPart_4 : decode cX9_buildPart 4 = .ok (.lookupswitch 68 #[(128, 44), (131, 50), (137, 56), (141, 62)], 44) := by decide +kernel
theorem dX9_buildPart_48 : decode cX9_buildPart 48 = .ok (.aload_n 0, 1) := by decide +kernel
theorem dX9_buildPart_49 : decode cX9_buildPart 49 = .ok (.aload_n 1, 1) := by decide +kernel
theorem dX9_buildPart_50 : decode cX9_buildPart 50 = .ok (.invokevirtual 111, 3) := by decide +kernel
theorem dX9_buildPart_53 : decode cX9_buildPart 53 = .ok (.ireturn, 1) := by decide +kernel
theorem dX9_buildPart_54 : decode cX9_buildPart 54 = .ok (.aload_n 0, 1) := by decide +kernel
theorem dX9_buildPart_55 : decode cX9_buildPart 55 = .ok (.aload_n 1, 1) := by decide +kernel
theorem dX9_buildPart_56 : decode cX9_buildPart 56 = .ok (.invokevirtual 114, 3) := by decide +kernel
theorem dX9_buildPart_59 : decode cX9_buildPart 59 = .ok (.ireturn, 1) := by decide +kernel
theorem dX9_buildPart_60 : decode cX9_buildPart 60 = .ok (.aload_n 0, 1) := by decide +kernel
theorem dX9_buildPart_61 : decode cX9_buildPart 61 = .ok (.aload_n 1, 1) := by decide +kernel
theorem dX9_buildPart_62 : decode cX9_buildPart 62 = .ok (.invokevirtual 117, 3) := by decide +kernel
theorem dX9_buildPart_65 : decode cX9_buildPart 65 = .ok (.ireturn, 1) := by decide +kernel
theorem dX9_buildPart_66 : decode cX9_buildPart 66 = .ok (.aload_n 0, 1) := by decide +kernel
theorem dX9_buildPart_67 : decode cX9_buildPart 67 = .ok (.aload_n 1, 1) := by decide +kernel
theorem dX9_buildPart_68 : decode cX9_buildPart 68 = .ok (.invokevirtual 120, 3) := by decide +kernel
theorem dX9_buildPart_71 : decode cX9_buildPart 71 = .ok (.ireturn, 1) := by decide +kernel
theorem dX9_buildPart_72 : decode cX9_buildPart 72 = .ok (.aload_n 1, 1) := by decide +kernel
theorem dX9_buildPart_73 : decode cX9_buildPart 73 = .ok (.iconst 2, 1) := by decide +kernel
theorem dX9_buildPart_74 : decode cX9_buildPart 74 = .ok (.invokevirtual 123, 3) := by decide +kernel
theorem dX9_buildPart_77 : decode cX9_buildPart 77 = .ok (.ireturn, 1) := by decide +kernel
theorem dX9_buildThing_0 : decode cX9_buildThing 0 = .ok (.iconst 1, 1) := by decide +kernel
theorem dX9_buildThing_1 : decode cX9_buildThing 1 = .ok (.aload_n 0, 1) := by decide +kernel
theorem dX9_buildThing_2 : decode cX9_buildThing 2 = .ok (.getfield 14, 3) := by decide +kernel
theorem dX9_buildThing_5 : decode cX9_buildThing 5 = .ok (.getfield 93, 3) := by decide +kernel
theorem dX9_buildThing_8 : decode cX9_buildThing 8 = .ok (.ishl, 1) := by decide +kernel
theorem dX9_buildThing_9 : decode cX9_buildThing 9 = .ok (.istore_n 2, 1) := by decide +kernel
theorem dX9_buildThing_10 : decode cX9_buildThing 10 = .ok (.aload_n 0, 1) := by decide +kernel
theorem dX9_buildThing_11 : decode cX9_buildThing 11 = .ok (.aload_n 1, 1) := by decide +kernel
theorem dX9_buildThing_12 : decode cX9_buildThing 12 = .ok (.aload_n 0, 1) := by decide +kernel
theorem dX9_buildThing_13 : decode cX9_buildThing 13 = .ok (.getfield 14, 3) := by decide +kernel
theorem dX9_buildThing_16 : decode cX9_buildThing 16 = .ok (.invokevirtual 127, 3) := by decide +kernel
theorem dX9_buildThing_19 : decode cX9_buildThing 19 = .ok (.ifCond .ne 5, 3) := by decide +kernel
theorem dX9_buildThing_22 : decode cX9_buildThing 22 = .ok (.iconst 0, 1) := by decide +kernel
theorem dX9_buildThing_23 : decode cX9_buildThing 23 = .ok (.ireturn, 1) := by decide +kernel
theorem dX9_buildThing_24 : decode cX9_buildThing 24 = .ok (.aload_n 1, 1) := by decide +kernel
theorem dX9_buildThing_25 : decode cX9_buildThing 25 = .ok (.invokevirtual 80, 3) := by decide +kernel
theorem dX9_buildThing_28 : decode cX9_buildThing 28 = .ok (.sipush 129, 3) := by decide +kernel
theorem dX9_buildThing_31 : decode cX9_buildThing 31 = .ok (.if_icmp .ne 17, 3) := by decide +kernel
theorem dX9_buildThing_34 : decode cX9_buildThing 34 = .ok (.aload_n 0, 1) := by decide +kernel
theorem dX9_buildThing_35 : decode cX9_buildThing 35 = .ok (.dup, 1) := by decide +kernel
theorem dX9_buildThing_36 : decode cX9_buildThing 36 = .ok (.getfield 97, 3) := by decide +kernel
theorem dX9_buildThing_39 : decode cX9_buildThing 39 = .ok (.iload_n 2, 1) := by decide +kernel
theorem dX9_buildThing_40 : decode cX9_buildThing 40 = .ok (.ior, 1) := by decide +kernel
theorem dX9_buildThing_41 : decode cX9_buildThing 41 = .ok (.putfield 97, 3) := by decide +kernel
theorem dX9_buildThing_44 : decode cX9_buildThing 44 = .ok (.aload_n 1, 1) := by decide +kernel
theorem dX9_buildThing_45 : decode cX9_buildThing 45 = .ok (.invokevirtual 131, 3) := by decide +kernel
theorem dX9_buildThing_48 : decode cX9_buildThing 48 = .ok (.aload_n 1, 1) := by decide +kernel
theorem dX9_buildThing_49 : decode cX9_buildThing 49 = .ok (.invokevirtual 80, 3) := by decide +kernel
theorem dX9_buildThing_52 : decode cX9_buildThing 52 = .ok (.sipush 130, 3) := by decide +kernel
theorem dX9_buildThing_55 : decode cX9_buildThing 55 = .ok (.if_icmp .ne 17, 3) := by decide +kernel
theorem dX9_buildThing_58 : decode cX9_buildThing 58 = .ok (.aload_n 0, 1) := by decide +kernel
theorem dX9_buildThing_59 : decode cX9_buildThing 59 = .ok (.dup, 1) := by decide +kernel
theorem dX9_buildThing_60 : decode cX9_buildThing 60 = .ok (.getfield 100, 3) := by decide +kernel
theorem dX9_buildThing_63 : decode cX9_buildThing 63 = .ok (.iload_n 2, 1) := by decide +kernel
theorem dX9_buildThing_64 : decode cX9_buildThing 64 = .ok (.ior, 1) := by decide +kernel
theorem dX9_buildThing_65 : decode cX9_buildThing 65 = .ok (.putfield 100, 3) := by decide +kernel
theorem dX9_buildThing_68 : decode cX9_buildThing 68 = .ok (.aload_n 1, 1) := by decide +kernel
theorem dX9_buildThing_69 : decode cX9_buildThing 69 = .ok (.invokevirtual 131, 3) := by decide +kernel
theorem dX9_buildThing_72 : decode cX9_buildThing 72 = .ok (.aload_n 1, 1) := by decide +kernel
theorem dX9_buildThing_73 : decode cX9_buildThing 73 = .ok (.bipush 59, 2) := by decide +kernel
theorem dX9_buildThing_75 : decode cX9_buildThing 75 = .ok (.invokevirtual 134, 3) := by decide +kernel
theorem dX9_buildThing_78 : decode cX9_buildThing 78 = .ok (.ireturn, 1) := by decide +kernel
theorem dX9_buildMaking_0 : decode cX9_buildMaking 0 = .ok (.aload_n 0, 1) := by decide +kernel
theorem dX9_buildMaking_1 : decode cX9_buildMaking 1 = .ok (.getfield 20, 3) := by decide +kernel
theorem dX9_buildMaking_4 : decode cX9_buildMaking 4 = .ok (.getfield 93, 3) := by decide +kernel
theorem dX9_buildMaking_7 : decode cX9_buildMaking 7 = .ok (.istore_n 2, 1) := by decide +kernel
theorem dX9_buildMaking_8 : decode cX9_buildMaking 8 = .ok (.aload_n 0, 1) := by decide +kernel
theorem dX9_buildMaking_9 : decode cX9_buildMaking 9 = .ok (.aload_n 1, 1) := by decide +kernel
theorem dX9_buildMaking_10 : decode cX9_buildMaking 10 = .ok (.aload_n 0, 1) := by decide +kernel
theorem dX9_buildMaking_11 : decode cX9_buildMaking 11 = .ok (.getfield 20, 3) := by decide +kernel
theorem dX9_buildMaking_14 : decode cX9_buildMaking 14 = .ok (.invokevirtual 127, 3) := by decide +kernel
theorem dX9_buildMaking_17 : decode cX9_buildMaking 17 = .ok (.ifCond .eq 13, 3) := by decide +kernel
theorem dX9_buildMaking_20 : decode cX9_buildMaking 20 = .ok (.aload_n 1, 1) := by decide +kernel
theorem dX9_buildMaking_21 : decode cX9_buildMaking 21 = .ok (.sipush 132, 3) := by decide +kernel
theorem dX9_buildMaking_24 : decode cX9_buildMaking 24 = .ok (.invokevirtual 134, 3) := by decide +kernel
theorem dX9_buildMaking_27 : decode cX9_buildMaking 27 = .ok (.ifCond .ne 5, 3) := by decide +kernel
theorem dX9_buildMaking_30 : decode cX9_buildMaking 30 = .ok (.iconst 0, 1) := by decide +kernel
theorem dX9_buildMaking_31 : decode cX9_buildMaking 31 = .ok (.ireturn, 1) := by decide +kernel
theorem dX9_buildMaking_32 : decode cX9_buildMaking 32 = .ok (.aload_n 0, 1) := by decide +kernel
theorem dX9_buildMaking_33 : decode cX9_buildMaking 33 = .ok (.getfield 23, 3) := by decide +kernel
theorem dX9_buildMaking_36 : decode cX9_buildMaking 36 = .ok (.iload_n 2, 1) := by decide +kernel
theorem dX9_buildMaking_37 : decode cX9_buildMaking 37 = .ok (.aload_n 1, 1) := by decide +kernel
theorem dX9_buildMaking_38 : decode cX9_buildMaking 38 = .ok (.aload_n 0, 1) := by decide +kernel
theorem dX9_buildMaking_39 : decode cX9_buildMaking 39 = .ok (.getfield 14, 3) := by decide +kernel
theorem dX9_buildMaking_42 : decode cX9_buildMaking 42 = .ok (.iconst 0, 1) := by decide +kernel
theorem dX9_buildMaking_43 : decode cX9_buildMaking 43 = .ok (.invokevirtual 137, 3) := by decide +kernel
theorem dX9_buildMaking_46 : decode cX9_buildMaking 46 = .ok (.iastore, 1) := by decide +kernel
theorem dX9_buildMaking_47 : decode cX9_buildMaking 47 = .ok (.aload_n 0, 1) := by decide +kernel
theorem dX9_buildMaking_48 : decode cX9_buildMaking 48 = .ok (.getfield 23, 3) := by decide +kernel
theorem dX9_buildMaking_51 : decode cX9_buildMaking 51 = .ok (.iload_n 2, 1) := by decide +kernel
theorem dX9_buildMaking_52 : decode cX9_buildMaking 52 = .ok (.iaload, 1) := by decide +kernel
theorem dX9_buildMaking_53 : decode cX9_buildMaking 53 = .ok (.iconst (-1), 1) := by decide +kernel
theorem dX9_buildMaking_54 : decode cX9_buildMaking 54 = .ok (.if_icmp .eq 13, 3) := by decide +kernel
theorem dX9_buildMaking_57 : decode cX9_buildMaking 57 = .ok (.aload_n 1, 1) := by decide +kernel
theorem dX9_buildMaking_58 : decode cX9_buildMaking 58 = .ok (.sipush 133, 3) := by decide +kernel
theorem dX9_buildMaking_61 : decode cX9_buildMaking 61 = .ok (.invokevirtual 134, 3) := by decide +kernel
theorem dX9_buildMaking_64 : decode cX9_buildMaking 64 = .ok (.ifCond .ne 5, 3) := by decide +kernel
theorem dX9_buildMaking_67 : decode cX9_buildMaking 67 = .ok (.iconst 0, 1) := by decide +kernel
theorem dX9_buildMaking_68 : decode cX9_buildMaking 68 = .ok (.ireturn, 1) := by decide +kernel
theorem dX9_buildMaking_69 : decode cX9_buildMaking 69 = .ok (.aload_n 0, 1) := by decide +kernel
theorem dX9_buildMaking_70 : decode cX9_buildMaking 70 = .ok (.getfield 27, 3) := by decide +kernel
theorem dX9_buildMaking_73 : decode cX9_buildMaking 73 = .ok (.iload_n 2, 1) := by decide +kernel
theorem dX9_buildMaking_74 : decode cX9_buildMaking 74 = .ok (.aload_n 1, 1) := by decide +kernel
theorem dX9_buildMaking_75 : decode cX9_buildMaking 75 = .ok (.iconst 1, 1) := by decide +kernel
theorem dX9_buildMaking_76 : decode cX9_buildMaking 76 = .ok (.bipush 24, 2) := by decide +kernel
theorem dX9_buildMaking_78 : decode cX9_buildMaking 78 = .ok (.invokevirtual 141, 3) := by decide +kernel
theorem dX9_buildMaking_81 : decode cX9_buildMaking 81 = .ok (.iastore, 1) := by decide +kernel
theorem dX9_buildMaking_82 : decode cX9_buildMaking 82 = .ok (.aload_n 0, 1) := by decide +kernel
theorem dX9_buildMaking_83 : decode cX9_buildMaking 83 = .ok (.getfield 27, 3) := by decide +kernel
theorem dX9_buildMaking_86 : decode cX9_buildMaking 86 = .ok (.iload_n 2, 1) := by decide +kernel
theorem dX9_buildMaking_87 : decode cX9_buildMaking 87 = .ok (.iaload, 1) := by decide +kernel
theorem dX9_buildMaking_88 : decode cX9_buildMaking 88 = .ok (.iconst (-1), 1) := by decide +kernel
theorem dX9_buildMaking_89 : decode cX9_buildMaking 89 = .ok (.if_icmp .eq 13, 3) := by decide +kernel
theorem dX9_buildMaking_92 : decode cX9_buildMaking 92 = .ok (.aload_n 1, 1) := by decide +kernel
theorem dX9_buildMaking_93 : decode cX9_buildMaking 93 = .ok (.sipush 134, 3) := by decide +kernel
theorem dX9_buildMaking_96 : decode cX9_buildMaking 96 = .ok (.invokevirtual 134, 3) := by decide +kernel
theorem dX9_buildMaking_99 : decode cX9_buildMaking 99 = .ok (.ifCond .ne 5, 3) := by decide +kernel
theorem dX9_buildMaking_102 : decode cX9_buildMaking 102 = .ok (.iconst 0, 1) := by decide +kernel
theorem dX9_buildMaking_103 : decode cX9_buildMaking 103 = .ok (.ireturn, 1) := by decide +kernel
theorem dX9_buildMaking_104 : decode cX9_buildMaking 104 = .ok (.aload_n 0, 1) := by decide +kernel
theorem dX9_buildMaking_105 : decode cX9_buildMaking 105 = .ok (.getfield 30, 3) := by decide +kernel
theorem dX9_buildMaking_108 : decode cX9_buildMaking 108 = .ok (.iload_n 2, 1) := by decide +kernel
theorem dX9_buildMaking_109 : decode cX9_buildMaking 109 = .ok (.aload_n 1, 1) := by decide +kernel
theorem dX9_buildMaking_110 : decode cX9_buildMaking 110 = .ok (.iconst 1, 1) := by decide +kernel
theorem dX9_buildMaking_111 : decode cX9_buildMaking 111 = .ok (.iconst 3, 1) := by decide +kernel
theorem dX9_buildMaking_112 : decode cX9_buildMaking 112 = .ok (.invokevirtual 141, 3) := by decide +kernel
theorem dX9_buildMaking_115 : decode cX9_buildMaking 115 = .ok (.iastore, 1) := by decide +kernel
theorem dX9_buildMaking_116 : decode cX9_buildMaking 116 = .ok (.aload_n 0, 1) := by decide +kernel
theorem dX9_buildMaking_117 : decode cX9_buildMaking 117 = .ok (.getfield 30, 3) := by decide +kernel
theorem dX9_buildMaking_120 : decode cX9_buildMaking 120 = .ok (.iload_n 2, 1) := by decide +kernel
theorem dX9_buildMaking_121 : decode cX9_buildMaking 121 = .ok (.iaload, 1) := by decide +kernel
theorem dX9_buildMaking_122 : decode cX9_buildMaking 122 = .ok (.iconst (-1), 1) := by decide +kernel
theorem dX9_buildMaking_123 : decode cX9_buildMaking 123 = .ok (.if_icmp .ne 5, 3) := by decide +kernel
theorem dX9_buildMaking_126 : decode cX9_buildMaking 126 = .ok (.iconst 0, 1) := by decide +kernel
theorem dX9_buildMaking_127 : decode cX9_buildMaking 127 = .ok (.ireturn, 1) := by decide +kernel
theorem dX9_buildMaking_128 : decode cX9_buildMaking 128 = .ok (.aload_n 0, 1) := by decide +kernel
theorem dX9_buildMaking_129 : decode cX9_buildMaking 129 = .ok (.getfield 33, 3) := by decide +kernel
theorem dX9_buildMaking_132 : decode cX9_buildMaking 132 = .ok (.iload_n 2, 1) := by decide +kernel
theorem dX9_buildMaking_133 : decode cX9_buildMaking 133 = .ok (.iconst 0, 1) := by decide +kernel
theorem dX9_buildMaking_134 : decode cX9_buildMaking 134 = .ok (.iastore, 1) := by decide +kernel
theorem dX9_buildMaking_135 : decode cX9_buildMaking 135 = .ok (.aload_n 0, 1) := by decide +kernel
theorem dX9_buildMaking_136 : decode cX9_buildMaking 136 = .ok (.getfield 36, 3) := by decide +kernel
theorem dX9_buildMaking_139 : decode cX9_buildMaking 139 = .ok (.iload_n 2, 1) := by decide +kernel
theorem dX9_buildMaking_140 : decode cX9_buildMaking 140 = .ok (.iconst 0, 1) := by decide +kernel
theorem dX9_buildMaking_141 : decode cX9_buildMaking 141 = .ok (.iastore, 1) := by decide +kernel
theorem dX9_buildMaking_142 : decode cX9_buildMaking 142 = .ok (.aload_n 1, 1) := by decide +kernel
theorem dX9_buildMaking_143 : decode cX9_buildMaking 143 = .ok (.invokevirtual 80, 3) := by decide +kernel
theorem dX9_buildMaking_146 : decode cX9_buildMaking 146 = .ok (.sipush 135, 3) := by decide +kernel
theorem dX9_buildMaking_149 : decode cX9_buildMaking 149 = .ok (.if_icmp .ne 33, 3) := by decide +kernel
theorem dX9_buildMaking_152 : decode cX9_buildMaking 152 = .ok (.aload_n 1, 1) := by decide +kernel
theorem dX9_buildMaking_153 : decode cX9_buildMaking 153 = .ok (.invokevirtual 131, 3) := by decide +kernel
theorem dX9_buildMaking_156 : decode cX9_buildMaking 156 = .ok (.aload_n 0, 1) := by decide +kernel
theorem dX9_buildMaking_157 : decode cX9_buildMaking 157 = .ok (.getfield 33, 3) := by decide +kernel
theorem dX9_buildMaking_160 : decode cX9_buildMaking 160 = .ok (.iload_n 2, 1) := by decide +kernel
theorem dX9_buildMaking_161 : decode cX9_buildMaking 161 = .ok (.aload_n 1, 1) := by decide +kernel
theorem dX9_buildMaking_162 : decode cX9_buildMaking 162 = .ok (.aload_n 0, 1) := by decide +kernel
theorem dX9_buildMaking_163 : decode cX9_buildMaking 163 = .ok (.getfield 14, 3) := by decide +kernel
theorem dX9_buildMaking_166 : decode cX9_buildMaking 166 = .ok (.iconst 0, 1) := by decide +kernel
theorem dX9_buildMaking_167 : decode cX9_buildMaking 167 = .ok (.invokevirtual 145, 3) := by decide +kernel
theorem dX9_buildMaking_170 : decode cX9_buildMaking 170 = .ok (.iastore, 1) := by decide +kernel
theorem dX9_buildMaking_171 : decode cX9_buildMaking 171 = .ok (.aload_n 0, 1) := by decide +kernel
theorem dX9_buildMaking_172 : decode cX9_buildMaking 172 = .ok (.getfield 33, 3) := by decide +kernel
theorem dX9_buildMaking_175 : decode cX9_buildMaking 175 = .ok (.iload_n 2, 1) := by decide +kernel
theorem dX9_buildMaking_176 : decode cX9_buildMaking 176 = .ok (.iaload, 1) := by decide +kernel
theorem dX9_buildMaking_177 : decode cX9_buildMaking 177 = .ok (.ifCond .ne 5, 3) := by decide +kernel
theorem dX9_buildMaking_180 : decode cX9_buildMaking 180 = .ok (.iconst 0, 1) := by decide +kernel
theorem dX9_buildMaking_181 : decode cX9_buildMaking 181 = .ok (.ireturn, 1) := by decide +kernel
theorem dX9_buildMaking_182 : decode cX9_buildMaking 182 = .ok (.aload_n 1, 1) := by decide +kernel
theorem dX9_buildMaking_183 : decode cX9_buildMaking 183 = .ok (.invokevirtual 80, 3) := by decide +kernel
theorem dX9_buildMaking_186 : decode cX9_buildMaking 186 = .ok (.sipush 136, 3) := by decide +kernel
theorem dX9_buildMaking_189 : decode cX9_buildMaking 189 = .ok (.if_icmp .ne 38, 3) := by decide +kernel
theorem dX9_buildMaking_192 : decode cX9_buildMaking 192 = .ok (.aload_n 1, 1) := by decide +kernel
theorem dX9_buildMaking_193 : decode cX9_buildMaking 193 = .ok (.invokevirtual 131, 3) := by decide +kernel
theorem dX9_buildMaking_196 : decode cX9_buildMaking 196 = .ok (.aload_n 0, 1) := by decide +kernel
theorem dX9_buildMaking_197 : decode cX9_buildMaking 197 = .ok (.getfield 36, 3) := by decide +kernel
theorem dX9_buildMaking_200 : decode cX9_buildMaking 200 = .ok (.iload_n 2, 1) := by decide +kernel
theorem dX9_buildMaking_201 : decode cX9_buildMaking 201 = .ok (.aload_n 1, 1) := by decide +kernel
theorem dX9_buildMaking_202 : decode cX9_buildMaking 202 = .ok (.aload_n 0, 1) := by decide +kernel
theorem dX9_buildMaking_203 : decode cX9_buildMaking 203 = .ok (.getfield 14, 3) := by decide +kernel
theorem dX9_buildMaking_206 : decode cX9_buildMaking 206 = .ok (.aload_n 0, 1) := by decide +kernel
theorem dX9_buildMaking_207 : decode cX9_buildMaking 207 = .ok (.getfield 33, 3) := by decide +kernel
theorem dX9_buildMaking_210 : decode cX9_buildMaking 210 = .ok (.iload_n 2, 1) := by decide +kernel
theorem dX9_buildMaking_211 : decode cX9_buildMaking 211 = .ok (.iaload, 1) := by decide +kernel
theorem dX9_buildMaking_212 : decode cX9_buildMaking 212 = .ok (.invokevirtual 145, 3) := by decide +kernel
theorem dX9_buildMaking_215 : decode cX9_buildMaking 215 = .ok (.iastore, 1) := by decide +kernel
theorem dX9_buildMaking_216 : decode cX9_buildMaking 216 = .ok (.aload_n 0, 1) := by decide +kernel
theorem dX9_buildMaking_217 : decode cX9_buildMaking 217 = .ok (.getfield 36, 3) := by decide +kernel
theorem dX9_buildMaking_220 : decode cX9_buildMaking 220 = .ok (.iload_n 2, 1) := by decide +kernel
theorem dX9_buildMaking_221 : decode cX9_buildMaking 221 = .ok (.iaload, 1) := by decide +kernel
theorem dX9_buildMaking_222 : decode cX9_buildMaking 222 = .ok (.ifCond .ne 5, 3) := by decide +kernel
theorem dX9_buildMaking_225 : decode cX9_buildMaking 225 = .ok (.iconst 0, 1) := by decide +kernel
theorem dX9_buildMaking_226 : decode cX9_buildMaking 226 = .ok (.ireturn, 1) := by decide +kernel
theorem dX9_buildMaking_227 : decode cX9_buildMaking 227 = .ok (.aload_n 1, 1) := by decide +kernel
theorem dX9_buildMaking_228 : decode cX9_buildMaking 228 = .ok (.bipush 59, 2) := by decide +kernel
theorem dX9_buildMaking_230 : decode cX9_buildMaking 230 = .ok (.invokevirtual 134, 3) := by decide +kernel
theorem dX9_buildMaking_233 : decode cX9_buildMaking 233 = .ok (.ireturn, 1) := by decide +kernel
theorem dX9_buildPerson_0 : decode cX9_buildPerson 0 = .ok (.aload_n 0, 1) := by decide +kernel
theorem dX9_buildPerson_1 : decode cX9_buildPerson 1 = .ok (.getfield 39, 3) := by decide +kernel
theorem dX9_buildPerson_4 : decode cX9_buildPerson 4 = .ok (.getfield 93, 3) := by decide +kernel
theorem dX9_buildPerson_7 : decode cX9_buildPerson 7 = .ok (.istore_n 2, 1) := by decide +kernel
theorem dX9_buildPerson_8 : decode cX9_buildPerson 8 = .ok (.aload_n 0, 1) := by decide +kernel
theorem dX9_buildPerson_9 : decode cX9_buildPerson 9 = .ok (.aload_n 1, 1) := by decide +kernel
theorem dX9_buildPerson_10 : decode cX9_buildPerson 10 = .ok (.aload_n 0, 1) := by decide +kernel
theorem dX9_buildPerson_11 : decode cX9_buildPerson 11 = .ok (.getfield 39, 3) := by decide +kernel
theorem dX9_buildPerson_14 : decode cX9_buildPerson 14 = .ok (.invokevirtual 127, 3) := by decide +kernel
theorem dX9_buildPerson_17 : decode cX9_buildPerson 17 = .ok (.ifCond .eq 13, 3) := by decide +kernel
theorem dX9_buildPerson_20 : decode cX9_buildPerson 20 = .ok (.aload_n 1, 1) := by decide +kernel
theorem dX9_buildPerson_21 : decode cX9_buildPerson 21 = .ok (.sipush 138, 3) := by decide +kernel
theorem dX9_buildPerson_24 : decode cX9_buildPerson 24 = .ok (.invokevirtual 134, 3) := by decide +kernel
theorem dX9_buildPerson_27 : decode cX9_buildPerson 27 = .ok (.ifCond .ne 5, 3) := by decide +kernel
theorem dX9_buildPerson_30 : decode cX9_buildPerson 30 = .ok (.iconst 0, 1) := by decide +kernel
theorem dX9_buildPerson_31 : decode cX9_buildPerson 31 = .ok (.ireturn, 1) := by decide +kernel
theorem dX9_buildPerson_32 : decode cX9_buildPerson 32 = .ok (.aload_n 1, 1) := by decide +kernel
theorem dX9_buildPerson_33 : decode cX9_buildPerson 33 = .ok (.iconst 0, 1) := by decide +kernel
theorem dX9_buildPerson_34 : decode cX9_buildPerson 34 = .ok (.bipush 24, 2) := by decide +kernel
theorem dX9_buildPerson_36 : decode cX9_buildPerson 36 = .ok (.invokevirtual 141, 3) := by decide +kernel
theorem dX9_buildPerson_39 : decode cX9_buildPerson 39 = .ok (.istore_n 3, 1) := by decide +kernel
theorem dX9_buildPerson_40 : decode cX9_buildPerson 40 = .ok (.iload_n 3, 1) := by decide +kernel
theorem dX9_buildPerson_41 : decode cX9_buildPerson 41 = .ok (.iconst (-1), 1) := by decide +kernel
theorem dX9_buildPerson_42 : decode cX9_buildPerson 42 = .ok (.if_icmp .eq 13, 3) := by decide +kernel
theorem dX9_buildPerson_45 : decode cX9_buildPerson 45 = .ok (.aload_n 1, 1) := by decide +kernel
theorem dX9_buildPerson_46 : decode cX9_buildPerson 46 = .ok (.sipush 139, 3) := by decide +kernel
theorem dX9_buildPerson_49 : decode cX9_buildPerson 49 = .ok (.invokevirtual 134, 3) := by decide +kernel
theorem dX9_buildPerson_52 : decode cX9_buildPerson 52 = .ok (.ifCond .ne 5, 3) := by decide +kernel
theorem dX9_buildPerson_55 : decode cX9_buildPerson 55 = .ok (.iconst 0, 1) := by decide +kernel
theorem dX9_buildPerson_56 : decode cX9_buildPerson 56 = .ok (.ireturn, 1) := by decide +kernel
theorem dX9_buildPerson_57 : decode cX9_buildPerson 57 = .ok (.aload_n 1, 1) := by decide +kernel
theorem dX9_buildPerson_58 : decode cX9_buildPerson 58 = .ok (.iconst 0, 1) := by decide +kernel
theorem dX9_buildPerson_59 : decode cX9_buildPerson 59 = .ok (.bipush 24, 2) := by decide +kernel
theorem dX9_buildPerson_61 : decode cX9_buildPerson 61 = .ok (.invokevirtual 141, 3) := by decide +kernel
theorem dX9_buildPerson_64 : decode cX9_buildPerson 64 = .ok (.istore 4, 2) := by decide +kernel
theorem dX9_buildPerson_66 : decode cX9_buildPerson 66 = .ok (.iload 4, 2) := by decide +kernel
theorem dX9_buildPerson_68 : decode cX9_buildPerson 68 = .ok (.iconst (-1), 1) := by decide +kernel
theorem dX9_buildPerson_69 : decode cX9_buildPerson 69 = .ok (.if_icmp .ne 5, 3) := by decide +kernel
theorem dX9_buildPerson_72 : decode cX9_buildPerson 72 = .ok (.iconst 0, 1) := by decide +kernel
theorem dX9_buildPerson_73 : decode cX9_buildPerson 73 = .ok (.ireturn, 1) := by decide +kernel
theorem dX9_buildPerson_74 : decode cX9_buildPerson 74 = .ok (.aload_n 0, 1) := by decide +kernel
theorem dX9_buildPerson_75 : decode cX9_buildPerson 75 = .ok (.getfield 42, 3) := by decide +kernel
theorem dX9_buildPerson_78 : decode cX9_buildPerson 78 = .ok (.iload_n 2, 1) := by decide +kernel
theorem dX9_buildPerson_79 : decode cX9_buildPerson 79 = .ok (.iload_n 3, 1) := by decide +kernel
theorem dX9_buildPerson_80 : decode cX9_buildPerson 80 = .ok (.iload 4, 2) := by decide +kernel
theorem dX9_buildPerson_82 : decode cX9_buildPerson 82 = .ok (.invokestatic 148, 3) := by decide +kernel
theorem dX9_buildPerson_85 : decode cX9_buildPerson 85 = .ok (.iastore, 1) := by decide +kernel
theorem dX9_buildPerson_86 : decode cX9_buildPerson 86 = .ok (.aload_n 0, 1) := by decide +kernel
theorem dX9_buildPerson_87 : decode cX9_buildPerson 87 = .ok (.getfield 45, 3) := by decide +kernel
theorem dX9_buildPerson_90 : decode cX9_buildPerson 90 = .ok (.iload_n 2, 1) := by decide +kernel
theorem dX9_buildPerson_91 : decode cX9_buildPerson 91 = .ok (.iconst 0, 1) := by decide +kernel
theorem dX9_buildPerson_92 : decode cX9_buildPerson 92 = .ok (.iastore, 1) := by decide +kernel
theorem dX9_buildPerson_93 : decode cX9_buildPerson 93 = .ok (.aload_n 1, 1) := by decide +kernel
theorem dX9_buildPerson_94 : decode cX9_buildPerson 94 = .ok (.invokevirtual 80, 3) := by decide +kernel
theorem dX9_buildPerson_97 : decode cX9_buildPerson 97 = .ok (.sipush 140, 3) := by decide +kernel
theorem dX9_buildPerson_100 : decode cX9_buildPerson 100 = .ok (.if_icmp .ne 32, 3) := by decide +kernel
theorem dX9_buildPerson_103 : decode cX9_buildPerson 103 = .ok (.aload_n 1, 1) := by decide +kernel
theorem dX9_buildPerson_104 : decode cX9_buildPerson 104 = .ok (.invokevirtual 131, 3) := by decide +kernel
theorem dX9_buildPerson_107 : decode cX9_buildPerson 107 = .ok (.aload_n 0, 1) := by decide +kernel
theorem dX9_buildPerson_108 : decode cX9_buildPerson 108 = .ok (.getfield 45, 3) := by decide +kernel
theorem dX9_buildPerson_111 : decode cX9_buildPerson 111 = .ok (.iload_n 2, 1) := by decide +kernel
theorem dX9_buildPerson_112 : decode cX9_buildPerson 112 = .ok (.aload_n 1, 1) := by decide +kernel
theorem dX9_buildPerson_113 : decode cX9_buildPerson 113 = .ok (.iconst 0, 1) := by decide +kernel
theorem dX9_buildPerson_114 : decode cX9_buildPerson 114 = .ok (.bipush 16, 2) := by decide +kernel
theorem dX9_buildPerson_116 : decode cX9_buildPerson 116 = .ok (.invokevirtual 141, 3) := by decide +kernel
theorem dX9_buildPerson_119 : decode cX9_buildPerson 119 = .ok (.iastore, 1) := by decide +kernel
theorem dX9_buildPerson_120 : decode cX9_buildPerson 120 = .ok (.aload_n 0, 1) := by decide +kernel
theorem dX9_buildPerson_121 : decode cX9_buildPerson 121 = .ok (.getfield 45, 3) := by decide +kernel
theorem dX9_buildPerson_124 : decode cX9_buildPerson 124 = .ok (.iload_n 2, 1) := by decide +kernel
theorem dX9_buildPerson_125 : decode cX9_buildPerson 125 = .ok (.iaload, 1) := by decide +kernel
theorem dX9_buildPerson_126 : decode cX9_buildPerson 126 = .ok (.iconst (-1), 1) := by decide +kernel
theorem dX9_buildPerson_127 : decode cX9_buildPerson 127 = .ok (.if_icmp .ne 5, 3) := by decide +kernel
theorem dX9_buildPerson_130 : decode cX9_buildPerson 130 = .ok (.iconst 0, 1) := by decide +kernel
theorem dX9_buildPerson_131 : decode cX9_buildPerson 131 = .ok (.ireturn, 1) := by decide +kernel
theorem dX9_buildPerson_132 : decode cX9_buildPerson 132 = .ok (.aload_n 1, 1) := by decide +kernel
theorem dX9_buildPerson_133 : decode cX9_buildPerson 133 = .ok (.bipush 59, 2) := by decide +kernel
theorem dX9_buildPerson_135 : decode cX9_buildPerson 135 = .ok (.invokevirtual 134, 3) := by decide +kernel
theorem dX9_buildPerson_138 : decode cX9_buildPerson 138 = .ok (.ireturn, 1) := by decide +kernel
theorem dX9_buildWant_0 : decode cX9_buildWant 0 = .ok (.aload_n 0, 1) := by decide +kernel
theorem dX9_buildWant_1 : decode cX9_buildWant 1 = .ok (.getfield 103, 3) := by decide +kernel
theorem dX9_buildWant_4 : decode cX9_buildWant 4 = .ok (.istore_n 2, 1) := by decide +kernel
theorem dX9_buildWant_5 : decode cX9_buildWant 5 = .ok (.iload_n 2, 1) := by decide +kernel
theorem dX9_buildWant_6 : decode cX9_buildWant 6 = .ok (.bipush 8, 2) := by decide +kernel
theorem dX9_buildWant_8 : decode cX9_buildWant 8 = .ok (.if_icmp .lt 10, 3) := by decide +kernel
theorem dX9_buildWant_11 : decode cX9_buildWant 11 = .ok (.aload_n 1, 1) := by decide +kernel
theorem dX9_buildWant_12 : decode cX9_buildWant 12 = .ok (.bipush 6, 2) := by decide +kernel
theorem dX9_buildWant_14 : decode cX9_buildWant 14 = .ok (.invokevirtual 123, 3) := by decide +kernel
theorem dX9_buildWant_17 : decode cX9_buildWant 17 = .ok (.ireturn, 1) := by decide +kernel
theorem dX9_buildWant_18 : decode cX9_buildWant 18 = .ok (.aload_n 0, 1) := by decide +kernel
theorem dX9_buildWant_19 : decode cX9_buildWant 19 = .ok (.dup, 1) := by decide +kernel
theorem dX9_buildWant_20 : decode cX9_buildWant 20 = .ok (.getfield 103, 3) := by decide +kernel
theorem dX9_buildWant_23 : decode cX9_buildWant 23 = .ok (.iconst 1, 1) := by decide +kernel
theorem dX9_buildWant_24 : decode cX9_buildWant 24 = .ok (.iadd, 1) := by decide +kernel
theorem dX9_buildWant_25 : decode cX9_buildWant 25 = .ok (.putfield 103, 3) := by decide +kernel
theorem dX9_buildWant_28 : decode cX9_buildWant 28 = .ok (.aload_n 1, 1) := by decide +kernel
theorem dX9_buildWant_29 : decode cX9_buildWant 29 = .ok (.invokevirtual 131, 3) := by decide +kernel
theorem dX9_buildWant_32 : decode cX9_buildWant 32 = .ok (.aload_n 0, 1) := by decide +kernel
theorem dX9_buildWant_33 : decode cX9_buildWant 33 = .ok (.getfield 48, 3) := by decide +kernel
theorem dX9_buildWant_36 : decode cX9_buildWant 36 = .ok (.iload_n 2, 1) := by decide +kernel
theorem dX9_buildWant_37 : decode cX9_buildWant 37 = .ok (.aload_n 1, 1) := by decide +kernel
theorem dX9_buildWant_38 : decode cX9_buildWant 38 = .ok (.aload_n 0, 1) := by decide +kernel
theorem dX9_buildWant_39 : decode cX9_buildWant 39 = .ok (.getfield 14, 3) := by decide +kernel
theorem dX9_buildWant_42 : decode cX9_buildWant 42 = .ok (.iconst 0, 1) := by decide +kernel
theorem dX9_buildWant_43 : decode cX9_buildWant 43 = .ok (.invokevirtual 137, 3) := by decide +kernel
theorem dX9_buildWant_46 : decode cX9_buildWant 46 = .ok (.iastore, 1) := by decide +kernel
theorem dX9_buildWant_47 : decode cX9_buildWant 47 = .ok (.aload_n 0, 1) := by decide +kernel
theorem dX9_buildWant_48 : decode cX9_buildWant 48 = .ok (.getfield 48, 3) := by decide +kernel
theorem dX9_buildWant_51 : decode cX9_buildWant 51 = .ok (.iload_n 2, 1) := by decide +kernel
theorem dX9_buildWant_52 : decode cX9_buildWant 52 = .ok (.iaload, 1) := by decide +kernel
theorem dX9_buildWant_53 : decode cX9_buildWant 53 = .ok (.iconst (-1), 1) := by decide +kernel
theorem dX9_buildWant_54 : decode cX9_buildWant 54 = .ok (.if_icmp .eq 13, 3) := by decide +kernel
theorem dX9_buildWant_57 : decode cX9_buildWant 57 = .ok (.aload_n 1, 1) := by decide +kernel
theorem dX9_buildWant_58 : decode cX9_buildWant 58 = .ok (.sipush 142, 3) := by decide +kernel
theorem dX9_buildWant_61 : decode cX9_buildWant 61 = .ok (.invokevirtual 134, 3) := by decide +kernel
theorem dX9_buildWant_64 : decode cX9_buildWant 64 = .ok (.ifCond .ne 5, 3) := by decide +kernel
theorem dX9_buildWant_67 : decode cX9_buildWant 67 = .ok (.iconst 0, 1) := by decide +kernel
theorem dX9_buildWant_68 : decode cX9_buildWant 68 = .ok (.ireturn, 1) := by decide +kernel
theorem dX9_buildWant_69 : decode cX9_buildWant 69 = .ok (.aload_n 0, 1) := by decide +kernel
theorem dX9_buildWant_70 : decode cX9_buildWant 70 = .ok (.getfield 51, 3) := by decide +kernel
theorem dX9_buildWant_73 : decode cX9_buildWant 73 = .ok (.iload_n 2, 1) := by decide +kernel
theorem dX9_buildWant_74 : decode cX9_buildWant 74 = .ok (.aload_n 1, 1) := by decide +kernel
theorem dX9_buildWant_75 : decode cX9_buildWant 75 = .ok (.iconst 0, 1) := by decide +kernel
theorem dX9_buildWant_76 : decode cX9_buildWant 76 = .ok (.bipush 24, 2) := by decide +kernel
theorem dX9_buildWant_78 : decode cX9_buildWant 78 = .ok (.invokevirtual 141, 3) := by decide +kernel
theorem dX9_buildWant_81 : decode cX9_buildWant 81 = .ok (.iastore, 1) := by decide +kernel
theorem dX9_buildWant_82 : decode cX9_buildWant 82 = .ok (.aload_n 0, 1) := by decide +kernel
theorem dX9_buildWant_83 : decode cX9_buildWant 83 = .ok (.getfield 51, 3) := by decide +kernel
theorem dX9_buildWant_86 : decode cX9_buildWant 86 = .ok (.iload_n 2, 1) := by decide +kernel
theorem dX9_buildWant_87 : decode cX9_buildWant 87 = .ok (.iaload, 1) := by decide +kernel
theorem dX9_buildWant_88 : decode cX9_buildWant 88 = .ok (.iconst (-1), 1) := by decide +kernel
theorem dX9_buildWant_89 : decode cX9_buildWant 89 = .ok (.if_icmp .eq 13, 3) := by decide +kernel
theorem dX9_buildWant_92 : decode cX9_buildWant 92 = .ok (.aload_n 1, 1) := by decide +kernel
theorem dX9_buildWant_93 : decode cX9_buildWant 93 = .ok (.sipush 143, 3) := by decide +kernel
theorem dX9_buildWant_96 : decode cX9_buildWant 96 = .ok (.invokevirtual 134, 3) := by decide +kernel
theorem dX9_buildWant_99 : decode cX9_buildWant 99 = .ok (.ifCond .ne 5, 3) := by decide +kernel
theorem dX9_buildWant_102 : decode cX9_buildWant 102 = .ok (.iconst 0, 1) := by decide +kernel
theorem dX9_buildWant_103 : decode cX9_buildWant 103 = .ok (.ireturn, 1) := by decide +kernel
theorem dX9_buildWant_104 : decode cX9_buildWant 104 = .ok (.aload_n 0, 1) := by decide +kernel
theorem dX9_buildWant_105 : decode cX9_buildWant 105 = .ok (.getfield 54, 3) := by decide +kernel
theorem dX9_buildWant_108 : decode cX9_buildWant 108 = .ok (.iload_n 2, 1) := by decide +kernel
theorem dX9_buildWant_109 : decode cX9_buildWant 109 = .ok (.aload_n 1, 1) := by decide +kernel
theorem dX9_buildWant_110 : decode cX9_buildWant 110 = .ok (.iconst 1, 1) := by decide +kernel
theorem dX9_buildWant_111 : decode cX9_buildWant 111 = .ok (.sipush 999, 3) := by decide +kernel
theorem dX9_buildWant_114 : decode cX9_buildWant 114 = .ok (.invokevirtual 141, 3) := by decide +kernel
theorem dX9_buildWant_117 : decode cX9_buildWant 117 = .ok (.iastore, 1) := by decide +kernel
theorem dX9_buildWant_118 : decode cX9_buildWant 118 = .ok (.aload_n 0, 1) := by decide +kernel
theorem dX9_buildWant_119 : decode cX9_buildWant 119 = .ok (.getfield 54, 3) := by decide +kernel
theorem dX9_buildWant_122 : decode cX9_buildWant 122 = .ok (.iload_n 2, 1) := by decide +kernel
theorem dX9_buildWant_123 : decode cX9_buildWant 123 = .ok (.iaload, 1) := by decide +kernel
theorem dX9_buildWant_124 : decode cX9_buildWant 124 = .ok (.iconst (-1), 1) := by decide +kernel
theorem dX9_buildWant_125 : decode cX9_buildWant 125 = .ok (.if_icmp .ne 5, 3) := by decide +kernel
theorem dX9_buildWant_128 : decode cX9_buildWant 128 = .ok (.iconst 0, 1) := by decide +kernel
theorem dX9_buildWant_129 : decode cX9_buildWant 129 = .ok (.ireturn, 1) := by decide +kernel
theorem dX9_buildWant_130 : decode cX9_buildWant 130 = .ok (.aload_n 1, 1) := by decide +kernel
theorem dX9_buildWant_131 : decode cX9_buildWant 131 = .ok (.invokevirtual 80, 3) := by decide +kernel
theorem dX9_buildWant_134 : decode cX9_buildWant 134 = .ok (.sipush 144, 3) := by decide +kernel
theorem dX9_buildWant_137 : decode cX9_buildWant 137 = .ok (.if_icmp .ne 19, 3) := by decide +kernel
theorem dX9_buildWant_140 : decode cX9_buildWant 140 = .ok (.aload_n 0, 1) := by decide +kernel
theorem dX9_buildWant_141 : decode cX9_buildWant 141 = .ok (.dup, 1) := by decide +kernel
theorem dX9_buildWant_142 : decode cX9_buildWant 142 = .ok (.getfield 106, 3) := by decide +kernel
theorem dX9_buildWant_145 : decode cX9_buildWant 145 = .ok (.iconst 1, 1) := by decide +kernel
theorem dX9_buildWant_146 : decode cX9_buildWant 146 = .ok (.iload_n 2, 1) := by decide +kernel
theorem dX9_buildWant_147 : decode cX9_buildWant 147 = .ok (.ishl, 1) := by decide +kernel
theorem dX9_buildWant_148 : decode cX9_buildWant 148 = .ok (.ior, 1) := by decide +kernel
theorem dX9_buildWant_149 : decode cX9_buildWant 149 = .ok (.putfield 106, 3) := by decide +kernel
theorem dX9_buildWant_152 : decode cX9_buildWant 152 = .ok (.aload_n 1, 1) := by decide +kernel
theorem dX9_buildWant_153 : decode cX9_buildWant 153 = .ok (.invokevirtual 131, 3) := by decide +kernel
theorem dX9_buildWant_156 : decode cX9_buildWant 156 = .ok (.aload_n 1, 1) := by decide +kernel
theorem dX9_buildWant_157 : decode cX9_buildWant 157 = .ok (.bipush 59, 2) := by decide +kernel
theorem dX9_buildWant_159 : decode cX9_buildWant 159 = .ok (.invokevirtual 134, 3) := by decide +kernel
theorem dX9_buildWant_162 : decode cX9_buildWant 162 = .ok (.ireturn, 1) := by decide +kernel
theorem dX9_buildName_0 : decode cX9_buildName 0 = .ok (.aload_n 2, 1) := by decide +kernel
theorem dX9_buildName_1 : decode cX9_buildName 1 = .ok (.invokevirtual 151, 3) := by decide +kernel
theorem dX9_buildName_4 : decode cX9_buildName 4 = .ok (.ifCond .eq 10, 3) := by decide +kernel
theorem dX9_buildName_7 : decode cX9_buildName 7 = .ok (.aload_n 1, 1) := by decide +kernel
theorem dX9_buildName_8 : decode cX9_buildName 8 = .ok (.bipush 6, 2) := by decide +kernel
theorem dX9_buildName_10 : decode cX9_buildName 10 = .ok (.invokevirtual 123, 3) := by decide +kernel
theorem dX9_buildName_13 : decode cX9_buildName 13 = .ok (.ireturn, 1) := by decide +kernel
theorem dX9_buildName_14 : decode cX9_buildName 14 = .ok (.aload_n 1, 1) := by decide +kernel
theorem dX9_buildName_15 : decode cX9_buildName 15 = .ok (.invokevirtual 131, 3) := by decide +kernel
theorem dX9_buildName_18 : decode cX9_buildName 18 = .ok (.aload_n 1, 1) := by decide +kernel
theorem dX9_buildName_19 : decode cX9_buildName 19 = .ok (.invokevirtual 80, 3) := by decide +kernel
theorem dX9_buildName_22 : decode cX9_buildName 22 = .ok (.iconst 3, 1) := by decide +kernel
theorem dX9_buildName_23 : decode cX9_buildName 23 = .ok (.if_icmp .eq 9, 3) := by decide +kernel
theorem dX9_buildName_26 : decode cX9_buildName 26 = .ok (.aload_n 1, 1) := by decide +kernel
theorem dX9_buildName_27 : decode cX9_buildName 27 = .ok (.iconst 2, 1) := by decide +kernel
theorem dX9_buildName_28 : decode cX9_buildName 28 = .ok (.invokevirtual 123, 3) := by decide +kernel
theorem dX9_buildName_31 : decode cX9_buildName 31 = .ok (.ireturn, 1) := by decide +kernel
theorem dX9_buildName_32 : decode cX9_buildName 32 = .ok (.aload_n 0, 1) := by decide +kernel
theorem dX9_buildName_33 : decode cX9_buildName 33 = .ok (.getfield 14, 3) := by decide +kernel
theorem dX9_buildName_36 : decode cX9_buildName 36 = .ok (.aload_n 1, 1) := by decide +kernel
theorem dX9_buildName_37 : decode cX9_buildName 37 = .ok (.invokevirtual 155, 3) := by decide +kernel
theorem dX9_buildName_40 : decode cX9_buildName 40 = .ok (.invokevirtual 159, 3) := by decide +kernel
theorem dX9_buildName_43 : decode cX9_buildName 43 = .ok (.iconst (-1), 1) := by decide +kernel
theorem dX9_buildName_44 : decode cX9_buildName 44 = .ok (.if_icmp .ne 33, 3) := by decide +kernel
theorem dX9_buildName_47 : decode cX9_buildName 47 = .ok (.aload_n 0, 1) := by decide +kernel
theorem dX9_buildName_48 : decode cX9_buildName 48 = .ok (.getfield 20, 3) := by decide +kernel
theorem dX9_buildName_51 : decode cX9_buildName 51 = .ok (.aload_n 1, 1) := by decide +kernel
theorem dX9_buildName_52 : decode cX9_buildName 52 = .ok (.invokevirtual 155, 3) := by decide +kernel
theorem dX9_buildName_55 : decode cX9_buildName 55 = .ok (.invokevirtual 159, 3) := by decide +kernel
theorem dX9_buildName_58 : decode cX9_buildName 58 = .ok (.iconst (-1), 1) := by decide +kernel
theorem dX9_buildName_59 : decode cX9_buildName 59 = .ok (.if_icmp .ne 18, 3) := by decide +kernel
theorem dX9_buildName_62 : decode cX9_buildName 62 = .ok (.aload_n 0, 1) := by decide +kernel
theorem dX9_buildName_63 : decode cX9_buildName 63 = .ok (.getfield 39, 3) := by decide +kernel
theorem dX9_buildName_66 : decode cX9_buildName 66 = .ok (.aload_n 1, 1) := by decide +kernel
theorem dX9_buildName_67 : decode cX9_buildName 67 = .ok (.invokevirtual 155, 3) := by decide +kernel
theorem dX9_buildName_70 : decode cX9_buildName 70 = .ok (.invokevirtual 159, 3) := by decide +kernel
theorem dX9_buildName_73 : decode cX9_buildName 73 = .ok (.iconst (-1), 1) := by decide +kernel
theorem dX9_buildName_74 : decode cX9_buildName 74 = .ok (.if_icmp .eq 9, 3) := by decide +kernel
theorem dX9_buildName_77 : decode cX9_buildName 77 = .ok (.aload_n 1, 1) := by decide +kernel
theorem dX9_buildName_78 : decode cX9_buildName 78 = .ok (.iconst 3, 1) := by decide +kernel
theorem dX9_buildName_79 : decode cX9_buildName 79 = .ok (.invokevirtual 123, 3) := by decide +kernel
theorem dX9_buildName_82 : decode cX9_buildName 82 = .ok (.ireturn, 1) := by decide +kernel
theorem dX9_buildName_83 : decode cX9_buildName 83 = .ok (.aload_n 2, 1) := by decide +kernel
theorem dX9_buildName_84 : decode cX9_buildName 84 = .ok (.aload_n 1, 1) := by decide +kernel
theorem dX9_buildName_85 : decode cX9_buildName 85 = .ok (.invokevirtual 155, 3) := by decide +kernel
theorem dX9_buildName_88 : decode cX9_buildName 88 = .ok (.invokevirtual 163, 3) := by decide +kernel
theorem dX9_buildName_91 : decode cX9_buildName 91 = .ok (.aload_n 1, 1) := by decide +kernel
theorem dX9_buildName_92 : decode cX9_buildName 92 = .ok (.invokevirtual 131, 3) := by decide +kernel
theorem dX9_buildName_95 : decode cX9_buildName 95 = .ok (.iconst 1, 1) := by decide +kernel
theorem dX9_buildName_96 : decode cX9_buildName 96 = .ok (.ireturn, 1) := by decide +kernel
theorem dX9_orderWants_0 : decode cX9_orderWants 0 = .ok (.iconst 0, 1) := by decide +kernel
theorem dX9_orderWants_1 : decode cX9_orderWants 1 = .ok (.istore_n 1, 1) := by decide +kernel
theorem dX9_orderWants_2 : decode cX9_orderWants 2 = .ok (.iconst 0, 1) := by decide +kernel
theorem dX9_orderWants_3 : decode cX9_orderWants 3 = .ok (.istore_n 2, 1) := by decide +kernel
theorem dX9_orderWants_4 : decode cX9_orderWants 4 = .ok (.iload_n 2, 1) := by decide +kernel
theorem dX9_orderWants_5 : decode cX9_orderWants 5 = .ok (.bipush 24, 2) := by decide +kernel
theorem dX9_orderWants_7 : decode cX9_orderWants 7 = .ok (.if_icmp .gt 52, 3) := by decide +kernel
theorem dX9_orderWants_10 : decode cX9_orderWants 10 = .ok (.aload_n 0, 1) := by decide +kernel
theorem dX9_orderWants_11 : decode cX9_orderWants 11 = .ok (.getfield 60, 3) := by decide +kernel
theorem dX9_orderWants_14 : decode cX9_orderWants 14 = .ok (.iload_n 2, 1) := by decide +kernel
theorem dX9_orderWants_15 : decode cX9_orderWants 15 = .ok (.iload_n 1, 1) := by decide +kernel
theorem dX9_orderWants_16 : decode cX9_orderWants 16 = .ok (.iastore, 1) := by decide +kernel
theorem dX9_orderWants_17 : decode cX9_orderWants 17 = .ok (.iconst 0, 1) := by decide +kernel
theorem dX9_orderWants_18 : decode cX9_orderWants 18 = .ok (.istore_n 3, 1) := by decide +kernel
theorem dX9_orderWants_19 : decode cX9_orderWants 19 = .ok (.iload_n 3, 1) := by decide +kernel
theorem dX9_orderWants_20 : decode cX9_orderWants 20 = .ok (.aload_n 0, 1) := by decide +kernel
theorem dX9_orderWants_21 : decode cX9_orderWants 21 = .ok (.getfield 103, 3) := by decide +kernel
theorem dX9_orderWants_24 : decode cX9_orderWants 24 = .ok (.if_icmp .ge 29, 3) := by decide +kernel
theorem dX9_orderWants_27 : decode cX9_orderWants 27 = .ok (.aload_n 0, 1) := by decide +kernel
theorem dX9_orderWants_28 : decode cX9_orderWants 28 = .ok (.getfield 51, 3) := by decide +kernel
theorem dX9_orderWants_31 : decode cX9_orderWants 31 = .ok (.iload_n 3, 1) := by decide +kernel
theorem dX9_orderWants_32 : decode cX9_orderWants 32 = .ok (.iaload, 1) := by decide +kernel
theorem dX9_orderWants_33 : decode cX9_orderWants 33 = .ok (.iload_n 2, 1) := by decide +kernel
theorem dX9_orderWants_34 : decode cX9_orderWants 34 = .ok (.if_icmp .ne 13, 3) := by decide +kernel
theorem dX9_orderWants_37 : decode cX9_orderWants 37 = .ok (.aload_n 0, 1) := by decide +kernel
theorem dX9_orderWants_38 : decode cX9_orderWants 38 = .ok (.getfield 57, 3) := by decide +kernel
theorem dX9_orderWants_41 : decode cX9_orderWants 41 = .ok (.iload_n 1, 1) := by decide +kernel
theorem dX9_orderWants_42 : decode cX9_orderWants 42 = .ok (.iload_n 3, 1) := by decide +kernel
theorem dX9_orderWants_43 : decode cX9_orderWants 43 = .ok (.iastore, 1) := by decide +kernel
theorem dX9_orderWants_44 : decode cX9_orderWants 44 = .ok (.iinc 1 1, 3) := by decide +kernel
theorem dX9_orderWants_47 : decode cX9_orderWants 47 = .ok (.iinc 3 1, 3) := by decide +kernel
theorem dX9_orderWants_50 : decode cX9_orderWants 50 = .ok (.goto (-31), 3) := by decide +kernel
theorem dX9_orderWants_53 : decode cX9_orderWants 53 = .ok (.iinc 2 1, 3) := by decide +kernel
theorem dX9_orderWants_56 : decode cX9_orderWants 56 = .ok (.goto (-52), 3) := by decide +kernel
theorem dX9_orderWants_59 : decode cX9_orderWants 59 = .ok (.aload_n 0, 1) := by decide +kernel
theorem dX9_orderWants_60 : decode cX9_orderWants 60 = .ok (.getfield 60, 3) := by decide +kernel
theorem dX9_orderWants_63 : decode cX9_orderWants 63 = .ok (.bipush 25, 2) := by decide +kernel
theorem dX9_orderWants_65 : decode cX9_orderWants 65 = .ok (.iload_n 1, 1) := by decide +kernel
theorem dX9_orderWants_66 : decode cX9_orderWants 66 = .ok (.iastore, 1) := by decide +kernel
theorem dX9_orderWants_67 : decode cX9_orderWants 67 = .ok (.return_, 1) := by decide +kernel
theorem dX9_hoursBetween_0 : decode cX9_hoursBetween 0 = .ok (.iconst 0, 1) := by decide +kernel
theorem dX9_hoursBetween_1 : decode cX9_hoursBetween 1 = .ok (.istore_n 2, 1) := by decide +kernel
theorem dX9_hoursBetween_2 : decode cX9_hoursBetween 2 = .ok (.iconst 0, 1) := by decide +kernel
theorem dX9_hoursBetween_3 : decode cX9_hoursBetween 3 = .ok (.istore_n 3, 1) := by decide +kernel
theorem dX9_hoursBetween_4 : decode cX9_hoursBetween 4 = .ok (.iload_n 3, 1) := by decide +kernel
theorem dX9_hoursBetween_5 : decode cX9_hoursBetween 5 = .ok (.bipush 24, 2) := by decide +kernel
theorem dX9_hoursBetween_7 : decode cX9_hoursBetween 7 = .ok (.if_icmp .ge 69, 3) := by decide +kernel
theorem dX9_hoursBetween_10 : decode cX9_hoursBetween 10 = .ok (.iload_n 0, 1) := by decide +kernel
theorem dX9_hoursBetween_11 : decode cX9_hoursBetween 11 = .ok (.iload_n 3, 1) := by decide +kernel
theorem dX9_hoursBetween_12 : decode cX9_hoursBetween 12 = .ok (.if_icmp .gt 12, 3) := by decide +kernel
theorem dX9_hoursBetween_15 : decode cX9_hoursBetween 15 = .ok (.iload_n 3, 1) := by decide +kernel
theorem dX9_hoursBetween_16 : decode cX9_hoursBetween 16 = .ok (.iload_n 1, 1) := by decide +kernel
theorem dX9_hoursBetween_17 : decode cX9_hoursBetween 17 = .ok (.if_icmp .ge 7, 3) := by decide +kernel
theorem dX9_hoursBetween_20 : decode cX9_hoursBetween 20 = .ok (.iconst 1, 1) := by decide +kernel
theorem dX9_hoursBetween_21 : decode cX9_hoursBetween 21 = .ok (.goto 4, 3) := by decide +kernel
theorem dX9_hoursBetween_24 : decode cX9_hoursBetween 24 = .ok (.iconst 0, 1) := by decide +kernel
theorem dX9_hoursBetween_25 : decode cX9_hoursBetween 25 = .ok (.istore 4, 2) := by decide +kernel
theorem dX9_hoursBetween_27 : decode cX9_hoursBetween 27 = .ok (.iload_n 1, 1) := by decide +kernel
theorem dX9_hoursBetween_28 : decode cX9_hoursBetween 28 = .ok (.iload_n 0, 1) := by decide +kernel
theorem dX9_hoursBetween_29 : decode cX9_hoursBetween 29 = .ok (.if_icmp .ge 17, 3) := by decide +kernel
theorem dX9_hoursBetween_32 : decode cX9_hoursBetween 32 = .ok (.iload_n 0, 1) := by decide +kernel
theorem dX9_hoursBetween_33 : decode cX9_hoursBetween 33 = .ok (.iload_n 3, 1) := by decide +kernel
theorem dX9_hoursBetween_34 : decode cX9_hoursBetween 34 = .ok (.if_icmp .le 8, 3) := by decide +kernel
theorem dX9_hoursBetween_37 : decode cX9_hoursBetween 37 = .ok (.iload_n 3, 1) := by decide +kernel
theorem dX9_hoursBetween_38 : decode cX9_hoursBetween 38 = .ok (.iload_n 1, 1) := by decide +kernel
theorem dX9_hoursBetween_39 : decode cX9_hoursBetween 39 = .ok (.if_icmp .ge 7, 3) := by decide +kernel
theorem dX9_hoursBetween_42 : decode cX9_hoursBetween 42 = .ok (.iconst 1, 1) := by decide +kernel
theorem dX9_hoursBetween_43 : decode cX9_hoursBetween 43 = .ok (.goto 4, 3) := by decide +kernel
theorem dX9_hoursBetween_46 : decode cX9_hoursBetween 46 = .ok (.iconst 0, 1) := by decide +kernel
theorem dX9_hoursBetween_47 : decode cX9_hoursBetween 47 = .ok (.istore 5, 2) := by decide +kernel
theorem dX9_hoursBetween_49 : decode cX9_hoursBetween 49 = .ok (.iload_n 0, 1) := by decide +kernel
theorem dX9_hoursBetween_50 : decode cX9_hoursBetween 50 = .ok (.iload_n 1, 1) := by decide +kernel
theorem dX9_hoursBetween_51 : decode cX9_hoursBetween 51 = .ok (.if_icmp .eq 13, 3) := by decide +kernel
theorem dX9_hoursBetween_54 : decode cX9_hoursBetween 54 = .ok (.iload 4, 2) := by decide +kernel
theorem dX9_hoursBetween_56 : decode cX9_hoursBetween 56 = .ok (.ifCond .ne 8, 3) := by decide +kernel
theorem dX9_hoursBetween_59 : decode cX9_hoursBetween 59 = .ok (.iload 5, 2) := by decide +kernel
theorem dX9_hoursBetween_61 : decode cX9_hoursBetween 61 = .ok (.ifCond .eq 9, 3) := by decide +kernel
theorem dX9_hoursBetween_64 : decode cX9_hoursBetween 64 = .ok (.iload_n 2, 1) := by decide +kernel
theorem dX9_hoursBetween_65 : decode cX9_hoursBetween 65 = .ok (.iconst 1, 1) := by decide +kernel
theorem dX9_hoursBetween_66 : decode cX9_hoursBetween 66 = .ok (.iload_n 3, 1) := by decide +kernel
theorem dX9_hoursBetween_67 : decode cX9_hoursBetween 67 = .ok (.ishl, 1) := by decide +kernel
theorem dX9_hoursBetween_68 : decode cX9_hoursBetween 68 = .ok (.ior, 1) := by decide +kernel
theorem dX9_hoursBetween_69 : decode cX9_hoursBetween 69 = .ok (.istore_n 2, 1) := by decide +kernel
theorem dX9_hoursBetween_70 : decode cX9_hoursBetween 70 = .ok (.iinc 3 1, 3) := by decide +kernel
theorem dX9_hoursBetween_73 : decode cX9_hoursBetween 73 = .ok (.goto (-69), 3) := by decide +kernel
theorem dX9_hoursBetween_76 : decode cX9_hoursBetween 76 = .ok (.iload_n 2, 1) := by decide +kernel
theorem dX9_hoursBetween_77 : decode cX9_hoursBetween 77 = .ok (.ireturn, 1) := by decide +kernel
theorem dX9_sets_0 : decode cX9_sets 0 = .ok (.iconst 1, 1) := by decide +kernel
theorem dX9_sets_1 : decode cX9_sets 1 = .ok (.aload_n 0, 1) := by decide +kernel
theorem dX9_sets_2 : decode cX9_sets 2 = .ok (.getfield 14, 3) := by decide +kernel
theorem dX9_sets_5 : decode cX9_sets 5 = .ok (.getfield 93, 3) := by decide +kernel
theorem dX9_sets_8 : decode cX9_sets 8 = .ok (.ishl, 1) := by decide +kernel
theorem dX9_sets_9 : decode cX9_sets 9 = .ok (.ireturn, 1) := by decide +kernel
theorem dX9_needs_0 : decode cX9_needs 0 = .ok (.aload_n 0, 1) := by decide +kernel
theorem dX9_needs_1 : decode cX9_needs 1 = .ok (.getfield 33, 3) := by decide +kernel
theorem dX9_needs_4 : decode cX9_needs 4 = .ok (.iload_n 1, 1) := by decide +kernel
theorem dX9_needs_5 : decode cX9_needs 5 = .ok (.iaload, 1) := by decide +kernel
theorem dX9_needs_6 : decode cX9_needs 6 = .ok (.aload_n 0, 1) := by decide +kernel
theorem dX9_needs_7 : decode cX9_needs 7 = .ok (.getfield 36, 3) := by decide +kernel
theorem dX9_needs_10 : decode cX9_needs 10 = .ok (.iload_n 1, 1) := by decide +kernel
theorem dX9_needs_11 : decode cX9_needs 11 = .ok (.iaload, 1) := by decide +kernel
theorem dX9_needs_12 : decode cX9_needs 12 = .ok (.ior, 1) := by decide +kernel
theorem dX9_needs_13 : decode cX9_needs 13 = .ok (.ireturn, 1) := by decide +kernel
theorem dX9_isAsked_0 : decode cX9_isAsked 0 = .ok (.aload_n 0, 1) := by decide +kernel
theorem dX9_isAsked_1 : decode cX9_isAsked 1 = .ok (.getfield 60, 3) := by decide +kernel
theorem dX9_isAsked_4 : decode cX9_isAsked 4 = .ok (.iload_n 2, 1) := by decide +kernel
theorem dX9_isAsked_5 : decode cX9_isAsked 5 = .ok (.iaload, 1) := by decide +kernel
theorem dX9_isAsked_6 : decode cX9_isAsked 6 = .ok (.aload_n 0, 1) := by decide +kernel
theorem dX9_isAsked_7 : decode cX9_isAsked 7 = .ok (.getfield 60, 3) := by decide +kernel
theorem dX9_isAsked_10 : decode cX9_isAsked 10 = .ok (.iload_n 1, 1) := by decide +kernel
theorem dX9_isAsked_11 : decode cX9_isAsked 11 = .ok (.iaload, 1) := by decide +kernel
theorem dX9_isAsked_12 : decode cX9_isAsked 12 = .ok (.if_icmp .le 7, 3) := by decide +kernel
theorem dX9_isAsked_15 : decode cX9_isAsked 15 = .ok (.iconst 1, 1) := by decide +kernel
theorem dX9_isAsked_16 : decode cX9_isAsked 16 = .ok (.goto 4, 3) := by decide +kernel
theorem dX9_isAsked_19 : decode cX9_isAsked 19 = .ok (.iconst 0, 1) := by decide +kernel
theorem dX9_isAsked_20 : decode cX9_isAsked 20 = .ok (.ireturn, 1) := by decide +kernel
theorem dX9_isAwake_0 : decode cX9_isAwake 0 = .ok (.ldc 167, 2) := by decide +kernel
theorem dX9_isAwake_2 : decode cX9_isAwake 2 = .ok (.istore_n 1, 1) := by decide +kernel
theorem dX9_isAwake_3 : decode cX9_isAwake 3 = .ok (.iconst 0, 1) := by decide +kernel
theorem dX9_isAwake_4 : decode cX9_isAwake 4 = .ok (.istore_n 2, 1) := by decide +kernel
theorem dX9_isAwake_5 : decode cX9_isAwake 5 = .ok (.iload_n 2, 1) := by decide +kernel
theorem dX9_isAwake_6 : decode cX9_isAwake 6 = .ok (.aload_n 0, 1) := by decide +kernel
theorem dX9_isAwake_7 : decode cX9_isAwake 7 = .ok (.getfield 39, 3) := by decide +kernel
theorem dX9_isAwake_10 : decode cX9_isAwake 10 = .ok (.getfield 93, 3) := by decide +kernel
theorem dX9_isAwake_13 : decode cX9_isAwake 13 = .ok (.if_icmp .ge 23, 3) := by decide +kernel
theorem dX9_isAwake_16 : decode cX9_isAwake 16 = .ok (.aload_n 0, 1) := by decide +kernel
theorem dX9_isAwake_17 : decode cX9_isAwake 17 = .ok (.getfield 42, 3) := by decide +kernel
theorem dX9_isAwake_20 : decode cX9_isAwake 20 = .ok (.iload_n 2, 1) := by decide +kernel
theorem dX9_isAwake_21 : decode cX9_isAwake 21 = .ok (.iaload, 1) := by decide +kernel
theorem dX9_isAwake_22 : decode cX9_isAwake 22 = .ok (.iload_n 1, 1) := by decide +kernel
theorem dX9_isAwake_23 : decode cX9_isAwake 23 = .ok (.iand, 1) := by decide +kernel
theorem dX9_isAwake_24 : decode cX9_isAwake 24 = .ok (.iload_n 1, 1) := by decide +kernel
theorem dX9_isAwake_25 : decode cX9_isAwake 25 = .ok (.if_icmp .ne 5, 3) := by decide +kernel
theorem dX9_isAwake_28 : decode cX9_isAwake 28 = .ok (.iconst 1, 1) := by decide +kernel
theorem dX9_isAwake_29 : decode cX9_isAwake 29 = .ok (.ireturn, 1) := by decide +kernel
theorem dX9_isAwake_30 : decode cX9_isAwake 30 = .ok (.iinc 2 1, 3) := by decide +kernel
theorem dX9_isAwake_33 : decode cX9_isAwake 33 = .ok (.goto (-28), 3) := by decide +kernel
theorem dX9_isAwake_36 : decode cX9_isAwake 36 = .ok (.iconst 0, 1) := by decide +kernel
theorem dX9_isAwake_37 : decode cX9_isAwake 37 = .ok (.ireturn, 1) := by decide +kernel
theorem dX9_awakeAmong_0 : decode cX9_awakeAmong 0 = .ok (.iconst 0, 1) := by decide +kernel
theorem dX9_awakeAmong_1 : decode cX9_awakeAmong 1 = .ok (.istore_n 2, 1) := by decide +kernel
theorem dX9_awakeAmong_2 : decode cX9_awakeAmong 2 = .ok (.iconst 0, 1) := by decide +kernel
theorem dX9_awakeAmong_3 : decode cX9_awakeAmong 3 = .ok (.istore_n 3, 1) := by decide +kernel
theorem dX9_awakeAmong_4 : decode cX9_awakeAmong 4 = .ok (.iload_n 3, 1) := by decide +kernel
theorem dX9_awakeAmong_5 : decode cX9_awakeAmong 5 = .ok (.aload_n 0, 1) := by decide +kernel
theorem dX9_awakeAmong_6 : decode cX9_awakeAmong 6 = .ok (.getfield 39, 3) := by decide +kernel
theorem dX9_awakeAmong_9 : decode cX9_awakeAmong 9 = .ok (.getfield 93, 3) := by decide +kernel
theorem dX9_awakeAmong_12 : decode cX9_awakeAmong 12 = .ok (.if_icmp .ge 26, 3) := by decide +kernel
theorem dX9_awakeAmong_15 : decode cX9_awakeAmong 15 = .ok (.iload_n 1, 1) := by decide +kernel
theorem dX9_awakeAmong_16 : decode cX9_awakeAmong 16 = .ok (.iload_n 3, 1) := by decide +kernel
theorem dX9_awakeAmong_17 : decode cX9_awakeAmong 17 = .ok (.ishr, 1) := by decide +kernel
theorem dX9_awakeAmong_18 : decode cX9_awakeAmong 18 = .ok (.iconst 1, 1) := by decide +kernel
theorem dX9_awakeAmong_19 : decode cX9_awakeAmong 19 = .ok (.iand, 1) := by decide +kernel
theorem dX9_awakeAmong_20 : decode cX9_awakeAmong 20 = .ok (.ifCond .eq 12, 3) := by decide +kernel
theorem dX9_awakeAmong_23 : decode cX9_awakeAmong 23 = .ok (.iload_n 2, 1) := by decide +kernel
theorem dX9_awakeAmong_24 : decode cX9_awakeAmong 24 = .ok (.aload_n 0, 1) := by decide +kernel
theorem dX9_awakeAmong_25 : decode cX9_awakeAmong 25 = .ok (.getfield 42, 3) := by decide +kernel
theorem dX9_awakeAmong_28 : decode cX9_awakeAmong 28 = .ok (.iload_n 3, 1) := by decide +kernel
theorem dX9_awakeAmong_29 : decode cX9_awakeAmong 29 = .ok (.iaload, 1) := by decide +kernel
theorem dX9_awakeAmong_30 : decode cX9_awakeAmong 30 = .ok (.ior, 1) := by decide +kernel
theorem dX9_awakeAmong_31 : decode cX9_awakeAmong 31 = .ok (.istore_n 2, 1) := by decide +kernel
theorem dX9_awakeAmong_32 : decode cX9_awakeAmong 32 = .ok (.iinc 3 1, 3) := by decide +kernel
theorem dX9_awakeAmong_35 : decode cX9_awakeAmong 35 = .ok (.goto (-31), 3) := by decide +kernel
theorem dX9_awakeAmong_38 : decode cX9_awakeAmong 38 = .ok (.iload_n 2, 1) := by decide +kernel
theorem dX9_awakeAmong_39 : decode cX9_awakeAmong 39 = .ok (.ireturn, 1) := by decide +kernel
theorem dX9_copy_0 : decode cX9_copy 0 = .ok (.aload_n 0, 1) := by decide +kernel
theorem dX9_copy_1 : decode cX9_copy 1 = .ok (.getfield 14, 3) := by decide +kernel
theorem dX9_copy_4 : decode cX9_copy 4 = .ok (.aload_n 1, 1) := by decide +kernel
theorem dX9_copy_5 : decode cX9_copy 5 = .ok (.getfield 14, 3) := by decide +kernel
theorem dX9_copy_8 : decode cX9_copy 8 = .ok (.invokevirtual 168, 3) := by decide +kernel
theorem dX9_copy_11 : decode cX9_copy 11 = .ok (.aload_n 0, 1) := by decide +kernel
theorem dX9_copy_12 : decode cX9_copy 12 = .ok (.aload_n 1, 1) := by decide +kernel
theorem dX9_copy_13 : decode cX9_copy 13 = .ok (.getfield 97, 3) := by decide +kernel
theorem dX9_copy_16 : decode cX9_copy 16 = .ok (.putfield 97, 3) := by decide +kernel
theorem dX9_copy_19 : decode cX9_copy 19 = .ok (.aload_n 0, 1) := by decide +kernel
theorem dX9_copy_20 : decode cX9_copy 20 = .ok (.aload_n 1, 1) := by decide +kernel
theorem dX9_copy_21 : decode cX9_copy 21 = .ok (.getfield 100, 3) := by decide +kernel
theorem dX9_copy_24 : decode cX9_copy 24 = .ok (.putfield 100, 3) := by decide +kernel
theorem dX9_copy_27 : decode cX9_copy 27 = .ok (.aload_n 0, 1) := by decide +kernel
theorem dX9_copy_28 : decode cX9_copy 28 = .ok (.getfield 20, 3) := by decide +kernel
theorem dX9_copy_31 : decode cX9_copy 31 = .ok (.aload_n 1, 1) := by decide +kernel
theorem dX9_copy_32 : decode cX9_copy 32 = .ok (.getfield 20, 3) := by decide +kernel
theorem dX9_copy_35 : decode cX9_copy 35 = .ok (.invokevirtual 168, 3) := by decide +kernel
theorem dX9_copy_38 : decode cX9_copy 38 = .ok (.aload_n 1, 1) := by decide +kernel
theorem dX9_copy_39 : decode cX9_copy 39 = .ok (.getfield 23, 3) := by decide +kernel
theorem dX9_copy_42 : decode cX9_copy 42 = .ok (.iconst 0, 1) := by decide +kernel
theorem dX9_copy_43 : decode cX9_copy 43 = .ok (.aload_n 0, 1) := by decide +kernel
theorem dX9_copy_44 : decode cX9_copy 44 = .ok (.getfield 23, 3) := by decide +kernel
theorem dX9_copy_47 : decode cX9_copy 47 = .ok (.iconst 0, 1) := by decide +kernel
theorem dX9_copy_48 : decode cX9_copy 48 = .ok (.aload_n 0, 1) := by decide +kernel
theorem dX9_copy_49 : decode cX9_copy 49 = .ok (.getfield 23, 3) := by decide +kernel
theorem dX9_copy_52 : decode cX9_copy 52 = .ok (.arraylength, 1) := by decide +kernel
theorem dX9_copy_53 : decode cX9_copy 53 = .ok (.invokestatic 172, 3) := by decide +kernel
theorem dX9_copy_56 : decode cX9_copy 56 = .ok (.aload_n 1, 1) := by decide +kernel
theorem dX9_copy_57 : decode cX9_copy 57 = .ok (.getfield 27, 3) := by decide +kernel
theorem dX9_copy_60 : decode cX9_copy 60 = .ok (.iconst 0, 1) := by decide +kernel
theorem dX9_copy_61 : decode cX9_copy 61 = .ok (.aload_n 0, 1) := by decide +kernel
theorem dX9_copy_62 : decode cX9_copy 62 = .ok (.getfield 27, 3) := by decide +kernel
theorem dX9_copy_65 : decode cX9_copy 65 = .ok (.iconst 0, 1) := by decide +kernel
theorem dX9_copy_66 : decode cX9_copy 66 = .ok (.aload_n 0, 1) := by decide +kernel
theorem dX9_copy_67 : decode cX9_copy 67 = .ok (.getfield 27, 3) := by decide +kernel
theorem dX9_copy_70 : decode cX9_copy 70 = .ok (.arraylength, 1) := by decide +kernel
theorem dX9_copy_71 : decode cX9_copy 71 = .ok (.invokestatic 172, 3) := by decide +kernel
theorem dX9_copy_74 : decode cX9_copy 74 = .ok (.aload_n 1, 1) := by decide +kernel
theorem dX9_copy_75 : decode cX9_copy 75 = .ok (.getfield 30, 3) := by decide +kernel
theorem dX9_copy_78 : decode cX9_copy 78 = .ok (.iconst 0, 1) := by decide +kernel
theorem dX9_copy_79 : decode cX9_copy 79 = .ok (.aload_n 0, 1) := by decide +kernel
theorem dX9_copy_80 : decode cX9_copy 80 = .ok (.getfield 30, 3) := by decide +kernel
theorem dX9_copy_83 : decode cX9_copy 83 = .ok (.iconst 0, 1) := by decide +kernel
theorem dX9_copy_84 : decode cX9_copy 84 = .ok (.aload_n 0, 1) := by decide +kernel
theorem dX9_copy_85 : decode cX9_copy 85 = .ok (.getfield 30, 3) := by decide +kernel
theorem dX9_copy_88 : decode cX9_copy 88 = .ok (.arraylength, 1) := by decide +kernel
theorem dX9_copy_89 : decode cX9_copy 89 = .ok (.invokestatic 172, 3) := by decide +kernel
theorem dX9_copy_92 : decode cX9_copy 92 = .ok (.aload_n 1, 1) := by decide +kernel
theorem dX9_copy_93 : decode cX9_copy 93 = .ok (.getfield 33, 3) := by decide +kernel
theorem dX9_copy_96 : decode cX9_copy 96 = .ok (.iconst 0, 1) := by decide +kernel
theorem dX9_copy_97 : decode cX9_copy 97 = .ok (.aload_n 0, 1) := by decide +kernel
theorem dX9_copy_98 : decode cX9_copy 98 = .ok (.getfield 33, 3) := by decide +kernel
theorem dX9_copy_101 : decode cX9_copy 101 = .ok (.iconst 0, 1) := by decide +kernel
theorem dX9_copy_102 : decode cX9_copy 102 = .ok (.aload_n 0, 1) := by decide +kernel
theorem dX9_copy_103 : decode cX9_copy 103 = .ok (.getfield 33, 3) := by decide +kernel
theorem dX9_copy_106 : decode cX9_copy 106 = .ok (.arraylength, 1) := by decide +kernel
theorem dX9_copy_107 : decode cX9_copy 107 = .ok (.invokestatic 172, 3) := by decide +kernel
theorem dX9_copy_110 : decode cX9_copy 110 = .ok (.aload_n 1, 1) := by decide +kernel
theorem dX9_copy_111 : decode cX9_copy 111 = .ok (.getfield 36, 3) := by decide +kernel
theorem dX9_copy_114 : decode cX9_copy 114 = .ok (.iconst 0, 1) := by decide +kernel
theorem dX9_copy_115 : decode cX9_copy 115 = .ok (.aload_n 0, 1) := by decide +kernel
theorem dX9_copy_116 : decode cX9_copy 116 = .ok (.getfield 36, 3) := by decide +kernel
theorem dX9_copy_119 : decode cX9_copy 119 = .ok (.iconst 0, 1) := by decide +kernel
theorem dX9_copy_120 : decode cX9_copy 120 = .ok (.aload_n 0, 1) := by decide +kernel
theorem dX9_copy_121 : decode cX9_copy 121 = .ok (.getfield 36, 3) := by decide +kernel
theorem dX9_copy_124 : decode cX9_copy 124 = .ok (.arraylength, 1) := by decide +kernel
theorem dX9_copy_125 : decode cX9_copy 125 = .ok (.invokestatic 172, 3) := by decide +kernel
theorem dX9_copy_128 : decode cX9_copy 128 = .ok (.aload_n 0, 1) := by decide +kernel
theorem dX9_copy_129 : decode cX9_copy 129 = .ok (.getfield 39, 3) := by decide +kernel
theorem dX9_copy_132 : decode cX9_copy 132 = .ok (.aload_n 1, 1) := by decide +kernel
theorem dX9_copy_133 : decode cX9_copy 133 = .ok (.getfield 39, 3) := by decide +kernel
theorem dX9_copy_136 : decode cX9_copy 136 = .ok (.invokevirtual 168, 3) := by decide +kernel
theorem dX9_copy_139 : decode cX9_copy 139 = .ok (.aload_n 1, 1) := by decide +kernel
theorem dX9_copy_140 : decode cX9_copy 140 = .ok (.getfield 42, 3) := by decide +kernel
theorem dX9_copy_143 : decode cX9_copy 143 = .ok (.iconst 0, 1) := by decide +kernel
theorem dX9_copy_144 : decode cX9_copy 144 = .ok (.aload_n 0, 1) := by decide +kernel
theorem dX9_copy_145 : decode cX9_copy 145 = .ok (.getfield 42, 3) := by decide +kernel
theorem dX9_copy_148 : decode cX9_copy 148 = .ok (.iconst 0, 1) := by decide +kernel
theorem dX9_copy_149 : decode cX9_copy 149 = .ok (.aload_n 0, 1) := by decide +kernel
theorem dX9_copy_150 : decode cX9_copy 150 = .ok (.getfield 42, 3) := by decide +kernel
theorem dX9_copy_153 : decode cX9_copy 153 = .ok (.arraylength, 1) := by decide +kernel
theorem dX9_copy_154 : decode cX9_copy 154 = .ok (.invokestatic 172, 3) := by decide +kernel
theorem dX9_copy_157 : decode cX9_copy 157 = .ok (.aload_n 1, 1) := by decide +kernel
theorem dX9_copy_158 : decode cX9_copy 158 = .ok (.getfield 45, 3) := by decide +kernel
theorem dX9_copy_161 : decode cX9_copy 161 = .ok (.iconst 0, 1) := by decide +kernel
theorem dX9_copy_162 : decode cX9_copy 162 = .ok (.aload_n 0, 1) := by decide +kernel
theorem dX9_copy_163 : decode cX9_copy 163 = .ok (.getfield 45, 3) := by decide +kernel
theorem dX9_copy_166 : decode cX9_copy 166 = .ok (.iconst 0, 1) := by decide +kernel
theorem dX9_copy_167 : decode cX9_copy 167 = .ok (.aload_n 0, 1) := by decide +kernel
theorem dX9_copy_168 : decode cX9_copy 168 = .ok (.getfield 45, 3) := by decide +kernel
theorem dX9_copy_171 : decode cX9_copy 171 = .ok (.arraylength, 1) := by decide +kernel
theorem dX9_copy_172 : decode cX9_copy 172 = .ok (.invokestatic 172, 3) := by decide +kernel
theorem dX9_copy_175 : decode cX9_copy 175 = .ok (.aload_n 0, 1) := by decide +kernel
theorem dX9_copy_176 : decode cX9_copy 176 = .ok (.aload_n 1, 1) := by decide +kernel
theorem dX9_copy_177 : decode cX9_copy 177 = .ok (.getfield 103, 3) := by decide +kernel
theorem dX9_copy_180 : decode cX9_copy 180 = .ok (.putfield 103, 3) := by decide +kernel
theorem dX9_copy_183 : decode cX9_copy 183 = .ok (.aload_n 1, 1) := by decide +kernel
theorem dX9_copy_184 : decode cX9_copy 184 = .ok (.getfield 48, 3) := by decide +kernel
theorem dX9_copy_187 : decode cX9_copy 187 = .ok (.iconst 0, 1) := by decide +kernel
theorem dX9_copy_188 : decode cX9_copy 188 = .ok (.aload_n 0, 1) := by decide +kernel
theorem dX9_copy_189 : decode cX9_copy 189 = .ok (.getfield 48, 3) := by decide +kernel
theorem dX9_copy_192 : decode cX9_copy 192 = .ok (.iconst 0, 1) := by decide +kernel
theorem dX9_copy_193 : decode cX9_copy 193 = .ok (.aload_n 0, 1) := by decide +kernel
theorem dX9_copy_194 : decode cX9_copy 194 = .ok (.getfield 48, 3) := by decide +kernel
theorem dX9_copy_197 : decode cX9_copy 197 = .ok (.arraylength, 1) := by decide +kernel
theorem dX9_copy_198 : decode cX9_copy 198 = .ok (.invokestatic 172, 3) := by decide +kernel
theorem dX9_copy_201 : decode cX9_copy 201 = .ok (.aload_n 1, 1) := by decide +kernel
theorem dX9_copy_202 : decode cX9_copy 202 = .ok (.getfield 51, 3) := by decide +kernel
theorem dX9_copy_205 : decode cX9_copy 205 = .ok (.iconst 0, 1) := by decide +kernel
theorem dX9_copy_206 : decode cX9_copy 206 = .ok (.aload_n 0, 1) := by decide +kernel
theorem dX9_copy_207 : decode cX9_copy 207 = .ok (.getfield 51, 3) := by decide +kernel
theorem dX9_copy_210 : decode cX9_copy 210 = .ok (.iconst 0, 1) := by decide +kernel
theorem dX9_copy_211 : decode cX9_copy 211 = .ok (.aload_n 0, 1) := by decide +kernel
theorem dX9_copy_212 : decode cX9_copy 212 = .ok (.getfield 51, 3) := by decide +kernel
theorem dX9_copy_215 : decode cX9_copy 215 = .ok (.arraylength, 1) := by decide +kernel
theorem dX9_copy_216 : decode cX9_copy 216 = .ok (.invokestatic 172, 3) := by decide +kernel
theorem dX9_copy_219 : decode cX9_copy 219 = .ok (.aload_n 1, 1) := by decide +kernel
theorem dX9_copy_220 : decode cX9_copy 220 = .ok (.getfield 54, 3) := by decide +kernel
theorem dX9_copy_223 : decode cX9_copy 223 = .ok (.iconst 0, 1) := by decide +kernel
theorem dX9_copy_224 : decode cX9_copy 224 = .ok (.aload_n 0, 1) := by decide +kernel
theorem dX9_copy_225 : decode cX9_copy 225 = .ok (.getfield 54, 3) := by decide +kernel
theorem dX9_copy_228 : decode cX9_copy 228 = .ok (.iconst 0, 1) := by decide +kernel
theorem dX9_copy_229 : decode cX9_copy 229 = .ok (.aload_n 0, 1) := by decide +kernel
theorem dX9_copy_230 : decode cX9_copy 230 = .ok (.getfield 54, 3) := by decide +kernel
theorem dX9_copy_233 : decode cX9_copy 233 = .ok (.arraylength, 1) := by decide +kernel
theorem dX9_copy_234 : decode cX9_copy 234 = .ok (.invokestatic 172, 3) := by decide +kernel
theorem dX9_copy_237 : decode cX9_copy 237 = .ok (.aload_n 0, 1) := by decide +kernel
theorem dX9_copy_238 : decode cX9_copy 238 = .ok (.aload_n 1, 1) := by decide +kernel
theorem dX9_copy_239 : decode cX9_copy 239 = .ok (.getfield 106, 3) := by decide +kernel
theorem dX9_copy_242 : decode cX9_copy 242 = .ok (.putfield 106, 3) := by decide +kernel
theorem dX9_copy_245 : decode cX9_copy 245 = .ok (.aload_n 1, 1) := by decide +kernel
theorem dX9_copy_246 : decode cX9_copy 246 = .ok (.getfield 57, 3) := by decide +kernel
theorem dX9_copy_249 : decode cX9_copy 249 = .ok (.iconst 0, 1) := by decide +kernel
theorem dX9_copy_250 : decode cX9_copy 250 = .ok (.aload_n 0, 1) := by decide +kernel
theorem dX9_copy_251 : decode cX9_copy 251 = .ok (.getfield 57, 3) := by decide +kernel
theorem dX9_copy_254 : decode cX9_copy 254 = .ok (.iconst 0, 1) := by decide +kernel
theorem dX9_copy_255 : decode cX9_copy 255 = .ok (.aload_n 0, 1) := by decide +kernel
theorem dX9_copy_256 : decode cX9_copy 256 = .ok (.getfield 57, 3) := by decide +kernel
theorem dX9_copy_259 : decode cX9_copy 259 = .ok (.arraylength, 1) := by decide +kernel
theorem dX9_copy_260 : decode cX9_copy 260 = .ok (.invokestatic 172, 3) := by decide +kernel
theorem dX9_copy_263 : decode cX9_copy 263 = .ok (.aload_n 1, 1) := by decide +kernel
theorem dX9_copy_264 : decode cX9_copy 264 = .ok (.getfield 60, 3) := by decide +kernel
theorem dX9_copy_267 : decode cX9_copy 267 = .ok (.iconst 0, 1) := by decide +kernel
theorem dX9_copy_268 : decode cX9_copy 268 = .ok (.aload_n 0, 1) := by decide +kernel
theorem dX9_copy_269 : decode cX9_copy 269 = .ok (.getfield 60, 3) := by decide +kernel
theorem dX9_copy_272 : decode cX9_copy 272 = .ok (.iconst 0, 1) := by decide +kernel
theorem dX9_copy_273 : decode cX9_copy 273 = .ok (.aload_n 0, 1) := by decide +kernel
theorem dX9_copy_274 : decode cX9_copy 274 = .ok (.getfield 60, 3) := by decide +kernel
theorem dX9_copy_277 : decode cX9_copy 277 = .ok (.arraylength, 1) := by decide +kernel
theorem dX9_copy_278 : decode cX9_copy 278 = .ok (.invokestatic 172, 3) := by decide +kernel
theorem dX9_copy_281 : decode cX9_copy 281 = .ok (.aload_n 0, 1) := by decide +kernel
theorem dX9_copy_282 : decode cX9_copy 282 = .ok (.getfield 66, 3) := by decide +kernel
theorem dX9_copy_285 : decode cX9_copy 285 = .ok (.aload_n 1, 1) := by decide +kernel
theorem dX9_copy_286 : decode cX9_copy 286 = .ok (.getfield 66, 3) := by decide +kernel
theorem dX9_copy_289 : decode cX9_copy 289 = .ok (.invokevirtual 178, 3) := by decide +kernel
theorem dX9_copy_292 : decode cX9_copy 292 = .ok (.aload_n 0, 1) := by decide +kernel
theorem dX9_copy_293 : decode cX9_copy 293 = .ok (.getfield 73, 3) := by decide +kernel
theorem dX9_copy_296 : decode cX9_copy 296 = .ok (.aload_n 1, 1) := by decide +kernel
theorem dX9_copy_297 : decode cX9_copy 297 = .ok (.getfield 73, 3) := by decide +kernel
theorem dX9_copy_300 : decode cX9_copy 300 = .ok (.invokevirtual 181, 3) := by decide +kernel
theorem dX9_copy_303 : decode cX9_copy 303 = .ok (.return_, 1) := by decide +kernel
theorem dX10_init_0 : decode cX10_init 0 = .ok (.aload_n 0, 1) := by decide +kernel
theorem dX10_init_1 : decode cX10_init 1 = .ok (.invokespecial 3, 3) := by decide +kernel
theorem dX10_init_4 : decode cX10_init 4 = .ok (.aload_n 0, 1) := by decide +kernel
theorem dX10_init_5 : decode cX10_init 5 = .ok (.iconst (-1), 1) := by decide +kernel
theorem dX10_init_6 : decode cX10_init 6 = .ok (.putfield 9, 3) := by decide +kernel
theorem dX10_init_9 : decode cX10_init 9 = .ok (.aload_n 0, 1) := by decide +kernel
theorem dX10_init_10 : decode cX10_init 10 = .ok (.bipush 60, 2) := by decide +kernel
theorem dX10_init_12 : decode cX10_init 12 = .ok (.newarray .long, 2) := by decide +kernel
theorem dX10_init_14 : decode cX10_init 14 = .ok (.putfield 15, 3) := by decide +kernel
theorem dX10_init_17 : decode cX10_init 17 = .ok (.return_, 1) := by decide +kernel
theorem dX10_isMissing_0 : decode cX10_isMissing 0 = .ok (.aload_n 0, 1) := by decide +kernel
theorem dX10_isMissing_1 : decode cX10_isMissing 1 = .ok (.getfield 9, 3) := by decide +kernel
theorem dX10_isMissing_4 : decode cX10_isMissing 4 = .ok (.iconst (-1), 1) := by decide +kernel
theorem dX10_isMissing_5 : decode cX10_isMissing 5 = .ok (.if_icmp .ne 7, 3) := by decide +kernel
theorem dX10_isMissing_8 : decode cX10_isMissing 8 = .ok (.iconst 1, 1) := by decide +kernel
theorem dX10_isMissing_9 : decode cX10_isMissing 9 = .ok (.goto 4, 3) := by decide +kernel
theorem dX10_isMissing_12 : decode cX10_isMissing 12 = .ok (.iconst 0, 1) := by decide +kernel
theorem dX10_isMissing_13 : decode cX10_isMissing 13 = .ok (.ireturn, 1) := by decide +kernel
theorem dX10_make_0 : decode cX10_make 0 = .ok (.aload_n 0, 1) := by decide +kernel
theorem dX10_make_1 : decode cX10_make 1 = .ok (.iload_n 1, 1) := by decide +kernel
theorem dX10_make_2 : decode cX10_make 2 = .ok (.putfield 19, 3) := by decide +kernel
theorem dX10_make_5 : decode cX10_make 5 = .ok (.aload_n 0, 1) := by decide +kernel
theorem dX10_make_6 : decode cX10_make 6 = .ok (.iload_n 2, 1) := by decide +kernel
theorem dX10_make_7 : decode cX10_make 7 = .ok (.putfield 9, 3) := by decide +kernel
theorem dX10_make_10 : decode cX10_make 10 = .ok (.iconst 0, 1) := by decide +kernel
theorem dX10_make_11 : decode cX10_make 11 = .ok (.istore_n 3, 1) := by decide +kernel
theorem dX10_make_12 : decode cX10_make 12 = .ok (.iload_n 3, 1) := by decide +kernel
theorem dX10_make_13 : decode cX10_make 13 = .ok (.aload_n 0, 1) := by decide +kernel
theorem dX10_make_14 : decode cX10_make 14 = .ok (.getfield 15, 3) := by decide +kernel
theorem dX10_make_17 : decode cX10_make 17 = .ok (.arraylength, 1) := by decide +kernel
theorem dX10_make_18 : decode cX10_make 18 = .ok (.if_icmp .ge 16, 3) := by decide +kernel
theorem dX10_make_21 : decode cX10_make 21 = .ok (.aload_n 0, 1) := by decide +kernel
theorem dX10_make_22 : decode cX10_make 22 = .ok (.getfield 15, 3) := by decide +kernel
theorem dX10_make_25 : decode cX10_make 25 = .ok (.iload_n 3, 1) := by decide +kernel
theorem dX10_make_26 : decode cX10_make 26 = .ok (.lconst 0, 1) := by decide +kernel
theorem dX10_make_27 : decode cX10_make 27 = .ok (.lastore, 1) := by decide +kernel
theorem dX10_make_28 : decode cX10_make 28 = .ok (.iinc 3 1, 3) := by decide +kernel
theorem dX10_make_31 : decode cX10_make 31 = .ok (.goto (-19), 3) := by decide +kernel
theorem dX10_make_34 : decode cX10_make 34 = .ok (.return_, 1) := by decide +kernel
theorem dX10_has_0 : decode cX10_has 0 = .ok (.iload_n 1, 1) := by decide +kernel
theorem dX10_has_1 : decode cX10_has 1 = .ok (.ifCond .lt 15, 3) := by decide +kernel
theorem dX10_has_4 : decode cX10_has 4 = .ok (.iload_n 1, 1) := by decide +kernel
theorem dX10_has_5 : decode cX10_has 5 = .ok (.aload_n 0, 1) := by decide +kernel
theorem dX10_has_6 : decode cX10_has 6 = .ok (.getfield 9, 3) := by decide +kernel
theorem dX10_has_9 : decode cX10_has 9 = .ok (.if_icmp .ge 7, 3) := by decide +kernel
theorem dX10_has_12 : decode cX10_has 12 = .ok (.iconst 1, 1) := by decide +kernel
theorem dX10_has_13 : decode cX10_has 13 = .ok (.goto 4, 3) := by decide +kernel
theorem dX10_has_16 : decode cX10_has 16 = .ok (.iconst 0, 1) := by decide +kernel
theorem dX10_has_17 : decode cX10_has 17 = .ok (.ireturn, 1) := by decide +kernel
theorem dX10_hasRun_0 : decode cX10_hasRun 0 = .ok (.iload_n 1, 1) := by decide +kernel
theorem dX10_hasRun_1 : decode cX10_hasRun 1 = .ok (.ifCond .lt 17, 3) := by decide +kernel
theorem dX10_hasRun_4 : decode cX10_hasRun 4 = .ok (.iload_n 1, 1) := by decide +kernel
theorem dX10_hasRun_5 : decode cX10_hasRun 5 = .ok (.aload_n 0, 1) := by decide +kernel
theorem dX10_hasRun_6 : decode cX10_hasRun 6 = .ok (.getfield 9, 3) := by decide +kernel
theorem dX10_hasRun_9 : decode cX10_hasRun 9 = .ok (.iload_n 2, 1) := by decide +kernel
theorem dX10_hasRun_10 : decode cX10_hasRun 10 = .ok (.isub, 1) := by decide +kernel
theorem dX10_hasRun_11 : decode cX10_hasRun 11 = .ok (.if_icmp .gt 7, 3) := by decide +kernel
theorem dX10_hasRun_14 : decode cX10_hasRun 14 = .ok (.iconst 1, 1) := by decide +kernel
theorem dX10_hasRun_15 : decode cX10_hasRun 15 = .ok (.goto 4, 3) := by decide +kernel
theorem dX10_hasRun_18 : decode cX10_hasRun 18 = .ok (.iconst 0, 1) := by decide +kernel
theorem dX10_hasRun_19 : decode cX10_hasRun 19 = .ok (.ireturn, 1) := by decide +kernel
theorem dX10_allWithin_0 : decode cX10_allWithin 0 = .ok (.iconst 0, 1) := by decide +kernel
theorem dX10_allWithin_1 : decode cX10_allWithin 1 = .ok (.istore 6, 2) := by decide +kernel
theorem dX10_allWithin_3 : decode cX10_allWithin 3 = .ok (.iload 6, 2) := by decide +kernel
theorem dX10_allWithin_5 : decode cX10_allWithin 5 = .ok (.iload_n 1, 1) := by decide +kernel
theorem dX10_allWithin_6 : decode cX10_allWithin 6 = .ok (.if_icmp .ge 34, 3) := by decide +kernel
theorem dX10_allWithin_9 : decode cX10_allWithin 9 = .ok (.aload_n 0, 1) := by decide +kernel
theorem dX10_allWithin_10 : decode cX10_allWithin 10 = .ok (.iload 6, 2) := by decide +kernel
theorem dX10_allWithin_12 : decode cX10_allWithin 12 = .ok (.invokevirtual 22, 3) := by decide +kernel
theorem dX10_allWithin_15 : decode cX10_allWithin 15 = .ok (.lload_n 2, 1) := by decide +kernel
theorem dX10_allWithin_16 : decode cX10_allWithin 16 = .ok (.lcmp, 1) := by decide +kernel
theorem dX10_allWithin_17 : decode cX10_allWithin 17 = .ok (.ifCond .lt 15, 3) := by decide +kernel
theorem dX10_allWithin_20 : decode cX10_allWithin 20 = .ok (.aload_n 0, 1) := by decide +kernel
theorem dX10_allWithin_21 : decode cX10_allWithin 21 = .ok (.iload 6, 2) := by decide +kernel
theorem dX10_allWithin_23 : decode cX10_allWithin 23 = .ok (.invokevirtual 22, 3) := by decide +kernel
theorem dX10_allWithin_26 : decode cX10_allWithin 26 = .ok (.lload 4, 2) := by decide +kernel
theorem dX10_allWithin_28 : decode cX10_allWithin 28 = .ok (.lcmp, 1) := by decide +kernel
theorem dX10_allWithin_29 : decode cX10_allWithin 29 = .ok (.ifCond .le 5, 3) := by decide +kernel
theorem dX10_allWithin_32 : decode cX10_allWithin 32 = .ok (.iconst 0, 1) := by decide +kernel
theorem dX10_allWithin_33 : decode cX10_allWithin 33 = .ok (.ireturn, 1) := by decide +kernel
theorem dX10_allWithin_34 : decode cX10_allWithin 34 = .ok (.iinc 6 1, 3) := by decide +kernel
theorem dX10_allWithin_37 : decode cX10_allWithin 37 = .ok (.goto (-34), 3) := by decide +kernel
theorem dX10_allWithin_40 : decode cX10_allWithin 40 = .ok (.iconst 1, 1) := by decide +kernel
theorem dX10_allWithin_41 : decode cX10_allWithin 41 = .ok (.ireturn, 1) := by decide +kernel
theorem dX10_number_0 : decode cX10_number 0 = .ok (.aload_n 0, 1) := by decide +kernel
theorem dX10_number_1 : decode cX10_number 1 = .ok (.iload_n 1, 1) := by decide +kernel
theorem dX10_number_2 : decode cX10_number 2 = .ok (.invokevirtual 26, 3) := by decide +kernel
theorem dX10_number_5 : decode cX10_number 5 = .ok (.ifCond .eq 12, 3) := by decide +kernel
theorem dX10_number_8 : decode cX10_number 8 = .ok (.aload_n 0, 1) := by decide +kernel
theorem dX10_number_9 : decode cX10_number 9 = .ok (.getfield 15, 3) := by decide +kernel
theorem dX10_number_12 : decode cX10_number 12 = .ok (.iload_n 1, 1) := by decide +kernel
theorem dX10_number_13 : decode cX10_number 13 = .ok (.laload, 1) := by decide +kernel
theorem dX10_number_14 : decode cX10_number 14 = .ok (.goto 6, 3) := by decide +kernel
theorem dX10_number_17 : decode cX10_number 17 = .ok (.ldc2_w 30, 3) := by decide +kernel
theorem dX10_number_20 : decode cX10_number 20 = .ok (.lreturn, 1) := by decide +kernel
theorem dX10_put_0 : decode cX10_put 0 = .ok (.aload_n 0, 1) := by decide +kernel
theorem dX10_put_1 : decode cX10_put 1 = .ok (.iload_n 1, 1) := by decide +kernel
theorem dX10_put_2 : decode cX10_put 2 = .ok (.invokevirtual 26, 3) := by decide +kernel
theorem dX10_put_5 : decode cX10_put 5 = .ok (.ifCond .eq 14, 3) := by decide +kernel
theorem dX10_put_8 : decode cX10_put 8 = .ok (.aload_n 0, 1) := by decide +kernel
theorem dX10_put_9 : decode cX10_put 9 = .ok (.getfield 15, 3) := by decide +kernel
theorem dX10_put_12 : decode cX10_put 12 = .ok (.iload_n 1, 1) := by decide +kernel
theorem dX10_put_13 : decode cX10_put 13 = .ok (.aload_n 0, 1) := by decide +kernel
theorem dX10_put_14 : decode cX10_put 14 = .ok (.lload_n 2, 1) := by decide +kernel
theorem dX10_put_15 : decode cX10_put 15 = .ok (.invokevirtual 32, 3) := by decide +kernel
theorem dX10_put_18 : decode cX10_put 18 = .ok (.lastore, 1) := by decide +kernel
theorem dX10_put_19 : decode cX10_put 19 = .ok (.return_, 1) := by decide +kernel
theorem dX10_cut_0 : decode cX10_cut 0 = .ok (.aload_n 0, 1) := by decide +kernel
theorem dX10_cut_1 : decode cX10_cut 1 = .ok (.getfield 19, 3) := by decide +kernel
theorem dX10_cut_4 : decode cX10_cut 4 = .ok (.tableswitch 42 0 2 #[28, 33, 38], 28) := by decide +kernel
theorem dX10_cut_32 : decode cX10_cut 32 = .ok (.lload_n 1, 1) := by decide +kernel
theorem dX10_cut_33 : decode cX10_cut 33 = .ok (.l2i, 1) := by decide +kernel
theorem dX10_cut_34 : decode cX10_cut 34 = .ok (.i2b, 1) := by decide +kernel
theorem dX10_cut_35 : decode cX10_cut 35 = .ok (.i2l, 1) := by decide +kernel
theorem dX10_cut_36 : decode cX10_cut 36 = .ok (.lreturn, 1) := by decide +kernel
theorem dX10_cut_37 : decode cX10_cut 37 = .ok (.lload_n 1, 1) := by decide +kernel
theorem dX10_cut_38 : decode cX10_cut 38 = .ok (.l2i, 1) := by decide +kernel
theorem dX10_cut_39 : decode cX10_cut 39 = .ok (.i2s, 1) := by decide +kernel
theorem dX10_cut_40 : decode cX10_cut 40 = .ok (.i2l, 1) := by decide +kernel
theorem dX10_cut_41 : decode cX10_cut 41 = .ok (.lreturn, 1) := by decide +kernel
theorem dX10_cut_42 : decode cX10_cut 42 = .ok (.lload_n 1, 1) := by decide +kernel
theorem dX10_cut_43 : decode cX10_cut 43 = .ok (.l2i, 1) := by decide +kernel
theorem dX10_cut_44 : decode cX10_cut 44 = .ok (.i2l, 1) := by decide +kernel
theorem dX10_cut_45 : decode cX10_cut 45 = .ok (.lreturn, 1) := by decide +kernel
theorem dX10_cut_46 : decode cX10_cut 46 = .ok (.lload_n 1, 1) := by decide +kernel
theorem dX10_cut_47 : decode cX10_cut 47 = .ok (.lreturn, 1) := by decide +kernel
theorem dX11_init_0 : decode cX11_init 0 = .ok (.aload_n 0, 1) := by decide +kernel
theorem dX11_init_1 : decode cX11_init 1 = .ok (.invokespecial 3, 3) := by decide +kernel
theorem dX11_init_4 : decode cX11_init 4 = .ok (.aload_n 0, 1) := by decide +kernel
theorem dX11_init_5 : decode cX11_init 5 = .ok (.lconst 1, 1) := by decide +kernel
theorem dX11_init_6 : decode cX11_init 6 = .ok (.putfield 9, 3) := by decide +kernel
theorem dX11_init_9 : decode cX11_init 9 = .ok (.aload_n 0, 1) := by decide +kernel
theorem dX11_init_10 : decode cX11_init 10 = .ok (.iconst 4, 1) := by decide +kernel
theorem dX11_init_11 : decode cX11_init 11 = .ok (.anewarray 13, 3) := by decide +kernel
theorem dX11_init_14 : decode cX11_init 14 = .ok (.putfield 15, 3) := by decide +kernel
theorem dX11_init_17 : decode cX11_init 17 = .ok (.aload_n 0, 1) := by decide +kernel
theorem dX11_init_18 : decode cX11_init 18 = .ok (.iconst 4, 1) := by decide +kernel
theorem dX11_init_19 : decode cX11_init 19 = .ok (.anewarray 19, 3) := by decide +kernel
theorem dX11_init_22 : decode cX11_init 22 = .ok (.putfield 21, 3) := by decide +kernel
theorem dX11_init_25 : decode cX11_init 25 = .ok (.aload_n 0, 1) := by decide +kernel
theorem dX11_init_26 : decode cX11_init 26 = .ok (.new 19, 3) := by decide +kernel
theorem dX11_init_29 : decode cX11_init 29 = .ok (.dup, 1) := by decide +kernel
theorem dX11_init_30 : decode cX11_init 30 = .ok (.invokespecial 25, 3) := by decide +kernel
theorem dX11_init_33 : decode cX11_init 33 = .ok (.putfield 26, 3) := by decide +kernel
theorem dX11_init_36 : decode cX11_init 36 = .ok (.aload_n 0, 1) := by decide +kernel
theorem dX11_init_37 : decode cX11_init 37 = .ok (.new 30, 3) := by decide +kernel
theorem dX11_init_40 : decode cX11_init 40 = .ok (.dup, 1) := by decide +kernel
theorem dX11_init_41 : decode cX11_init 41 = .ok (.invokespecial 32, 3) := by decide +kernel
theorem dX11_init_44 : decode cX11_init 44 = .ok (.putfield 33, 3) := by decide +kernel
theorem dX11_init_47 : decode cX11_init 47 = .ok (.aload_n 0, 1) := by decide +kernel
theorem dX11_init_48 : decode cX11_init 48 = .ok (.new 37, 3) := by decide +kernel
theorem dX11_init_51 : decode cX11_init 51 = .ok (.dup, 1) := by decide +kernel
theorem dX11_init_52 : decode cX11_init 52 = .ok (.invokespecial 39, 3) := by decide +kernel
theorem dX11_init_55 : decode cX11_init 55 = .ok (.putfield 40, 3) := by decide +kernel
theorem dX11_init_58 : decode cX11_init 58 = .ok (.aload_n 0, 1) := by decide +kernel
theorem dX11_init_59 : decode cX11_init 59 = .ok (.new 44, 3) := by decide +kernel
theorem dX11_init_62 : decode cX11_init 62 = .ok (.dup, 1) := by decide +kernel
theorem dX11_init_63 : decode cX11_init 63 = .ok (.invokespecial 46, 3) := by decide +kernel
theorem dX11_init_66 : decode cX11_init 66 = .ok (.putfield 47, 3) := by decide +kernel
theorem dX11_init_69 : decode cX11_init 69 = .ok (.aload_n 0, 1) := by decide +kernel
theorem dX11_init_70 : decode cX11_init 70 = .ok (.new 51, 3) := by decide +kernel
theorem dX11_init_73 : decode cX11_init 73 = .ok (.dup, 1) := by decide +kernel
theorem dX11_init_74 : decode cX11_init 74 = .ok (.invokespecial 53, 3) := by decide +kernel
theorem dX11_init_77 : decode cX11_init 77 = .ok (.putfield 54, 3) := by decide +kernel
theorem dX11_init_80 : decode cX11_init 80 = .ok (.aload_n 0, 1) := by decide +kernel
theorem dX11_init_81 : decode cX11_init 81 = .ok (.new 58, 3) := by decide +kernel
theorem dX11_init_84 : decode cX11_init 84 = .ok (.dup, 1) := by decide +kernel
theorem dX11_init_85 : decode cX11_init 85 = .ok (.invokespecial 60, 3) := by decide +kernel
theorem dX11_init_88 : decode cX11_init 88 = .ok (.putfield 61, 3) := by decide +kernel
theorem dX11_init_91 : decode cX11_init 91 = .ok (.aload_n 0, 1) := by decide +kernel
theorem dX11_init_92 : decode cX11_init 92 = .ok (.new 65, 3) := by decide +kernel
theorem dX11_init_95 : decode cX11_init 95 = .ok (.dup, 1) := by decide +kernel
theorem dX11_init_96 : decode cX11_init 96 = .ok (.invokespecial 67, 3) := by decide +kernel
theorem dX11_init_99 : decode cX11_init 99 = .ok (.putfield 68, 3) := by decide +kernel
theorem dX11_init_102 : decode cX11_init 102 = .ok (.aload_n 0, 1) := by decide +kernel
theorem dX11_init_103 : decode cX11_init 103 = .ok (.new 72, 3) := by decide +kernel
theorem dX11_init_106 : decode cX11_init 106 = .ok (.dup, 1) := by decide +kernel
theorem dX11_init_107 : decode cX11_init 107 = .ok (.invokespecial 74, 3) := by decide +kernel
theorem dX11_init_110 : decode cX11_init 110 = .ok (.putfield 75, 3) := by decide +kernel
theorem dX11_init_113 : decode cX11_init 113 = .ok (.iconst 0, 1) := by decide +kernel
theorem dX11_init_114 : decode cX11_init 114 = .ok (.istore_n 1, 1) := by decide +kernel
theorem dX11_init_115 : decode cX11_init 115 = .ok (.iload_n 1, 1) := by decide +kernel
theorem dX11_init_116 : decode cX11_init 116 = .ok (.aload_n 0, 1) := by decide +kernel
theorem dX11_init_117 : decode cX11_init 117 = .ok (.getfield 15, 3) := by decide +kernel
theorem dX11_init_120 : decode cX11_init 120 = .ok (.arraylength, 1) := by decide +kernel
theorem dX11_init_121 : decode cX11_init 121 = .ok (.if_icmp .ge 22, 3) := by decide +kernel
theorem dX11_init_124 : decode cX11_init 124 = .ok (.aload_n 0, 1) := by decide +kernel
theorem dX11_init_125 : decode cX11_init 125 = .ok (.getfield 15, 3) := by decide +kernel
theorem dX11_init_128 : decode cX11_init 128 = .ok (.iload_n 1, 1) := by decide +kernel
theorem dX11_init_129 : decode cX11_init 129 = .ok (.new 13, 3) := by decide +kernel
theorem dX11_init_132 : decode cX11_init 132 = .ok (.dup, 1) := by decide +kernel
theorem dX11_init_133 : decode cX11_init 133 = .ok (.invokespecial 79, 3) := by decide +kernel
theorem dX11_init_136 : decode cX11_init 136 = .ok (.aastore, 1) := by decide +kernel
theorem dX11_init_137 : decode cX11_init 137 = .ok (.iinc 1 1, 3) := by decide +kernel
theorem dX11_init_140 : decode cX11_init 140 = .ok (.goto (-25), 3) := by decide +kernel
theorem dX11_init_143 : decode cX11_init 143 = .ok (.iconst 0, 1) := by decide +kernel
theorem dX11_init_144 : decode cX11_init 144 = .ok (.istore_n 1, 1) := by decide +kernel
theorem dX11_init_145 : decode cX11_init 145 = .ok (.iload_n 1, 1) := by decide +kernel
theorem dX11_init_146 : decode cX11_init 146 = .ok (.aload_n 0, 1) := by decide +kernel
theorem dX11_init_147 : decode cX11_init 147 = .ok (.getfield 21, 3) := by decide +kernel
theorem dX11_init_150 : decode cX11_init 150 = .ok (.arraylength, 1) := by decide +kernel
theorem dX11_init_151 : decode cX11_init 151 = .ok (.if_icmp .ge 22, 3) := by decide +kernel
theorem dX11_init_154 : decode cX11_init 154 = .ok (.aload_n 0, 1) := by decide +kernel
theorem dX11_init_155 : decode cX11_init 155 = .ok (.getfield 21, 3) := by decide +kernel
theorem dX11_init_158 : decode cX11_init 158 = .ok (.iload_n 1, 1) := by decide +kernel
theorem dX11_init_159 : decode cX11_init 159 = .ok (.new 19, 3) := by decide +kernel
theorem dX11_init_162 : decode cX11_init 162 = .ok (.dup, 1) := by decide +kernel
theorem dX11_init_163 : decode cX11_init 163 = .ok (.invokespecial 25, 3) := by decide +kernel
theorem dX11_init_166 : decode cX11_init 166 = .ok (.aastore, 1) := by decide +kernel
theorem dX11_init_167 : decode cX11_init 167 = .ok (.iinc 1 1, 3) := by decide +kernel
theorem dX11_init_170 : decode cX11_init 170 = .ok (.goto (-25), 3) := by decide +kernel
theorem dX11_init_173 : decode cX11_init 173 = .ok (.return_, 1) := by decide +kernel
theorem dX11_status_0 : decode cX11_status 0 = .ok (.aload_n 0, 1) := by decide +kernel
theorem dX11_status_1 : decode cX11_status 1 = .ok (.getfield 80, 3) := by decide +kernel
theorem dX11_status_4 : decode cX11_status 4 = .ok (.ireturn, 1) := by decide +kernel
theorem dX11_top_0 : decode cX11_top 0 = .ok (.aload_n 0, 1) := by decide +kernel
theorem dX11_top_1 : decode cX11_top 1 = .ok (.getfield 84, 3) := by decide +kernel
theorem dX11_top_4 : decode cX11_top 4 = .ok (.lreturn, 1) := by decide +kernel
theorem dX11_bottom_0 : decode cX11_bottom 0 = .ok (.aload_n 0, 1) := by decide +kernel
theorem dX11_bottom_1 : decode cX11_bottom 1 = .ok (.getfield 9, 3) := by decide +kernel
theorem dX11_bottom_4 : decode cX11_bottom 4 = .ok (.lreturn, 1) := by decide +kernel
theorem dX11_tray_0 : decode cX11_tray 0 = .ok (.aload_n 0, 1) := by decide +kernel
theorem dX11_tray_1 : decode cX11_tray 1 = .ok (.iload_n 1, 1) := by decide +kernel
theorem dX11_tray_2 : decode cX11_tray 2 = .ok (.invokevirtual 87, 3) := by decide +kernel
theorem dX11_tray_5 : decode cX11_tray 5 = .ok (.ifCond .eq 12, 3) := by decide +kernel
theorem dX11_tray_8 : decode cX11_tray 8 = .ok (.iload_n 2, 1) := by decide +kernel
theorem dX11_tray_9 : decode cX11_tray 9 = .ok (.ifCond .lt 8, 3) := by decide +kernel
theorem dX11_tray_12 : decode cX11_tray 12 = .ok (.iload_n 2, 1) := by decide +kernel
theorem dX11_tray_13 : decode cX11_tray 13 = .ok (.iconst 3, 1) := by decide +kernel
theorem dX11_tray_14 : decode cX11_tray 14 = .ok (.if_icmp .le 9, 3) := by decide +kernel
theorem dX11_tray_17 : decode cX11_tray 17 = .ok (.aload_n 0, 1) := by decide +kernel
theorem dX11_tray_18 : decode cX11_tray 18 = .ok (.iconst 1, 1) := by decide +kernel
theorem dX11_tray_19 : decode cX11_tray 19 = .ok (.invokevirtual 91, 3) := by decide +kernel
theorem dX11_tray_22 : decode cX11_tray 22 = .ok (.ireturn, 1) := by decide +kernel
theorem dX11_tray_23 : decode cX11_tray 23 = .ok (.iload_n 3, 1) := by decide +kernel
theorem dX11_tray_24 : decode cX11_tray 24 = .ok (.bipush 60, 2) := by decide +kernel
theorem dX11_tray_26 : decode cX11_tray 26 = .ok (.if_icmp .le 9, 3) := by decide +kernel
theorem dX11_tray_29 : decode cX11_tray 29 = .ok (.aload_n 0, 1) := by decide +kernel
theorem dX11_tray_30 : decode cX11_tray 30 = .ok (.iconst 5, 1) := by decide +kernel
theorem dX11_tray_31 : decode cX11_tray 31 = .ok (.invokevirtual 91, 3) := by decide +kernel
theorem dX11_tray_34 : decode cX11_tray 34 = .ok (.ireturn, 1) := by decide +kernel
theorem dX11_tray_35 : decode cX11_tray 35 = .ok (.iload_n 3, 1) := by decide +kernel
theorem dX11_tray_36 : decode cX11_tray 36 = .ok (.ifCond .ge 10, 3) := by decide +kernel
theorem dX11_tray_39 : decode cX11_tray 39 = .ok (.aload_n 0, 1) := by decide +kernel
theorem dX11_tray_40 : decode cX11_tray 40 = .ok (.bipush 6, 2) := by decide +kernel
theorem dX11_tray_42 : decode cX11_tray 42 = .ok (.invokevirtual 91, 3) := by decide +kernel
theorem dX11_tray_45 : decode cX11_tray 45 = .ok (.ireturn, 1) := by decide +kernel
theorem dX11_tray_46 : decode cX11_tray 46 = .ok (.aload_n 0, 1) := by decide +kernel
theorem dX11_tray_47 : decode cX11_tray 47 = .ok (.getfield 15, 3) := by decide +kernel
theorem dX11_tray_50 : decode cX11_tray 50 = .ok (.iload_n 1, 1) := by decide +kernel
theorem dX11_tray_51 : decode cX11_tray 51 = .ok (.aaload, 1) := by decide +kernel
theorem dX11_tray_52 : decode cX11_tray 52 = .ok (.iload_n 2, 1) := by decide +kernel
theorem dX11_tray_53 : decode cX11_tray 53 = .ok (.iload_n 3, 1) := by decide +kernel
theorem dX11_tray_54 : decode cX11_tray 54 = .ok (.invokevirtual 94, 3) := by decide +kernel
theorem dX11_tray_57 : decode cX11_tray 57 = .ok (.aload_n 0, 1) := by decide +kernel
theorem dX11_tray_58 : decode cX11_tray 58 = .ok (.invokevirtual 98, 3) := by decide +kernel
theorem dX11_tray_61 : decode cX11_tray 61 = .ok (.ireturn, 1) := by decide +kernel
theorem dX11_write_0 : decode cX11_write 0 = .ok (.aload_n 0, 1) := by decide +kernel
theorem dX11_write_1 : decode cX11_write 1 = .ok (.iload_n 1, 1) := by decide +kernel
theorem dX11_write_2 : decode cX11_write 2 = .ok (.invokevirtual 87, 3) := by decide +kernel
theorem dX11_write_5 : decode cX11_write 5 = .ok (.ifCond .ne 9, 3) := by decide +kernel
theorem dX11_write_8 : decode cX11_write 8 = .ok (.aload_n 0, 1) := by decide +kernel
theorem dX11_write_9 : decode cX11_write 9 = .ok (.iconst 1, 1) := by decide +kernel
theorem dX11_write_10 : decode cX11_write 10 = .ok (.invokevirtual 91, 3) := by decide +kernel
theorem dX11_write_13 : decode cX11_write 13 = .ok (.ireturn, 1) := by decide +kernel
theorem dX11_write_14 : decode cX11_write 14 = .ok (.aload_n 0, 1) := by decide +kernel
theorem dX11_write_15 : decode cX11_write 15 = .ok (.getfield 15, 3) := by decide +kernel
theorem dX11_write_18 : decode cX11_write 18 = .ok (.iload_n 1, 1) := by decide +kernel
theorem dX11_write_19 : decode cX11_write 19 = .ok (.aaload, 1) := by decide +kernel
theorem dX11_write_20 : decode cX11_write 20 = .ok (.invokevirtual 102, 3) := by decide +kernel
theorem dX11_write_23 : decode cX11_write 23 = .ok (.ifCond .eq 9, 3) := by decide +kernel
theorem dX11_write_26 : decode cX11_write 26 = .ok (.aload_n 0, 1) := by decide +kernel
theorem dX11_write_27 : decode cX11_write 27 = .ok (.iconst 3, 1) := by decide +kernel
theorem dX11_write_28 : decode cX11_write 28 = .ok (.invokevirtual 91, 3) := by decide +kernel
theorem dX11_write_31 : decode cX11_write 31 = .ok (.ireturn, 1) := by decide +kernel
theorem dX11_write_32 : decode cX11_write 32 = .ok (.aload_n 0, 1) := by decide +kernel
theorem dX11_write_33 : decode cX11_write 33 = .ok (.getfield 15, 3) := by decide +kernel
theorem dX11_write_36 : decode cX11_write 36 = .ok (.iload_n 1, 1) := by decide +kernel
theorem dX11_write_37 : decode cX11_write 37 = .ok (.aaload, 1) := by decide +kernel
theorem dX11_write_38 : decode cX11_write 38 = .ok (.iload_n 2, 1) := by decide +kernel
theorem dX11_write_39 : decode cX11_write 39 = .ok (.invokevirtual 105, 3) := by decide +kernel
theorem dX11_write_42 : decode cX11_write 42 = .ok (.ifCond .ne 9, 3) := by decide +kernel
theorem dX11_write_45 : decode cX11_write 45 = .ok (.aload_n 0, 1) := by decide +kernel
theorem dX11_write_46 : decode cX11_write 46 = .ok (.iconst 4, 1) := by decide +kernel
theorem dX11_write_47 : decode cX11_write 47 = .ok (.invokevirtual 91, 3) := by decide +kernel
theorem dX11_write_50 : decode cX11_write 50 = .ok (.ireturn, 1) := by decide +kernel
theorem dX11_write_51 : decode cX11_write 51 = .ok (.aload_n 0, 1) := by decide +kernel
theorem dX11_write_52 : decode cX11_write 52 = .ok (.getfield 15, 3) := by decide +kernel
theorem dX11_write_55 : decode cX11_write 55 = .ok (.iload_n 1, 1) := by decide +kernel
theorem dX11_write_56 : decode cX11_write 56 = .ok (.aaload, 1) := by decide +kernel
theorem dX11_write_57 : decode cX11_write 57 = .ok (.iload_n 2, 1) := by decide +kernel
theorem dX11_write_58 : decode cX11_write 58 = .ok (.lload_n 3, 1) := by decide +kernel
theorem dX11_write_59 : decode cX11_write 59 = .ok (.invokevirtual 108, 3) := by decide +kernel
theorem dX11_write_62 : decode cX11_write 62 = .ok (.aload_n 0, 1) := by decide +kernel
theorem dX11_write_63 : decode cX11_write 63 = .ok (.invokevirtual 98, 3) := by decide +kernel
theorem dX11_write_66 : decode cX11_write 66 = .ok (.ireturn, 1) := by decide +kernel
theorem dX11_read_0 : decode cX11_read 0 = .ok (.aload_n 0, 1) := by decide +kernel
theorem dX11_read_1 : decode cX11_read 1 = .ok (.iload_n 1, 1) := by decide +kernel
theorem dX11_read_2 : decode cX11_read 2 = .ok (.invokevirtual 87, 3) := by decide +kernel
theorem dX11_read_5 : decode cX11_read 5 = .ok (.ifCond .ne 10, 3) := by decide +kernel
theorem dX11_read_8 : decode cX11_read 8 = .ok (.aload_n 0, 1) := by decide +kernel
theorem dX11_read_9 : decode cX11_read 9 = .ok (.iconst 1, 1) := by decide +kernel
theorem dX11_read_10 : decode cX11_read 10 = .ok (.invokevirtual 112, 3) := by decide +kernel
theorem dX11_read_13 : decode cX11_read 13 = .ok (.i2l, 1) := by decide +kernel
theorem dX11_read_14 : decode cX11_read 14 = .ok (.lreturn, 1) := by decide +kernel
theorem dX11_read_15 : decode cX11_read 15 = .ok (.aload_n 0, 1) := by decide +kernel
theorem dX11_read_16 : decode cX11_read 16 = .ok (.getfield 15, 3) := by decide +kernel
theorem dX11_read_19 : decode cX11_read 19 = .ok (.iload_n 1, 1) := by decide +kernel
theorem dX11_read_20 : decode cX11_read 20 = .ok (.aaload, 1) := by decide +kernel
theorem dX11_read_21 : decode cX11_read 21 = .ok (.invokevirtual 102, 3) := by decide +kernel
theorem dX11_read_24 : decode cX11_read 24 = .ok (.ifCond .eq 10, 3) := by decide +kernel
theorem dX11_read_27 : decode cX11_read 27 = .ok (.aload_n 0, 1) := by decide +kernel
theorem dX11_read_28 : decode cX11_read 28 = .ok (.iconst 3, 1) := by decide +kernel
theorem dX11_read_29 : decode cX11_read 29 = .ok (.invokevirtual 112, 3) := by decide +kernel
theorem dX11_read_32 : decode cX11_read 32 = .ok (.i2l, 1) := by decide +kernel
theorem dX11_read_33 : decode cX11_read 33 = .ok (.lreturn, 1) := by decide +kernel
theorem dX11_read_34 : decode cX11_read 34 = .ok (.aload_n 0, 1) := by decide +kernel
theorem dX11_read_35 : decode cX11_read 35 = .ok (.getfield 15, 3) := by decide +kernel
theorem dX11_read_38 : decode cX11_read 38 = .ok (.iload_n 1, 1) := by decide +kernel
theorem dX11_read_39 : decode cX11_read 39 = .ok (.aaload, 1) := by decide +kernel
theorem dX11_read_40 : decode cX11_read 40 = .ok (.iload_n 2, 1) := by decide +kernel
theorem dX11_read_41 : decode cX11_read 41 = .ok (.invokevirtual 105, 3) := by decide +kernel
theorem dX11_read_44 : decode cX11_read 44 = .ok (.ifCond .ne 10, 3) := by decide +kernel
theorem dX11_read_47 : decode cX11_read 47 = .ok (.aload_n 0, 1) := by decide +kernel
theorem dX11_read_48 : decode cX11_read 48 = .ok (.iconst 4, 1) := by decide +kernel
theorem dX11_read_49 : decode cX11_read 49 = .ok (.invokevirtual 112, 3) := by decide +kernel
theorem dX11_read_52 : decode cX11_read 52 = .ok (.i2l, 1) := by decide +kernel
theorem dX11_read_53 : decode cX11_read 53 = .ok (.lreturn, 1) := by decide +kernel
theorem dX11_read_54 : decode cX11_read 54 = .ok (.aload_n 0, 1) := by decide +kernel
theorem dX11_read_55 : decode cX11_read 55 = .ok (.iconst 0, 1) := by decide +kernel
theorem dX11_read_56 : decode cX11_read 56 = .ok (.putfield 80, 3) := by decide +kernel
theorem dX11_read_59 : decode cX11_read 59 = .ok (.aload_n 0, 1) := by decide +kernel
theorem dX11_read_60 : decode cX11_read 60 = .ok (.getfield 15, 3) := by decide +kernel
theorem dX11_read_63 : decode cX11_read 63 = .ok (.iload_n 1, 1) := by decide +kernel
theorem dX11_read_64 : decode cX11_read 64 = .ok (.aaload, 1) := by decide +kernel
theorem dX11_read_65 : decode cX11_read 65 = .ok (.iload_n 2, 1) := by decide +kernel
theorem dX11_read_66 : decode cX11_read 66 = .ok (.invokevirtual 116, 3) := by decide +kernel
theorem dX11_read_69 : decode cX11_read 69 = .ok (.lreturn, 1) := by decide +kernel
theorem dX11_pour_0 : decode cX11_pour 0 = .ok (.aload_n 0, 1) := by decide +kernel
theorem dX11_pour_1 : decode cX11_pour 1 = .ok (.iload_n 1, 1) := by decide +kernel
theorem dX11_pour_2 : decode cX11_pour 2 = .ok (.invokevirtual 87, 3) := by decide +kernel
theorem dX11_pour_5 : decode cX11_pour 5 = .ok (.ifCond .eq 11, 3) := by decide +kernel
theorem dX11_pour_8 : decode cX11_pour 8 = .ok (.aload_n 0, 1) := by decide +kernel
theorem dX11_pour_9 : decode cX11_pour 9 = .ok (.iload_n 3, 1) := by decide +kernel
theorem dX11_pour_10 : decode cX11_pour 10 = .ok (.invokevirtual 87, 3) := by decide +kernel
theorem dX11_pour_13 : decode cX11_pour 13 = .ok (.ifCond .ne 9, 3) := by decide +kernel
theorem dX11_pour_16 : decode cX11_pour 16 = .ok (.aload_n 0, 1) := by decide +kernel
theorem dX11_pour_17 : decode cX11_pour 17 = .ok (.iconst 1, 1) := by decide +kernel
theorem dX11_pour_18 : decode cX11_pour 18 = .ok (.invokevirtual 91, 3) := by decide +kernel
theorem dX11_pour_21 : decode cX11_pour 21 = .ok (.ireturn, 1) := by decide +kernel
theorem dX11_pour_22 : decode cX11_pour 22 = .ok (.aload_n 0, 1) := by decide +kernel
theorem dX11_pour_23 : decode cX11_pour 23 = .ok (.getfield 15, 3) := by decide +kernel
theorem dX11_pour_26 : decode cX11_pour 26 = .ok (.iload_n 1, 1) := by decide +kernel
theorem dX11_pour_27 : decode cX11_pour 27 = .ok (.aaload, 1) := by decide +kernel
theorem dX11_pour_28 : decode cX11_pour 28 = .ok (.astore 6, 2) := by decide +kernel
theorem dX11_pour_30 : decode cX11_pour 30 = .ok (.aload_n 0, 1) := by decide +kernel
theorem dX11_pour_31 : decode cX11_pour 31 = .ok (.getfield 15, 3) := by decide +kernel
theorem dX11_pour_34 : decode cX11_pour 34 = .ok (.iload_n 3, 1) := by decide +kernel
theorem dX11_pour_35 : decode cX11_pour 35 = .ok (.aaload, 1) := by decide +kernel
theorem dX11_pour_36 : decode cX11_pour 36 = .ok (.astore 7, 2) := by decide +kernel
theorem dX11_pour_38 : decode cX11_pour 38 = .ok (.aload 6, 2) := by decide +kernel
theorem dX11_pour_40 : decode cX11_pour 40 = .ok (.invokevirtual 102, 3) := by decide +kernel
theorem dX11_pour_43 : decode cX11_pour 43 = .ok (.ifCond .ne 11, 3) := by decide +kernel
theorem dX11_pour_46 : decode cX11_pour 46 = .ok (.aload 7, 2) := by decide +kernel
theorem dX11_pour_48 : decode cX11_pour 48 = .ok (.invokevirtual 102, 3) := by decide +kernel
theorem dX11_pour_51 : decode cX11_pour 51 = .ok (.ifCond .eq 9, 3) := by decide +kernel
theorem dX11_pour_54 : decode cX11_pour 54 = .ok (.aload_n 0, 1) := by decide +kernel
theorem dX11_pour_55 : decode cX11_pour 55 = .ok (.iconst 3, 1) := by decide +kernel
theorem dX11_pour_56 : decode cX11_pour 56 = .ok (.invokevirtual 91, 3) := by decide +kernel
theorem dX11_pour_59 : decode cX11_pour 59 = .ok (.ireturn, 1) := by decide +kernel
theorem dX11_pour_60 : decode cX11_pour 60 = .ok (.aload 6, 2) := by decide +kernel
theorem dX11_pour_62 : decode cX11_pour 62 = .ok (.getfield 120, 3) := by decide +kernel
theorem dX11_pour_65 : decode cX11_pour 65 = .ok (.aload 7, 2) := by decide +kernel
theorem dX11_pour_67 : decode cX11_pour 67 = .ok (.getfield 120, 3) := by decide +kernel
theorem dX11_pour_70 : decode cX11_pour 70 = .ok (.if_icmp .eq 10, 3) := by decide +kernel
theorem dX11_pour_73 : decode cX11_pour 73 = .ok (.aload_n 0, 1) := by decide +kernel
theorem dX11_pour_74 : decode cX11_pour 74 = .ok (.bipush 11, 2) := by decide +kernel
theorem dX11_pour_76 : decode cX11_pour 76 = .ok (.invokevirtual 91, 3) := by decide +kernel
theorem dX11_pour_79 : decode cX11_pour 79 = .ok (.ireturn, 1) := by decide +kernel
theorem dX11_pour_80 : decode cX11_pour 80 = .ok (.iload 5, 2) := by decide +kernel
theorem dX11_pour_82 : decode cX11_pour 82 = .ok (.ifCond .ge 10, 3) := by decide +kernel
theorem dX11_pour_85 : decode cX11_pour 85 = .ok (.aload_n 0, 1) := by decide +kernel
theorem dX11_pour_86 : decode cX11_pour 86 = .ok (.bipush 6, 2) := by decide +kernel
theorem dX11_pour_88 : decode cX11_pour 88 = .ok (.invokevirtual 91, 3) := by decide +kernel
theorem dX11_pour_91 : decode cX11_pour 91 = .ok (.ireturn, 1) := by decide +kernel
theorem dX11_pour_92 : decode cX11_pour 92 = .ok (.aload 6, 2) := by decide +kernel
theorem dX11_pour_94 : decode cX11_pour 94 = .ok (.iload_n 2, 1) := by decide +kernel
theorem dX11_pour_95 : decode cX11_pour 95 = .ok (.iload 5, 2) := by decide +kernel
theorem dX11_pour_97 : decode cX11_pour 97 = .ok (.invokevirtual 123, 3) := by decide +kernel
theorem dX11_pour_100 : decode cX11_pour 100 = .ok (.ifCond .eq 15, 3) := by decide +kernel
theorem dX11_pour_103 : decode cX11_pour 103 = .ok (.aload 7, 2) := by decide +kernel
theorem dX11_pour_105 : decode cX11_pour 105 = .ok (.iload 4, 2) := by decide +kernel
theorem dX11_pour_107 : decode cX11_pour 107 = .ok (.iload 5, 2) := by decide +kernel
theorem dX11_pour_109 : decode cX11_pour 109 = .ok (.invokevirtual 123, 3) := by decide +kernel
theorem dX11_pour_112 : decode cX11_pour 112 = .ok (.ifCond .ne 9, 3) := by decide +kernel
theorem dX11_pour_115 : decode cX11_pour 115 = .ok (.aload_n 0, 1) := by decide +kernel
theorem dX11_pour_116 : decode cX11_pour 116 = .ok (.iconst 4, 1) := by decide +kernel
theorem dX11_pour_117 : decode cX11_pour 117 = .ok (.invokevirtual 91, 3) := by decide +kernel
theorem dX11_pour_120 : decode cX11_pour 120 = .ok (.ireturn, 1) := by decide +kernel
theorem dX11_pour_121 : decode cX11_pour 121 = .ok (.aload 6, 2) := by decide +kernel
theorem dX11_pour_123 : decode cX11_pour 123 = .ok (.getfield 127, 3) := by decide +kernel
theorem dX11_pour_126 : decode cX11_pour 126 = .ok (.iload_n 2, 1) := by decide +kernel
theorem dX11_pour_127 : decode cX11_pour 127 = .ok (.aload 7, 2) := by decide +kernel
theorem dX11_pour_129 : decode cX11_pour 129 = .ok (.getfield 127, 3) := by decide +kernel
theorem dX11_pour_132 : decode cX11_pour 132 = .ok (.iload 4, 2) := by decide +kernel
theorem dX11_pour_134 : decode cX11_pour 134 = .ok (.iload 5, 2) := by decide +kernel
theorem dX11_pour_136 : decode cX11_pour 136 = .ok (.invokestatic 131, 3) := by decide +kernel
theorem dX11_pour_139 : decode cX11_pour 139 = .ok (.aload_n 0, 1) := by decide +kernel
theorem dX11_pour_140 : decode cX11_pour 140 = .ok (.invokevirtual 98, 3) := by decide +kernel
theorem dX11_pour_143 : decode cX11_pour 143 = .ok (.ireturn, 1) := by decide +kernel
theorem dX11_feed_0 : decode cX11_feed 0 = .ok (.aload_n 0, 1) := by decide +kernel
theorem dX11_feed_1 : decode cX11_feed 1 = .ok (.getfield 47, 3) := by decide +kernel
theorem dX11_feed_4 : decode cX11_feed 4 = .ok (.getfield 137, 3) := by decide +kernel
theorem dX11_feed_7 : decode cX11_feed 7 = .ok (.sipush 780, 3) := by decide +kernel
theorem dX11_feed_10 : decode cX11_feed 10 = .ok (.if_icmp .le 5, 3) := by decide +kernel
theorem dX11_feed_13 : decode cX11_feed 13 = .ok (.iconst (-1), 1) := by decide +kernel
theorem dX11_feed_14 : decode cX11_feed 14 = .ok (.ireturn, 1) := by decide +kernel
theorem dX11_feed_15 : decode cX11_feed 15 = .ok (.aload_n 0, 1) := by decide +kernel
theorem dX11_feed_16 : decode cX11_feed 16 = .ok (.getfield 47, 3) := by decide +kernel
theorem dX11_feed_19 : decode cX11_feed 19 = .ok (.iload_n 1, 1) := by decide +kernel
theorem dX11_feed_20 : decode cX11_feed 20 = .ok (.invokevirtual 140, 3) := by decide +kernel
theorem dX11_feed_23 : decode cX11_feed 23 = .ok (.aload_n 0, 1) := by decide +kernel
theorem dX11_feed_24 : decode cX11_feed 24 = .ok (.getfield 47, 3) := by decide +kernel
theorem dX11_feed_27 : decode cX11_feed 27 = .ok (.iload_n 2, 1) := by decide +kernel
theorem dX11_feed_28 : decode cX11_feed 28 = .ok (.invokevirtual 140, 3) := by decide +kernel
theorem dX11_feed_31 : decode cX11_feed 31 = .ok (.aload_n 0, 1) := by decide +kernel
theorem dX11_feed_32 : decode cX11_feed 32 = .ok (.getfield 47, 3) := by decide +kernel
theorem dX11_feed_35 : decode cX11_feed 35 = .ok (.iload_n 3, 1) := by decide +kernel
theorem dX11_feed_36 : decode cX11_feed 36 = .ok (.invokevirtual 140, 3) := by decide +kernel
theorem dX11_feed_39 : decode cX11_feed 39 = .ok (.aload_n 0, 1) := by decide +kernel
theorem dX11_feed_40 : decode cX11_feed 40 = .ok (.getfield 47, 3) := by decide +kernel
theorem dX11_feed_43 : decode cX11_feed 43 = .ok (.iload 4, 2) := by decide +kernel
theorem dX11_feed_45 : decode cX11_feed 45 = .ok (.invokevirtual 140, 3) := by decide +kernel
theorem dX11_feed_48 : decode cX11_feed 48 = .ok (.aload_n 0, 1) := by decide +kernel
theorem dX11_feed_49 : decode cX11_feed 49 = .ok (.getfield 47, 3) := by decide +kernel
theorem dX11_feed_52 : decode cX11_feed 52 = .ok (.iload 5, 2) := by decide +kernel
theorem dX11_feed_54 : decode cX11_feed 54 = .ok (.invokevirtual 140, 3) := by decide +kernel
theorem dX11_feed_57 : decode cX11_feed 57 = .ok (.aload_n 0, 1) := by decide +kernel
theorem dX11_feed_58 : decode cX11_feed 58 = .ok (.getfield 47, 3) := by decide +kernel
theorem dX11_feed_61 : decode cX11_feed 61 = .ok (.getfield 137, 3) := by decide +kernel
theorem dX11_feed_64 : decode cX11_feed 64 = .ok (.ireturn, 1) := by decide +kernel
theorem dX11_town_0 : decode cX11_town 0 = .ok (.aload_n 0, 1) := by decide +kernel
theorem dX11_town_1 : decode cX11_town 1 = .ok (.iload_n 1, 1) := by decide +kernel
theorem dX11_town_2 : decode cX11_town 2 = .ok (.sipush 800, 3) := by decide +kernel
theorem dX11_town_5 : decode cX11_town 5 = .ok (.invokevirtual 144, 3) := by decide +kernel
theorem dX11_town_8 : decode cX11_town 8 = .ok (.ifCond .ne 9, 3) := by decide +kernel
theorem dX11_town_11 : decode cX11_town 11 = .ok (.aload_n 0, 1) := by decide +kernel
theorem dX11_town_12 : decode cX11_town 12 = .ok (.iconst 5, 1) := by decide +kernel
theorem dX11_town_13 : decode cX11_town 13 = .ok (.invokevirtual 112, 3) := by decide +kernel
theorem dX11_town_16 : decode cX11_town 16 = .ok (.ireturn, 1) := by decide +kernel
theorem dX11_town_17 : decode cX11_town 17 = .ok (.aload_n 0, 1) := by decide +kernel
theorem dX11_town_18 : decode cX11_town 18 = .ok (.getfield 47, 3) := by decide +kernel
theorem dX11_town_21 : decode cX11_town 21 = .ok (.iload_n 1, 1) := by decide +kernel
theorem dX11_town_22 : decode cX11_town 22 = .ok (.invokevirtual 147, 3) := by decide +kernel
theorem dX11_town_25 : decode cX11_town 25 = .ok (.aload_n 0, 1) := by decide +kernel
theorem dX11_town_26 : decode cX11_town 26 = .ok (.getfield 26, 3) := by decide +kernel
theorem dX11_town_29 : decode cX11_town 29 = .ok (.aload_n 0, 1) := by decide +kernel
theorem dX11_town_30 : decode cX11_town 30 = .ok (.getfield 47, 3) := by decide +kernel
theorem dX11_town_33 : decode cX11_town 33 = .ok (.invokevirtual 150, 3) := by decide +kernel
theorem dX11_town_36 : decode cX11_town 36 = .ok (.ifCond .ne 10, 3) := by decide +kernel
theorem dX11_town_39 : decode cX11_town 39 = .ok (.aload_n 0, 1) := by decide +kernel
theorem dX11_town_40 : decode cX11_town 40 = .ok (.bipush 10, 2) := by decide +kernel
theorem dX11_town_42 : decode cX11_town 42 = .ok (.invokevirtual 112, 3) := by decide +kernel
theorem dX11_town_45 : decode cX11_town 45 = .ok (.ireturn, 1) := by decide +kernel
theorem dX11_town_46 : decode cX11_town 46 = .ok (.aload_n 0, 1) := by decide +kernel
theorem dX11_town_47 : decode cX11_town 47 = .ok (.invokevirtual 154, 3) := by decide +kernel
theorem dX11_town_50 : decode cX11_town 50 = .ok (.astore_n 2, 1) := by decide +kernel
theorem dX11_town_51 : decode cX11_town 51 = .ok (.aload_n 0, 1) := by decide +kernel
theorem dX11_town_52 : decode cX11_town 52 = .ok (.getfield 21, 3) := by decide +kernel
theorem dX11_town_55 : decode cX11_town 55 = .ok (.aload_n 0, 1) := by decide +kernel
theorem dX11_town_56 : decode cX11_town 56 = .ok (.getfield 158, 3) := by decide +kernel
theorem dX11_town_59 : decode cX11_town 59 = .ok (.aload_n 0, 1) := by decide +kernel
theorem dX11_town_60 : decode cX11_town 60 = .ok (.getfield 26, 3) := by decide +kernel
theorem dX11_town_63 : decode cX11_town 63 = .ok (.aastore, 1) := by decide +kernel
theorem dX11_town_64 : decode cX11_town 64 = .ok (.aload_n 0, 1) := by decide +kernel
theorem dX11_town_65 : decode cX11_town 65 = .ok (.aload_n 2, 1) := by decide +kernel
theorem dX11_town_66 : decode cX11_town 66 = .ok (.putfield 26, 3) := by decide +kernel
theorem dX11_town_69 : decode cX11_town 69 = .ok (.aload_n 0, 1) := by decide +kernel
theorem dX11_town_70 : decode cX11_town 70 = .ok (.aload_n 0, 1) := by decide +kernel
theorem dX11_town_71 : decode cX11_town 71 = .ok (.invokevirtual 154, 3) := by decide +kernel
theorem dX11_town_74 : decode cX11_town 74 = .ok (.getfield 161, 3) := by decide +kernel
theorem dX11_town_77 : decode cX11_town 77 = .ok (.getfield 165, 3) := by decide +kernel
theorem dX11_town_80 : decode cX11_town 80 = .ok (.invokevirtual 170, 3) := by decide +kernel
theorem dX11_town_83 : decode cX11_town 83 = .ok (.ireturn, 1) := by decide +kernel
theorem dX11_law_0 : decode cX11_law 0 = .ok (.aload_n 0, 1) := by decide +kernel
theorem dX11_law_1 : decode cX11_law 1 = .ok (.iload_n 1, 1) := by decide +kernel
theorem dX11_law_2 : decode cX11_law 2 = .ok (.sipush 300, 3) := by decide +kernel
theorem dX11_law_5 : decode cX11_law 5 = .ok (.invokevirtual 144, 3) := by decide +kernel
theorem dX11_law_8 : decode cX11_law 8 = .ok (.ifCond .ne 9, 3) := by decide +kernel
theorem dX11_law_11 : decode cX11_law 11 = .ok (.aload_n 0, 1) := by decide +kernel
theorem dX11_law_12 : decode cX11_law 12 = .ok (.iconst 5, 1) := by decide +kernel
theorem dX11_law_13 : decode cX11_law 13 = .ok (.invokevirtual 112, 3) := by decide +kernel
theorem dX11_law_16 : decode cX11_law 16 = .ok (.ireturn, 1) := by decide +kernel
theorem dX11_law_17 : decode cX11_law 17 = .ok (.aload_n 0, 1) := by decide +kernel
theorem dX11_law_18 : decode cX11_law 18 = .ok (.getfield 47, 3) := by decide +kernel
theorem dX11_law_21 : decode cX11_law 21 = .ok (.iload_n 1, 1) := by decide +kernel
theorem dX11_law_22 : decode cX11_law 22 = .ok (.invokevirtual 147, 3) := by decide +kernel
theorem dX11_law_25 : decode cX11_law 25 = .ok (.aload_n 0, 1) := by decide +kernel
theorem dX11_law_26 : decode cX11_law 26 = .ok (.getfield 33, 3) := by decide +kernel
theorem dX11_law_29 : decode cX11_law 29 = .ok (.aload_n 0, 1) := by decide +kernel
theorem dX11_law_30 : decode cX11_law 30 = .ok (.getfield 47, 3) := by decide +kernel
theorem dX11_law_33 : decode cX11_law 33 = .ok (.aload_n 0, 1) := by decide +kernel
theorem dX11_law_34 : decode cX11_law 34 = .ok (.invokevirtual 154, 3) := by decide +kernel
theorem dX11_law_37 : decode cX11_law 37 = .ok (.getfield 161, 3) := by decide +kernel
theorem dX11_law_40 : decode cX11_law 40 = .ok (.invokevirtual 173, 3) := by decide +kernel
theorem dX11_law_43 : decode cX11_law 43 = .ok (.ifCond .ne 10, 3) := by decide +kernel
theorem dX11_law_46 : decode cX11_law 46 = .ok (.aload_n 0, 1) := by decide +kernel
theorem dX11_law_47 : decode cX11_law 47 = .ok (.bipush 10, 2) := by decide +kernel
theorem dX11_law_49 : decode cX11_law 49 = .ok (.invokevirtual 112, 3) := by decide +kernel
theorem dX11_law_52 : decode cX11_law 52 = .ok (.ireturn, 1) := by decide +kernel
theorem dX11_law_53 : decode cX11_law 53 = .ok (.aload_n 0, 1) := by decide +kernel
theorem dX11_law_54 : decode cX11_law 54 = .ok (.invokevirtual 154, 3) := by decide +kernel
theorem dX11_law_57 : decode cX11_law 57 = .ok (.getfield 176, 3) := by decide +kernel
theorem dX11_law_60 : decode cX11_law 60 = .ok (.astore_n 2, 1) := by decide +kernel
theorem dX11_law_61 : decode cX11_law 61 = .ok (.aload_n 0, 1) := by decide +kernel
theorem dX11_law_62 : decode cX11_law 62 = .ok (.invokevirtual 154, 3) := by decide +kernel
theorem dX11_law_65 : decode cX11_law 65 = .ok (.aload_n 0, 1) := by decide +kernel
theorem dX11_law_66 : decode cX11_law 66 = .ok (.getfield 33, 3) := by decide +kernel
theorem dX11_law_69 : decode cX11_law 69 = .ok (.putfield 176, 3) := by decide +kernel
theorem dX11_law_72 : decode cX11_law 72 = .ok (.aload_n 0, 1) := by decide +kernel
theorem dX11_law_73 : decode cX11_law 73 = .ok (.aload_n 2, 1) := by decide +kernel
theorem dX11_law_74 : decode cX11_law 74 = .ok (.putfield 33, 3) := by decide +kernel
theorem dX11_law_77 : decode cX11_law 77 = .ok (.aload_n 0, 1) := by decide +kernel
theorem dX11_law_78 : decode cX11_law 78 = .ok (.aload_n 0, 1) := by decide +kernel
theorem dX11_law_79 : decode cX11_law 79 = .ok (.invokevirtual 154, 3) := by decide +kernel
theorem dX11_law_82 : decode cX11_law 82 = .ok (.getfield 176, 3) := by decide +kernel
theorem dX11_law_85 : decode cX11_law 85 = .ok (.getfield 179, 3) := by decide +kernel
theorem dX11_law_88 : decode cX11_law 88 = .ok (.invokestatic 182, 3) := by decide +kernel
theorem dX11_law_91 : decode cX11_law 91 = .ok (.invokevirtual 170, 3) := by decide +kernel
theorem dX11_law_94 : decode cX11_law 94 = .ok (.ireturn, 1) := by decide +kernel
theorem dX11_plan_0 : decode cX11_plan 0 = .ok (.aload_n 0, 1) := by decide +kernel
theorem dX11_plan_1 : decode cX11_plan 1 = .ok (.iload_n 1, 1) := by decide +kernel
theorem dX11_plan_2 : decode cX11_plan 2 = .ok (.sipush 300, 3) := by decide +kernel
theorem dX11_plan_5 : decode cX11_plan 5 = .ok (.invokevirtual 144, 3) := by decide +kernel
theorem dX11_plan_8 : decode cX11_plan 8 = .ok (.ifCond .ne 9, 3) := by decide +kernel
theorem dX11_plan_11 : decode cX11_plan 11 = .ok (.aload_n 0, 1) := by decide +kernel
theorem dX11_plan_12 : decode cX11_plan 12 = .ok (.iconst 5, 1) := by decide +kernel
theorem dX11_plan_13 : decode cX11_plan 13 = .ok (.invokevirtual 112, 3) := by decide +kernel
theorem dX11_plan_16 : decode cX11_plan 16 = .ok (.ireturn, 1) := by decide +kernel
theorem dX11_plan_17 : decode cX11_plan 17 = .ok (.aload_n 0, 1) := by decide +kernel
theorem dX11_plan_18 : decode cX11_plan 18 = .ok (.getfield 47, 3) := by decide +kernel
theorem dX11_plan_21 : decode cX11_plan 21 = .ok (.iload_n 1, 1) := by decide +kernel
theorem dX11_plan_22 : decode cX11_plan 22 = .ok (.invokevirtual 147, 3) := by decide +kernel
theorem dX11_plan_25 : decode cX11_plan 25 = .ok (.aload_n 0, 1) := by decide +kernel
theorem dX11_plan_26 : decode cX11_plan 26 = .ok (.getfield 40, 3) := by decide +kernel
theorem dX11_plan_29 : decode cX11_plan 29 = .ok (.aload_n 0, 1) := by decide +kernel
theorem dX11_plan_30 : decode cX11_plan 30 = .ok (.getfield 47, 3) := by decide +kernel
theorem dX11_plan_33 : decode cX11_plan 33 = .ok (.aload_n 0, 1) := by decide +kernel
theorem dX11_plan_34 : decode cX11_plan 34 = .ok (.invokevirtual 154, 3) := by decide +kernel
theorem dX11_plan_37 : decode cX11_plan 37 = .ok (.invokevirtual 187, 3) := by decide +kernel
theorem dX11_plan_40 : decode cX11_plan 40 = .ok (.ifCond .ne 10, 3) := by decide +kernel
theorem dX11_plan_43 : decode cX11_plan 43 = .ok (.aload_n 0, 1) := by decide +kernel
theorem dX11_plan_44 : decode cX11_plan 44 = .ok (.bipush 10, 2) := by decide +kernel
theorem dX11_plan_46 : decode cX11_plan 46 = .ok (.invokevirtual 112, 3) := by decide +kernel
theorem dX11_plan_49 : decode cX11_plan 49 = .ok (.ireturn, 1) := by decide +kernel
theorem dX11_plan_50 : decode cX11_plan 50 = .ok (.aload_n 0, 1) := by decide +kernel
theorem dX11_plan_51 : decode cX11_plan 51 = .ok (.invokevirtual 154, 3) := by decide +kernel
theorem dX11_plan_54 : decode cX11_plan 54 = .ok (.getfield 190, 3) := by decide +kernel
theorem dX11_plan_57 : decode cX11_plan 57 = .ok (.astore_n 2, 1) := by decide +kernel
theorem dX11_plan_58 : decode cX11_plan 58 = .ok (.aload_n 0, 1) := by decide +kernel
theorem dX11_plan_59 : decode cX11_plan 59 = .ok (.invokevirtual 154, 3) := by decide +kernel
theorem dX11_plan_62 : decode cX11_plan 62 = .ok (.aload_n 0, 1) := by decide +kernel
theorem dX11_plan_63 : decode cX11_plan 63 = .ok (.getfield 40, 3) := by decide +kernel
theorem dX11_plan_66 : decode cX11_plan 66 = .ok (.putfield 190, 3) := by decide +kernel
theorem dX11_plan_69 : decode cX11_plan 69 = .ok (.aload_n 0, 1) := by decide +kernel
theorem dX11_plan_70 : decode cX11_plan 70 = .ok (.aload_n 2, 1) := by decide +kernel
theorem dX11_plan_71 : decode cX11_plan 71 = .ok (.putfield 40, 3) := by decide +kernel
theorem dX11_plan_74 : decode cX11_plan 74 = .ok (.aload_n 0, 1) := by decide +kernel
theorem dX11_plan_75 : decode cX11_plan 75 = .ok (.aload_n 0, 1) := by decide +kernel
theorem dX11_plan_76 : decode cX11_plan 76 = .ok (.invokevirtual 154, 3) := by decide +kernel
theorem dX11_plan_79 : decode cX11_plan 79 = .ok (.getfield 190, 3) := by decide +kernel
theorem dX11_plan_82 : decode cX11_plan 82 = .ok (.getfield 193, 3) := by decide +kernel
theorem dX11_plan_85 : decode cX11_plan 85 = .ok (.invokevirtual 170, 3) := by decide +kernel
theorem dX11_plan_88 : decode cX11_plan 88 = .ok (.ireturn, 1) := by decide +kernel
theorem dX11_fault_0 : decode cX11_fault 0 = .ok (.iload_n 1, 1) := by decide +kernel
theorem dX11_fault_1 : decode cX11_fault 1 = .ok (.ifCond .ne 11, 3) := by decide +kernel
theorem dX11_fault_4 : decode cX11_fault 4 = .ok (.aload_n 0, 1) := by decide +kernel
theorem dX11_fault_5 : decode cX11_fault 5 = .ok (.getfield 47, 3) := by decide +kernel
theorem dX11_fault_8 : decode cX11_fault 8 = .ok (.getfield 196, 3) := by decide +kernel
theorem dX11_fault_11 : decode cX11_fault 11 = .ok (.ireturn, 1) := by decide +kernel
theorem dX11_fault_12 : decode cX11_fault 12 = .ok (.iload_n 1, 1) := by decide +kernel
theorem dX11_fault_13 : decode cX11_fault 13 = .ok (.iconst 1, 1) := by decide +kernel
theorem dX11_fault_14 : decode cX11_fault 14 = .ok (.if_icmp .ne 13, 3) := by decide +kernel
theorem dX11_fault_17 : decode cX11_fault 17 = .ok (.aload_n 0, 1) := by decide +kernel
theorem dX11_fault_18 : decode cX11_fault 18 = .ok (.getfield 47, 3) := by decide +kernel
theorem dX11_fault_21 : decode cX11_fault 21 = .ok (.getfield 199, 3) := by decide +kernel
theorem dX11_fault_24 : decode cX11_fault 24 = .ok (.goto 4, 3) := by decide +kernel
theorem dX11_fault_27 : decode cX11_fault 27 = .ok (.iconst (-1), 1) := by decide +kernel
theorem dX11_fault_28 : decode cX11_fault 28 = .ok (.ireturn, 1) := by decide +kernel
theorem dX11_many_0 : decode cX11_many 0 = .ok (.iload_n 1, 1) := by decide +kernel
theorem dX11_many_1 : decode cX11_many 1 = .ok (.tableswitch 131 0 5 #[39, 54, 69, 84, 96, 111], 39) := by decide +kernel
theorem dX11_many_40 : decode cX11_many 40 = .ok (.aload_n 0, 1) := by decide +kernel
theorem dX11_many_41 : decode cX11_many 41 = .ok (.aload_n 0, 1) := by decide +kernel
theorem dX11_many_42 : decode cX11_many 42 = .ok (.invokevirtual 154, 3) := by decide +kernel
theorem dX11_many_45 : decode cX11_many 45 = .ok (.getfield 161, 3) := by decide +kernel
theorem dX11_many_48 : decode cX11_many 48 = .ok (.getfield 165, 3) := by decide +kernel
theorem dX11_many_51 : decode cX11_many 51 = .ok (.invokevirtual 170, 3) := by decide +kernel
theorem dX11_many_54 : decode cX11_many 54 = .ok (.ireturn, 1) := by decide +kernel
theorem dX11_many_55 : decode cX11_many 55 = .ok (.aload_n 0, 1) := by decide +kernel
theorem dX11_many_56 : decode cX11_many 56 = .ok (.aload_n 0, 1) := by decide +kernel
theorem dX11_many_57 : decode cX11_many 57 = .ok (.invokevirtual 154, 3) := by decide +kernel
theorem dX11_many_60 : decode cX11_many 60 = .ok (.getfield 202, 3) := by decide +kernel
theorem dX11_many_63 : decode cX11_many 63 = .ok (.getfield 165, 3) := by decide +kernel
theorem dX11_many_66 : decode cX11_many 66 = .ok (.invokevirtual 170, 3) := by decide +kernel
theorem dX11_many_69 : decode cX11_many 69 = .ok (.ireturn, 1) := by decide +kernel
theorem dX11_many_70 : decode cX11_many 70 = .ok (.aload_n 0, 1) := by decide +kernel
theorem dX11_many_71 : decode cX11_many 71 = .ok (.aload_n 0, 1) := by decide +kernel
theorem dX11_many_72 : decode cX11_many 72 = .ok (.invokevirtual 154, 3) := by decide +kernel
theorem dX11_many_75 : decode cX11_many 75 = .ok (.getfield 205, 3) := by decide +kernel
theorem dX11_many_78 : decode cX11_many 78 = .ok (.getfield 165, 3) := by decide +kernel
theorem dX11_many_81 : decode cX11_many 81 = .ok (.invokevirtual 170, 3) := by decide +kernel
theorem dX11_many_84 : decode cX11_many 84 = .ok (.ireturn, 1) := by decide +kernel
theorem dX11_many_85 : decode cX11_many 85 = .ok (.aload_n 0, 1) := by decide +kernel
theorem dX11_many_86 : decode cX11_many 86 = .ok (.aload_n 0, 1) := by decide +kernel
theorem dX11_many_87 : decode cX11_many 87 = .ok (.invokevirtual 154, 3) := by decide +kernel
theorem dX11_many_90 : decode cX11_many 90 = .ok (.getfield 208, 3) := by decide +kernel
theorem dX11_many_93 : decode cX11_many 93 = .ok (.invokevirtual 170, 3) := by decide +kernel
theorem dX11_many_96 : decode cX11_many 96 = .ok (.ireturn, 1) := by decide +kernel
theorem dX11_many_97 : decode cX11_many 97 = .ok (.aload_n 0, 1) := by decide +kernel
theorem dX11_many_98 : decode cX11_many 98 = .ok (.aload_n 0, 1) := by decide +kernel
theorem dX11_many_99 : decode cX11_many 99 = .ok (.invokevirtual 154, 3) := by decide +kernel
theorem dX11_many_102 : decode cX11_many 102 = .ok (.getfield 190, 3) := by decide +kernel
theorem dX11_many_105 : decode cX11_many 105 = .ok (.getfield 193, 3) := by decide +kernel
theorem dX11_many_108 : decode cX11_many 108 = .ok (.invokevirtual 170, 3) := by decide +kernel
theorem dX11_many_111 : decode cX11_many 111 = .ok (.ireturn, 1) := by decide +kernel
theorem dX11_many_112 : decode cX11_many 112 = .ok (.aload_n 0, 1) := by decide +kernel
theorem dX11_many_113 : decode cX11_many 113 = .ok (.aload_n 0, 1) := by decide +kernel
theorem dX11_many_114 : decode cX11_many 114 = .ok (.invokevirtual 154, 3) := by decide +kernel
theorem dX11_many_117 : decode cX11_many 117 = .ok (.invokevirtual 211, 3) := by decide +kernel
theorem dX11_many_120 : decode cX11_many 120 = .ok (.ifCond .eq 7, 3) := by decide +kernel
theorem dX11_many_123 : decode cX11_many 123 = .ok (.iconst 1, 1) := by decide +kernel
theorem dX11_many_124 : decode cX11_many 124 = .ok (.goto 4, 3) := by decide +kernel
theorem dX11_many_127 : decode cX11_many 127 = .ok (.iconst 0, 1) := by decide +kernel
theorem dX11_many_128 : decode cX11_many 128 = .ok (.invokevirtual 170, 3) := by decide +kernel
theorem dX11_many_131 : decode cX11_many 131 = .ok (.ireturn, 1) := by decide +kernel
theorem dX11_many_132 : decode cX11_many 132 = .ok (.aload_n 0, 1) := by decide +kernel
theorem dX11_many_133 : decode cX11_many 133 = .ok (.iconst 5, 1) := by decide +kernel
theorem dX11_many_134 : decode cX11_many 134 = .ok (.invokevirtual 112, 3) := by decide +kernel
theorem dX11_many_137 : decode cX11_many 137 = .ok (.ireturn, 1) := by decide +kernel
theorem dX11_thing_0 : decode cX11_thing 0 = .ok (.aload_n 0, 1) := by decide +kernel
theorem dX11_thing_1 : decode cX11_thing 1 = .ok (.iload_n 1, 1) := by decide +kernel
theorem dX11_thing_2 : decode cX11_thing 2 = .ok (.invokevirtual 214, 3) := by decide +kernel
theorem dX11_thing_5 : decode cX11_thing 5 = .ok (.ifCond .ne 9, 3) := by decide +kernel
theorem dX11_thing_8 : decode cX11_thing 8 = .ok (.aload_n 0, 1) := by decide +kernel
theorem dX11_thing_9 : decode cX11_thing 9 = .ok (.iconst 2, 1) := by decide +kernel
theorem dX11_thing_10 : decode cX11_thing 10 = .ok (.invokevirtual 112, 3) := by decide +kernel
theorem dX11_thing_13 : decode cX11_thing 13 = .ok (.ireturn, 1) := by decide +kernel
theorem dX11_thing_14 : decode cX11_thing 14 = .ok (.iload_n 2, 1) := by decide +kernel
theorem dX11_thing_15 : decode cX11_thing 15 = .ok (.tableswitch 76 0 2 #[25, 41, 57], 25) := by decide +kernel
theorem dX11_thing_40 : decode cX11_thing 40 = .ok (.aload_n 0, 1) := by decide +kernel
theorem dX11_thing_41 : decode cX11_thing 41 = .ok (.aload_n 0, 1) := by decide +kernel
theorem dX11_thing_42 : decode cX11_thing 42 = .ok (.invokevirtual 154, 3) := by decide +kernel
theorem dX11_thing_45 : decode cX11_thing 45 = .ok (.getfield 217, 3) := by decide +kernel
theorem dX11_thing_48 : decode cX11_thing 48 = .ok (.iload_n 1, 1) := by decide +kernel
theorem dX11_thing_49 : decode cX11_thing 49 = .ok (.ishr, 1) := by decide +kernel
theorem dX11_thing_50 : decode cX11_thing 50 = .ok (.iconst 1, 1) := by decide +kernel
theorem dX11_thing_51 : decode cX11_thing 51 = .ok (.iand, 1) := by decide +kernel
theorem dX11_thing_52 : decode cX11_thing 52 = .ok (.invokevirtual 170, 3) := by decide +kernel
theorem dX11_thing_55 : decode cX11_thing 55 = .ok (.ireturn, 1) := by decide +kernel
theorem dX11_thing_56 : decode cX11_thing 56 = .ok (.aload_n 0, 1) := by decide +kernel
theorem dX11_thing_57 : decode cX11_thing 57 = .ok (.aload_n 0, 1) := by decide +kernel
theorem dX11_thing_58 : decode cX11_thing 58 = .ok (.invokevirtual 154, 3) := by decide +kernel
theorem dX11_thing_61 : decode cX11_thing 61 = .ok (.getfield 220, 3) := by decide +kernel
theorem dX11_thing_64 : decode cX11_thing 64 = .ok (.iload_n 1, 1) := by decide +kernel
theorem dX11_thing_65 : decode cX11_thing 65 = .ok (.ishr, 1) := by decide +kernel
theorem dX11_thing_66 : decode cX11_thing 66 = .ok (.iconst 1, 1) := by decide +kernel
theorem dX11_thing_67 : decode cX11_thing 67 = .ok (.iand, 1) := by decide +kernel
theorem dX11_thing_68 : decode cX11_thing 68 = .ok (.invokevirtual 170, 3) := by decide +kernel
theorem dX11_thing_71 : decode cX11_thing 71 = .ok (.ireturn, 1) := by decide +kernel
theorem dX11_thing_72 : decode cX11_thing 72 = .ok (.aload_n 0, 1) := by decide +kernel
theorem dX11_thing_73 : decode cX11_thing 73 = .ok (.aload_n 0, 1) := by decide +kernel
theorem dX11_thing_74 : decode cX11_thing 74 = .ok (.invokevirtual 154, 3) := by decide +kernel
theorem dX11_thing_77 : decode cX11_thing 77 = .ok (.getfield 176, 3) := by decide +kernel
theorem dX11_thing_80 : decode cX11_thing 80 = .ok (.getfield 179, 3) := by decide +kernel
theorem dX11_thing_83 : decode cX11_thing 83 = .ok (.iload_n 1, 1) := by decide +kernel
theorem dX11_thing_84 : decode cX11_thing 84 = .ok (.ishr, 1) := by decide +kernel
theorem dX11_thing_85 : decode cX11_thing 85 = .ok (.iconst 1, 1) := by decide +kernel
theorem dX11_thing_86 : decode cX11_thing 86 = .ok (.iand, 1) := by decide +kernel
theorem dX11_thing_87 : decode cX11_thing 87 = .ok (.invokevirtual 170, 3) := by decide +kernel
theorem dX11_thing_90 : decode cX11_thing 90 = .ok (.ireturn, 1) := by decide +kernel
theorem dX11_thing_91 : decode cX11_thing 91 = .ok (.aload_n 0, 1) := by decide +kernel
theorem dX11_thing_92 : decode cX11_thing 92 = .ok (.iconst 5, 1) := by decide +kernel
theorem dX11_thing_93 : decode cX11_thing 93 = .ok (.invokevirtual 112, 3) := by decide +kernel
theorem dX11_thing_96 : decode cX11_thing 96 = .ok (.ireturn, 1) := by decide +kernel
theorem dX11_making_0 : decode cX11_making 0 = .ok (.iload_n 1, 1) := by decide +kernel
theorem dX11_making_1 : decode cX11_making 1 = .ok (.ifCond .lt 17, 3) := by decide +kernel
theorem dX11_making_4 : decode cX11_making 4 = .ok (.iload_n 1, 1) := by decide +kernel
theorem dX11_making_5 : decode cX11_making 5 = .ok (.aload_n 0, 1) := by decide +kernel
theorem dX11_making_6 : decode cX11_making 6 = .ok (.invokevirtual 154, 3) := by decide +kernel
theorem dX11_making_9 : decode cX11_making 9 = .ok (.getfield 202, 3) := by decide +kernel
theorem dX11_making_12 : decode cX11_making 12 = .ok (.getfield 165, 3) := by decide +kernel
theorem dX11_making_15 : decode cX11_making 15 = .ok (.if_icmp .lt 9, 3) := by decide +kernel
theorem dX11_making_18 : decode cX11_making 18 = .ok (.aload_n 0, 1) := by decide +kernel
theorem dX11_making_19 : decode cX11_making 19 = .ok (.iconst 2, 1) := by decide +kernel
theorem dX11_making_20 : decode cX11_making 20 = .ok (.invokevirtual 112, 3) := by decide +kernel
theorem dX11_making_23 : decode cX11_making 23 = .ok (.ireturn, 1) := by decide +kernel
theorem dX11_making_24 : decode cX11_making 24 = .ok (.iload_n 2, 1) := by decide +kernel
theorem dX11_making_25 : decode cX11_making 25 = .ok (.tableswitch 105 0 4 #[35, 49, 63, 77, 91], 35) := by decide +kernel
theorem dX11_making_60 : decode cX11_making 60 = .ok (.aload_n 0, 1) := by decide +kernel
theorem dX11_making_61 : decode cX11_making 61 = .ok (.aload_n 0, 1) := by decide +kernel
theorem dX11_making_62 : decode cX11_making 62 = .ok (.invokevirtual 154, 3) := by decide +kernel
theorem dX11_making_65 : decode cX11_making 65 = .ok (.getfield 223, 3) := by decide +kernel
theorem dX11_making_68 : decode cX11_making 68 = .ok (.iload_n 1, 1) := by decide +kernel
theorem dX11_making_69 : decode cX11_making 69 = .ok (.iaload, 1) := by decide +kernel
theorem dX11_making_70 : decode cX11_making 70 = .ok (.invokevirtual 170, 3) := by decide +kernel
theorem dX11_making_73 : decode cX11_making 73 = .ok (.ireturn, 1) := by decide +kernel
theorem dX11_making_74 : decode cX11_making 74 = .ok (.aload_n 0, 1) := by decide +kernel
theorem dX11_making_75 : decode cX11_making 75 = .ok (.aload_n 0, 1) := by decide +kernel
theorem dX11_making_76 : decode cX11_making 76 = .ok (.invokevirtual 154, 3) := by decide +kernel
theorem dX11_making_79 : decode cX11_making 79 = .ok (.getfield 227, 3) := by decide +kernel
theorem dX11_making_82 : decode cX11_making 82 = .ok (.iload_n 1, 1) := by decide +kernel
theorem dX11_making_83 : decode cX11_making 83 = .ok (.iaload, 1) := by decide +kernel
theorem dX11_making_84 : decode cX11_making 84 = .ok (.invokevirtual 170, 3) := by decide +kernel
theorem dX11_making_87 : decode cX11_making 87 = .ok (.ireturn, 1) := by decide +kernel
theorem dX11_making_88 : decode cX11_making 88 = .ok (.aload_n 0, 1) := by decide +kernel
theorem dX11_making_89 : decode cX11_making 89 = .ok (.aload_n 0, 1) := by decide +kernel
theorem dX11_making_90 : decode cX11_making 90 = .ok (.invokevirtual 154, 3) := by decide +kernel
theorem dX11_making_93 : decode cX11_making 93 = .ok (.getfield 230, 3) := by decide +kernel
theorem dX11_making_96 : decode cX11_making 96 = .ok (.iload_n 1, 1) := by decide +kernel
theorem dX11_making_97 : decode cX11_making 97 = .ok (.iaload, 1) := by decide +kernel
theorem dX11_making_98 : decode cX11_making 98 = .ok (.invokevirtual 170, 3) := by decide +kernel
theorem dX11_making_101 : decode cX11_making 101 = .ok (.ireturn, 1) := by decide +kernel
theorem dX11_making_102 : decode cX11_making 102 = .ok (.aload_n 0, 1) := by decide +kernel
theorem dX11_making_103 : decode cX11_making 103 = .ok (.aload_n 0, 1) := by decide +kernel
theorem dX11_making_104 : decode cX11_making 104 = .ok (.invokevirtual 154, 3) := by decide +kernel
theorem dX11_making_107 : decode cX11_making 107 = .ok (.getfield 233, 3) := by decide +kernel
theorem dX11_making_110 : decode cX11_making 110 = .ok (.iload_n 1, 1) := by decide +kernel
theorem dX11_making_111 : decode cX11_making 111 = .ok (.iaload, 1) := by decide +kernel
theorem dX11_making_112 : decode cX11_making 112 = .ok (.invokevirtual 170, 3) := by decide +kernel
theorem dX11_making_115 : decode cX11_making 115 = .ok (.ireturn, 1) := by decide +kernel
theorem dX11_making_116 : decode cX11_making 116 = .ok (.aload_n 0, 1) := by decide +kernel
theorem dX11_making_117 : decode cX11_making 117 = .ok (.aload_n 0, 1) := by decide +kernel
theorem dX11_making_118 : decode cX11_making 118 = .ok (.invokevirtual 154, 3) := by decide +kernel
theorem dX11_making_121 : decode cX11_making 121 = .ok (.getfield 236, 3) := by decide +kernel
theorem dX11_making_124 : decode cX11_making 124 = .ok (.iload_n 1, 1) := by decide +kernel
theorem dX11_making_125 : decode cX11_making 125 = .ok (.iaload, 1) := by decide +kernel
theorem dX11_making_126 : decode cX11_making 126 = .ok (.invokevirtual 170, 3) := by decide +kernel
theorem dX11_making_129 : decode cX11_making 129 = .ok (.ireturn, 1) := by decide +kernel
theorem dX11_making_130 : decode cX11_making 130 = .ok (.aload_n 0, 1) := by decide +kernel
theorem dX11_making_131 : decode cX11_making 131 = .ok (.iconst 5, 1) := by decide +kernel
theorem dX11_making_132 : decode cX11_making 132 = .ok (.invokevirtual 112, 3) := by decide +kernel
theorem dX11_making_135 : decode cX11_making 135 = .ok (.ireturn, 1) := by decide +kernel
theorem dX11_awake_0 : decode cX11_awake 0 = .ok (.iload_n 1, 1) := by decide +kernel
theorem dX11_awake_1 : decode cX11_awake 1 = .ok (.ifCond .lt 17, 3) := by decide +kernel
theorem dX11_awake_4 : decode cX11_awake 4 = .ok (.iload_n 1, 1) := by decide +kernel
theorem dX11_awake_5 : decode cX11_awake 5 = .ok (.aload_n 0, 1) := by decide +kernel
theorem dX11_awake_6 : decode cX11_awake 6 = .ok (.invokevirtual 154, 3) := by decide +kernel
theorem dX11_awake_9 : decode cX11_awake 9 = .ok (.getfield 205, 3) := by decide +kernel
theorem dX11_awake_12 : decode cX11_awake 12 = .ok (.getfield 165, 3) := by decide +kernel
theorem dX11_awake_15 : decode cX11_awake 15 = .ok (.if_icmp .lt 9, 3) := by decide +kernel
theorem dX11_awake_18 : decode cX11_awake 18 = .ok (.aload_n 0, 1) := by decide +kernel
theorem dX11_awake_19 : decode cX11_awake 19 = .ok (.iconst 2, 1) := by decide +kernel
theorem dX11_awake_20 : decode cX11_awake 20 = .ok (.invokevirtual 112, 3) := by decide +kernel
theorem dX11_awake_23 : decode cX11_awake 23 = .ok (.ireturn, 1) := by decide +kernel
theorem dX11_awake_24 : decode cX11_awake 24 = .ok (.iload_n 2, 1) := by decide +kernel
theorem dX11_awake_25 : decode cX11_awake 25 = .ok (.ifCond .lt 9, 3) := by decide +kernel
theorem dX11_awake_28 : decode cX11_awake 28 = .ok (.iload_n 2, 1) := by decide +kernel
theorem dX11_awake_29 : decode cX11_awake 29 = .ok (.bipush 24, 2) := by decide +kernel
theorem dX11_awake_31 : decode cX11_awake 31 = .ok (.if_icmp .lt 9, 3) := by decide +kernel
theorem dX11_awake_34 : decode cX11_awake 34 = .ok (.aload_n 0, 1) := by decide +kernel
theorem dX11_awake_35 : decode cX11_awake 35 = .ok (.iconst 5, 1) := by decide +kernel
theorem dX11_awake_36 : decode cX11_awake 36 = .ok (.invokevirtual 112, 3) := by decide +kernel
theorem dX11_awake_39 : decode cX11_awake 39 = .ok (.ireturn, 1) := by decide +kernel
theorem dX11_awake_40 : decode cX11_awake 40 = .ok (.aload_n 0, 1) := by decide +kernel
theorem dX11_awake_41 : decode cX11_awake 41 = .ok (.aload_n 0, 1) := by decide +kernel
theorem dX11_awake_42 : decode cX11_awake 42 = .ok (.invokevirtual 154, 3) := by decide +kernel
theorem dX11_awake_45 : decode cX11_awake 45 = .ok (.getfield 239, 3) := by decide +kernel
theorem dX11_awake_48 : decode cX11_awake 48 = .ok (.iload_n 1, 1) := by decide +kernel
theorem dX11_awake_49 : decode cX11_awake 49 = .ok (.iaload, 1) := by decide +kernel
theorem dX11_awake_50 : decode cX11_awake 50 = .ok (.iload_n 2, 1) := by decide +kernel
theorem dX11_awake_51 : decode cX11_awake 51 = .ok (.ishr, 1) := by decide +kernel
theorem dX11_awake_52 : decode cX11_awake 52 = .ok (.iconst 1, 1) := by decide +kernel
theorem dX11_awake_53 : decode cX11_awake 53 = .ok (.iand, 1) := by decide +kernel
theorem dX11_awake_54 : decode cX11_awake 54 = .ok (.invokevirtual 170, 3) := by decide +kernel
theorem dX11_awake_57 : decode cX11_awake 57 = .ok (.ireturn, 1) := by decide +kernel
theorem dX11_want_0 : decode cX11_want 0 = .ok (.iload_n 1, 1) := by decide +kernel
theorem dX11_want_1 : decode cX11_want 1 = .ok (.ifCond .lt 14, 3) := by decide +kernel
theorem dX11_want_4 : decode cX11_want 4 = .ok (.iload_n 1, 1) := by decide +kernel
theorem dX11_want_5 : decode cX11_want 5 = .ok (.aload_n 0, 1) := by decide +kernel
theorem dX11_want_6 : decode cX11_want 6 = .ok (.invokevirtual 154, 3) := by decide +kernel
theorem dX11_want_9 : decode cX11_want 9 = .ok (.getfield 208, 3) := by decide +kernel
theorem dX11_want_12 : decode cX11_want 12 = .ok (.if_icmp .lt 9, 3) := by decide +kernel
theorem dX11_want_15 : decode cX11_want 15 = .ok (.aload_n 0, 1) := by decide +kernel
theorem dX11_want_16 : decode cX11_want 16 = .ok (.iconst 2, 1) := by decide +kernel
theorem dX11_want_17 : decode cX11_want 17 = .ok (.invokevirtual 112, 3) := by decide +kernel
theorem dX11_want_20 : decode cX11_want 20 = .ok (.ireturn, 1) := by decide +kernel
theorem dX11_want_21 : decode cX11_want 21 = .ok (.iload_n 2, 1) := by decide +kernel
theorem dX11_want_22 : decode cX11_want 22 = .ok (.tableswitch 88 0 3 #[30, 44, 58, 72], 30) := by decide +kernel
theorem dX11_want_52 : decode cX11_want 52 = .ok (.aload_n 0, 1) := by decide +kernel
theorem dX11_want_53 : decode cX11_want 53 = .ok (.aload_n 0, 1) := by decide +kernel
theorem dX11_want_54 : decode cX11_want 54 = .ok (.invokevirtual 154, 3) := by decide +kernel
theorem dX11_want_57 : decode cX11_want 57 = .ok (.getfield 242, 3) := by decide +kernel
theorem dX11_want_60 : decode cX11_want 60 = .ok (.iload_n 1, 1) := by decide +kernel
theorem dX11_want_61 : decode cX11_want 61 = .ok (.iaload, 1) := by decide +kernel
theorem dX11_want_62 : decode cX11_want 62 = .ok (.invokevirtual 170, 3) := by decide +kernel
theorem dX11_want_65 : decode cX11_want 65 = .ok (.ireturn, 1) := by decide +kernel
theorem dX11_want_66 : decode cX11_want 66 = .ok (.aload_n 0, 1) := by decide +kernel
theorem dX11_want_67 : decode cX11_want 67 = .ok (.aload_n 0, 1) := by decide +kernel
theorem dX11_want_68 : decode cX11_want 68 = .ok (.invokevirtual 154, 3) := by decide +kernel
theorem dX11_want_71 : decode cX11_want 71 = .ok (.getfield 245, 3) := by decide +kernel
theorem dX11_want_74 : decode cX11_want 74 = .ok (.iload_n 1, 1) := by decide +kernel
theorem dX11_want_75 : decode cX11_want 75 = .ok (.iaload, 1) := by decide +kernel
theorem dX11_want_76 : decode cX11_want 76 = .ok (.invokevirtual 170, 3) := by decide +kernel
theorem dX11_want_79 : decode cX11_want 79 = .ok (.ireturn, 1) := by decide +kernel
theorem dX11_want_80 : decode cX11_want 80 = .ok (.aload_n 0, 1) := by decide +kernel
theorem dX11_want_81 : decode cX11_want 81 = .ok (.aload_n 0, 1) := by decide +kernel
theorem dX11_want_82 : decode cX11_want 82 = .ok (.invokevirtual 154, 3) := by decide +kernel
theorem dX11_want_85 : decode cX11_want 85 = .ok (.getfield 248, 3) := by decide +kernel
theorem dX11_want_88 : decode cX11_want 88 = .ok (.iload_n 1, 1) := by decide +kernel
theorem dX11_want_89 : decode cX11_want 89 = .ok (.iaload, 1) := by decide +kernel
theorem dX11_want_90 : decode cX11_want 90 = .ok (.invokevirtual 170, 3) := by decide +kernel
theorem dX11_want_93 : decode cX11_want 93 = .ok (.ireturn, 1) := by decide +kernel
theorem dX11_want_94 : decode cX11_want 94 = .ok (.aload_n 0, 1) := by decide +kernel
theorem dX11_want_95 : decode cX11_want 95 = .ok (.aload_n 0, 1) := by decide +kernel
theorem dX11_want_96 : decode cX11_want 96 = .ok (.invokevirtual 154, 3) := by decide +kernel
theorem dX11_want_99 : decode cX11_want 99 = .ok (.getfield 251, 3) := by decide +kernel
theorem dX11_want_102 : decode cX11_want 102 = .ok (.iload_n 1, 1) := by decide +kernel
theorem dX11_want_103 : decode cX11_want 103 = .ok (.ishr, 1) := by decide +kernel
theorem dX11_want_104 : decode cX11_want 104 = .ok (.iconst 1, 1) := by decide +kernel
theorem dX11_want_105 : decode cX11_want 105 = .ok (.iand, 1) := by decide +kernel
theorem dX11_want_106 : decode cX11_want 106 = .ok (.invokevirtual 170, 3) := by decide +kernel
theorem dX11_want_109 : decode cX11_want 109 = .ok (.ireturn, 1) := by decide +kernel
theorem dX11_want_110 : decode cX11_want 110 = .ok (.aload_n 0, 1) := by decide +kernel
theorem dX11_want_111 : decode cX11_want 111 = .ok (.iconst 5, 1) := by decide +kernel
theorem dX11_want_112 : decode cX11_want 112 = .ok (.invokevirtual 112, 3) := by decide +kernel
theorem dX11_want_115 : decode cX11_want 115 = .ok (.ireturn, 1) := by decide +kernel
theorem dX11_night_0 : decode cX11_night 0 = .ok (.aload_n 0, 1) := by decide +kernel
theorem dX11_night_1 : decode cX11_night 1 = .ok (.iload_n 1, 1) := by decide +kernel
theorem dX11_night_2 : decode cX11_night 2 = .ok (.invokevirtual 254, 3) := by decide +kernel
theorem dX11_night_5 : decode cX11_night 5 = .ok (.ifCond .eq 28, 3) := by decide +kernel
theorem dX11_night_8 : decode cX11_night 8 = .ok (.aload_n 0, 1) := by decide +kernel
theorem dX11_night_9 : decode cX11_night 9 = .ok (.iload_n 2, 1) := by decide +kernel
theorem dX11_night_10 : decode cX11_night 10 = .ok (.invokevirtual 257, 3) := by decide +kernel
theorem dX11_night_13 : decode cX11_night 13 = .ok (.ifCond .eq 20, 3) := by decide +kernel
theorem dX11_night_16 : decode cX11_night 16 = .ok (.aload_n 0, 1) := by decide +kernel
theorem dX11_night_17 : decode cX11_night 17 = .ok (.iload_n 3, 1) := by decide +kernel
theorem dX11_night_18 : decode cX11_night 18 = .ok (.invokevirtual 257, 3) := by decide +kernel
theorem dX11_night_21 : decode cX11_night 21 = .ok (.ifCond .eq 12, 3) := by decide +kernel
theorem dX11_night_24 : decode cX11_night 24 = .ok (.aload_n 0, 1) := by decide +kernel
theorem dX11_night_25 : decode cX11_night 25 = .ok (.iload 4, 2) := by decide +kernel
theorem dX11_night_27 : decode cX11_night 27 = .ok (.invokevirtual 257, 3) := by decide +kernel
theorem dX11_night_30 : decode cX11_night 30 = .ok (.ifCond .ne 9, 3) := by decide +kernel
theorem dX11_night_33 : decode cX11_night 33 = .ok (.aload_n 0, 1) := by decide +kernel
theorem dX11_night_34 : decode cX11_night 34 = .ok (.iconst 2, 1) := by decide +kernel
theorem dX11_night_35 : decode cX11_night 35 = .ok (.invokevirtual 112, 3) := by decide +kernel
theorem dX11_night_38 : decode cX11_night 38 = .ok (.ireturn, 1) := by decide +kernel
theorem dX11_night_39 : decode cX11_night 39 = .ok (.aload_n 0, 1) := by decide +kernel
theorem dX11_night_40 : decode cX11_night 40 = .ok (.iload 5, 2) := by decide +kernel
theorem dX11_night_42 : decode cX11_night 42 = .ok (.invokevirtual 260, 3) := by decide +kernel
theorem dX11_night_45 : decode cX11_night 45 = .ok (.ifCond .ne 9, 3) := by decide +kernel
theorem dX11_night_48 : decode cX11_night 48 = .ok (.aload_n 0, 1) := by decide +kernel
theorem dX11_night_49 : decode cX11_night 49 = .ok (.iconst 5, 1) := by decide +kernel
theorem dX11_night_50 : decode cX11_night 50 = .ok (.invokevirtual 112, 3) := by decide +kernel
theorem dX11_night_53 : decode cX11_night 53 = .ok (.ireturn, 1) := by decide +kernel
theorem dX11_night_54 : decode cX11_night 54 = .ok (.aload_n 0, 1) := by decide +kernel
theorem dX11_night_55 : decode cX11_night 55 = .ok (.invokevirtual 154, 3) := by decide +kernel
theorem dX11_night_58 : decode cX11_night 58 = .ok (.invokevirtual 211, 3) := by decide +kernel
theorem dX11_night_61 : decode cX11_night 61 = .ok (.ifCond .eq 7, 3) := by decide +kernel
theorem dX11_night_64 : decode cX11_night 64 = .ok (.iload_n 1, 1) := by decide +kernel
theorem dX11_night_65 : decode cX11_night 65 = .ok (.goto 4, 3) := by decide +kernel
theorem dX11_night_68 : decode cX11_night 68 = .ok (.iconst 0, 1) := by decide +kernel
theorem dX11_night_69 : decode cX11_night 69 = .ok (.istore 6, 2) := by decide +kernel
theorem dX11_night_71 : decode cX11_night 71 = .ok (.aload_n 0, 1) := by decide +kernel
theorem dX11_night_72 : decode cX11_night 72 = .ok (.iload_n 2, 1) := by decide +kernel
theorem dX11_night_73 : decode cX11_night 73 = .ok (.iload_n 1, 1) := by decide +kernel
theorem dX11_night_74 : decode cX11_night 74 = .ok (.aload_n 0, 1) := by decide +kernel
theorem dX11_night_75 : decode cX11_night 75 = .ok (.invokevirtual 154, 3) := by decide +kernel
theorem dX11_night_78 : decode cX11_night 78 = .ok (.getfield 217, 3) := by decide +kernel
theorem dX11_night_81 : decode cX11_night 81 = .ok (.iand, 1) := by decide +kernel
theorem dX11_night_82 : decode cX11_night 82 = .ok (.invokevirtual 263, 3) := by decide +kernel
theorem dX11_night_85 : decode cX11_night 85 = .ok (.ifCond .eq 31, 3) := by decide +kernel
theorem dX11_night_88 : decode cX11_night 88 = .ok (.aload_n 0, 1) := by decide +kernel
theorem dX11_night_89 : decode cX11_night 89 = .ok (.iload_n 3, 1) := by decide +kernel
theorem dX11_night_90 : decode cX11_night 90 = .ok (.iload 6, 2) := by decide +kernel
theorem dX11_night_92 : decode cX11_night 92 = .ok (.invokevirtual 263, 3) := by decide +kernel
theorem dX11_night_95 : decode cX11_night 95 = .ok (.ifCond .eq 21, 3) := by decide +kernel
theorem dX11_night_98 : decode cX11_night 98 = .ok (.aload_n 0, 1) := by decide +kernel
theorem dX11_night_99 : decode cX11_night 99 = .ok (.iload 4, 2) := by decide +kernel
theorem dX11_night_101 : decode cX11_night 101 = .ok (.iload_n 1, 1) := by decide +kernel
theorem dX11_night_102 : decode cX11_night 102 = .ok (.aload_n 0, 1) := by decide +kernel
theorem dX11_night_103 : decode cX11_night 103 = .ok (.invokevirtual 154, 3) := by decide +kernel
theorem dX11_night_106 : decode cX11_night 106 = .ok (.getfield 220, 3) := by decide +kernel
theorem dX11_night_109 : decode cX11_night 109 = .ok (.iand, 1) := by decide +kernel
theorem dX11_night_110 : decode cX11_night 110 = .ok (.invokevirtual 263, 3) := by decide +kernel
theorem dX11_night_113 : decode cX11_night 113 = .ok (.ifCond .ne 10, 3) := by decide +kernel
theorem dX11_night_116 : decode cX11_night 116 = .ok (.aload_n 0, 1) := by decide +kernel
theorem dX11_night_117 : decode cX11_night 117 = .ok (.bipush 9, 2) := by decide +kernel
theorem dX11_night_119 : decode cX11_night 119 = .ok (.invokevirtual 112, 3) := by decide +kernel
theorem dX11_night_122 : decode cX11_night 122 = .ok (.ireturn, 1) := by decide +kernel
theorem dX11_night_123 : decode cX11_night 123 = .ok (.aload_n 0, 1) := by decide +kernel
theorem dX11_night_124 : decode cX11_night 124 = .ok (.getfield 54, 3) := by decide +kernel
theorem dX11_night_127 : decode cX11_night 127 = .ok (.aload_n 0, 1) := by decide +kernel
theorem dX11_night_128 : decode cX11_night 128 = .ok (.invokevirtual 154, 3) := by decide +kernel
theorem dX11_night_131 : decode cX11_night 131 = .ok (.iload_n 1, 1) := by decide +kernel
theorem dX11_night_132 : decode cX11_night 132 = .ok (.iload 5, 2) := by decide +kernel
theorem dX11_night_134 : decode cX11_night 134 = .ok (.bipush 7, 2) := by decide +kernel
theorem dX11_night_136 : decode cX11_night 136 = .ok (.irem, 1) := by decide +kernel
theorem dX11_night_137 : decode cX11_night 137 = .ok (.invokevirtual 266, 3) := by decide +kernel
theorem dX11_night_140 : decode cX11_night 140 = .ok (.aload_n 0, 1) := by decide +kernel
theorem dX11_night_141 : decode cX11_night 141 = .ok (.aload_n 0, 1) := by decide +kernel
theorem dX11_night_142 : decode cX11_night 142 = .ok (.getfield 54, 3) := by decide +kernel
theorem dX11_night_145 : decode cX11_night 145 = .ok (.iload_n 2, 1) := by decide +kernel
theorem dX11_night_146 : decode cX11_night 146 = .ok (.iload_n 3, 1) := by decide +kernel
theorem dX11_night_147 : decode cX11_night 147 = .ok (.iload 4, 2) := by decide +kernel
theorem dX11_night_149 : decode cX11_night 149 = .ok (.invokevirtual 270, 3) := by decide +kernel
theorem dX11_night_152 : decode cX11_night 152 = .ok (.invokevirtual 170, 3) := by decide +kernel
theorem dX11_night_155 : decode cX11_night 155 = .ok (.ireturn, 1) := by decide +kernel
theorem dX11_soonest_0 : decode cX11_soonest 0 = .ok (.aload_n 0, 1) := by decide +kernel
theorem dX11_soonest_1 : decode cX11_soonest 1 = .ok (.iload_n 1, 1) := by decide +kernel
theorem dX11_soonest_2 : decode cX11_soonest 2 = .ok (.invokevirtual 214, 3) := by decide +kernel
theorem dX11_soonest_5 : decode cX11_soonest 5 = .ok (.ifCond .eq 11, 3) := by decide +kernel
theorem dX11_soonest_8 : decode cX11_soonest 8 = .ok (.aload_n 0, 1) := by decide +kernel
theorem dX11_soonest_9 : decode cX11_soonest 9 = .ok (.iload_n 2, 1) := by decide +kernel
theorem dX11_soonest_10 : decode cX11_soonest 10 = .ok (.invokevirtual 254, 3) := by decide +kernel
theorem dX11_soonest_13 : decode cX11_soonest 13 = .ok (.ifCond .ne 9, 3) := by decide +kernel
theorem dX11_soonest_16 : decode cX11_soonest 16 = .ok (.aload_n 0, 1) := by decide +kernel
theorem dX11_soonest_17 : decode cX11_soonest 17 = .ok (.iconst 2, 1) := by decide +kernel
theorem dX11_soonest_18 : decode cX11_soonest 18 = .ok (.invokevirtual 112, 3) := by decide +kernel
theorem dX11_soonest_21 : decode cX11_soonest 21 = .ok (.ireturn, 1) := by decide +kernel
theorem dX11_soonest_22 : decode cX11_soonest 22 = .ok (.aload_n 0, 1) := by decide +kernel
theorem dX11_soonest_23 : decode cX11_soonest 23 = .ok (.getfield 61, 3) := by decide +kernel
theorem dX11_soonest_26 : decode cX11_soonest 26 = .ok (.aload_n 0, 1) := by decide +kernel
theorem dX11_soonest_27 : decode cX11_soonest 27 = .ok (.invokevirtual 154, 3) := by decide +kernel
theorem dX11_soonest_30 : decode cX11_soonest 30 = .ok (.iload_n 2, 1) := by decide +kernel
theorem dX11_soonest_31 : decode cX11_soonest 31 = .ok (.invokevirtual 274, 3) := by decide +kernel
theorem dX11_soonest_34 : decode cX11_soonest 34 = .ok (.aload_n 0, 1) := by decide +kernel
theorem dX11_soonest_35 : decode cX11_soonest 35 = .ok (.getfield 61, 3) := by decide +kernel
theorem dX11_soonest_38 : decode cX11_soonest 38 = .ok (.getfield 278, 3) := by decide +kernel
theorem dX11_soonest_41 : decode cX11_soonest 41 = .ok (.iload_n 1, 1) := by decide +kernel
theorem dX11_soonest_42 : decode cX11_soonest 42 = .ok (.iaload, 1) := by decide +kernel
theorem dX11_soonest_43 : decode cX11_soonest 43 = .ok (.bipush 24, 2) := by decide +kernel
theorem dX11_soonest_45 : decode cX11_soonest 45 = .ok (.if_icmp .le 10, 3) := by decide +kernel
theorem dX11_soonest_48 : decode cX11_soonest 48 = .ok (.aload_n 0, 1) := by decide +kernel
theorem dX11_soonest_49 : decode cX11_soonest 49 = .ok (.bipush 9, 2) := by decide +kernel
theorem dX11_soonest_51 : decode cX11_soonest 51 = .ok (.invokevirtual 112, 3) := by decide +kernel
theorem dX11_soonest_54 : decode cX11_soonest 54 = .ok (.ireturn, 1) := by decide +kernel
theorem dX11_soonest_55 : decode cX11_soonest 55 = .ok (.aload_n 0, 1) := by decide +kernel
theorem dX11_soonest_56 : decode cX11_soonest 56 = .ok (.aload_n 0, 1) := by decide +kernel
theorem dX11_soonest_57 : decode cX11_soonest 57 = .ok (.getfield 61, 3) := by decide +kernel
theorem dX11_soonest_60 : decode cX11_soonest 60 = .ok (.getfield 278, 3) := by decide +kernel
theorem dX11_soonest_63 : decode cX11_soonest 63 = .ok (.iload_n 1, 1) := by decide +kernel
theorem dX11_soonest_64 : decode cX11_soonest 64 = .ok (.iaload, 1) := by decide +kernel
theorem dX11_soonest_65 : decode cX11_soonest 65 = .ok (.invokevirtual 170, 3) := by decide +kernel
theorem dX11_soonest_68 : decode cX11_soonest 68 = .ok (.ireturn, 1) := by decide +kernel
theorem dX11_bars_0 : decode cX11_bars 0 = .ok (.aload_n 0, 1) := by decide +kernel
theorem dX11_bars_1 : decode cX11_bars 1 = .ok (.iload_n 1, 1) := by decide +kernel
theorem dX11_bars_2 : decode cX11_bars 2 = .ok (.invokevirtual 214, 3) := by decide +kernel
theorem dX11_bars_5 : decode cX11_bars 5 = .ok (.ifCond .eq 11, 3) := by decide +kernel
theorem dX11_bars_8 : decode cX11_bars 8 = .ok (.aload_n 0, 1) := by decide +kernel
theorem dX11_bars_9 : decode cX11_bars 9 = .ok (.iload_n 2, 1) := by decide +kernel
theorem dX11_bars_10 : decode cX11_bars 10 = .ok (.invokevirtual 254, 3) := by decide +kernel
theorem dX11_bars_13 : decode cX11_bars 13 = .ok (.ifCond .ne 9, 3) := by decide +kernel
theorem dX11_bars_16 : decode cX11_bars 16 = .ok (.aload_n 0, 1) := by decide +kernel
theorem dX11_bars_17 : decode cX11_bars 17 = .ok (.iconst 2, 1) := by decide +kernel
theorem dX11_bars_18 : decode cX11_bars 18 = .ok (.invokevirtual 112, 3) := by decide +kernel
theorem dX11_bars_21 : decode cX11_bars 21 = .ok (.ireturn, 1) := by decide +kernel
theorem dX11_bars_22 : decode cX11_bars 22 = .ok (.iload_n 3, 1) := by decide +kernel
theorem dX11_bars_23 : decode cX11_bars 23 = .ok (.ifCond .lt 8, 3) := by decide +kernel
theorem dX11_bars_26 : decode cX11_bars 26 = .ok (.iload_n 3, 1) := by decide +kernel
theorem dX11_bars_27 : decode cX11_bars 27 = .ok (.iconst 1, 1) := by decide +kernel
theorem dX11_bars_28 : decode cX11_bars 28 = .ok (.if_icmp .le 9, 3) := by decide +kernel
theorem dX11_bars_31 : decode cX11_bars 31 = .ok (.aload_n 0, 1) := by decide +kernel
theorem dX11_bars_32 : decode cX11_bars 32 = .ok (.iconst 5, 1) := by decide +kernel
theorem dX11_bars_33 : decode cX11_bars 33 = .ok (.invokevirtual 112, 3) := by decide +kernel
theorem dX11_bars_36 : decode cX11_bars 36 = .ok (.ireturn, 1) := by decide +kernel
theorem dX11_bars_37 : decode cX11_bars 37 = .ok (.aload_n 0, 1) := by decide +kernel
theorem dX11_bars_38 : decode cX11_bars 38 = .ok (.getfield 61, 3) := by decide +kernel
theorem dX11_bars_41 : decode cX11_bars 41 = .ok (.aload_n 0, 1) := by decide +kernel
theorem dX11_bars_42 : decode cX11_bars 42 = .ok (.invokevirtual 154, 3) := by decide +kernel
theorem dX11_bars_45 : decode cX11_bars 45 = .ok (.iload_n 2, 1) := by decide +kernel
theorem dX11_bars_46 : decode cX11_bars 46 = .ok (.invokevirtual 274, 3) := by decide +kernel
theorem dX11_bars_49 : decode cX11_bars 49 = .ok (.aload_n 0, 1) := by decide +kernel
theorem dX11_bars_50 : decode cX11_bars 50 = .ok (.getfield 61, 3) := by decide +kernel
theorem dX11_bars_53 : decode cX11_bars 53 = .ok (.iload_n 1, 1) := by decide +kernel
theorem dX11_bars_54 : decode cX11_bars 54 = .ok (.invokevirtual 281, 3) := by decide +kernel
theorem dX11_bars_57 : decode cX11_bars 57 = .ok (.istore 4, 2) := by decide +kernel
theorem dX11_bars_59 : decode cX11_bars 59 = .ok (.iload 4, 2) := by decide +kernel
theorem dX11_bars_61 : decode cX11_bars 61 = .ok (.iconst (-1), 1) := by decide +kernel
theorem dX11_bars_62 : decode cX11_bars 62 = .ok (.if_icmp .ne 10, 3) := by decide +kernel
theorem dX11_bars_65 : decode cX11_bars 65 = .ok (.aload_n 0, 1) := by decide +kernel
theorem dX11_bars_66 : decode cX11_bars 66 = .ok (.bipush 8, 2) := by decide +kernel
theorem dX11_bars_68 : decode cX11_bars 68 = .ok (.invokevirtual 112, 3) := by decide +kernel
theorem dX11_bars_71 : decode cX11_bars 71 = .ok (.ireturn, 1) := by decide +kernel
theorem dX11_bars_72 : decode cX11_bars 72 = .ok (.iload_n 3, 1) := by decide +kernel
theorem dX11_bars_73 : decode cX11_bars 73 = .ok (.ifCond .ne 10, 3) := by decide +kernel
theorem dX11_bars_76 : decode cX11_bars 76 = .ok (.aload_n 0, 1) := by decide +kernel
theorem dX11_bars_77 : decode cX11_bars 77 = .ok (.iload 4, 2) := by decide +kernel
theorem dX11_bars_79 : decode cX11_bars 79 = .ok (.invokevirtual 170, 3) := by decide +kernel
theorem dX11_bars_82 : decode cX11_bars 82 = .ok (.ireturn, 1) := by decide +kernel
theorem dX11_bars_83 : decode cX11_bars 83 = .ok (.aload_n 0, 1) := by decide +kernel
theorem dX11_bars_84 : decode cX11_bars 84 = .ok (.getfield 61, 3) := by decide +kernel
theorem dX11_bars_87 : decode cX11_bars 87 = .ok (.iload 4, 2) := by decide +kernel
theorem dX11_bars_89 : decode cX11_bars 89 = .ok (.invokevirtual 284, 3) := by decide +kernel
theorem dX11_bars_92 : decode cX11_bars 92 = .ok (.istore 5, 2) := by decide +kernel
theorem dX11_bars_94 : decode cX11_bars 94 = .ok (.iload 5, 2) := by decide +kernel
theorem dX11_bars_96 : decode cX11_bars 96 = .ok (.iconst (-1), 1) := by decide +kernel
theorem dX11_bars_97 : decode cX11_bars 97 = .ok (.if_icmp .ne 12, 3) := by decide +kernel
theorem dX11_bars_100 : decode cX11_bars 100 = .ok (.aload_n 0, 1) := by decide +kernel
theorem dX11_bars_101 : decode cX11_bars 101 = .ok (.bipush 8, 2) := by decide +kernel
theorem dX11_bars_103 : decode cX11_bars 103 = .ok (.invokevirtual 112, 3) := by decide +kernel
theorem dX11_bars_106 : decode cX11_bars 106 = .ok (.goto 9, 3) := by decide +kernel
theorem dX11_bars_109 : decode cX11_bars 109 = .ok (.aload_n 0, 1) := by decide +kernel
theorem dX11_bars_110 : decode cX11_bars 110 = .ok (.iload 5, 2) := by decide +kernel
theorem dX11_bars_112 : decode cX11_bars 112 = .ok (.invokevirtual 170, 3) := by decide +kernel
theorem dX11_bars_115 : decode cX11_bars 115 = .ok (.ireturn, 1) := by decide +kernel
theorem dX11_labour_0 : decode cX11_labour 0 = .ok (.aload_n 0, 1) := by decide +kernel
theorem dX11_labour_1 : decode cX11_labour 1 = .ok (.iload_n 1, 1) := by decide +kernel
theorem dX11_labour_2 : decode cX11_labour 2 = .ok (.invokevirtual 254, 3) := by decide +kernel
theorem dX11_labour_5 : decode cX11_labour 5 = .ok (.ifCond .eq 11, 3) := by decide +kernel
theorem dX11_labour_8 : decode cX11_labour 8 = .ok (.aload_n 0, 1) := by decide +kernel
theorem dX11_labour_9 : decode cX11_labour 9 = .ok (.iload_n 2, 1) := by decide +kernel
theorem dX11_labour_10 : decode cX11_labour 10 = .ok (.invokevirtual 254, 3) := by decide +kernel
theorem dX11_labour_13 : decode cX11_labour 13 = .ok (.ifCond .ne 9, 3) := by decide +kernel
theorem dX11_labour_16 : decode cX11_labour 16 = .ok (.aload_n 0, 1) := by decide +kernel
theorem dX11_labour_17 : decode cX11_labour 17 = .ok (.iconst 2, 1) := by decide +kernel
theorem dX11_labour_18 : decode cX11_labour 18 = .ok (.invokevirtual 112, 3) := by decide +kernel
theorem dX11_labour_21 : decode cX11_labour 21 = .ok (.ireturn, 1) := by decide +kernel
theorem dX11_labour_22 : decode cX11_labour 22 = .ok (.aload_n 0, 1) := by decide +kernel
theorem dX11_labour_23 : decode cX11_labour 23 = .ok (.getfield 68, 3) := by decide +kernel
theorem dX11_labour_26 : decode cX11_labour 26 = .ok (.aload_n 0, 1) := by decide +kernel
theorem dX11_labour_27 : decode cX11_labour 27 = .ok (.invokevirtual 154, 3) := by decide +kernel
theorem dX11_labour_30 : decode cX11_labour 30 = .ok (.iload_n 1, 1) := by decide +kernel
theorem dX11_labour_31 : decode cX11_labour 31 = .ok (.iload_n 2, 1) := by decide +kernel
theorem dX11_labour_32 : decode cX11_labour 32 = .ok (.invokevirtual 287, 3) := by decide +kernel
theorem dX11_labour_35 : decode cX11_labour 35 = .ok (.istore_n 3, 1) := by decide +kernel
theorem dX11_labour_36 : decode cX11_labour 36 = .ok (.iload_n 3, 1) := by decide +kernel
theorem dX11_labour_37 : decode cX11_labour 37 = .ok (.iconst (-1), 1) := by decide +kernel
theorem dX11_labour_38 : decode cX11_labour 38 = .ok (.if_icmp .ne 12, 3) := by decide +kernel
theorem dX11_labour_41 : decode cX11_labour 41 = .ok (.aload_n 0, 1) := by decide +kernel
theorem dX11_labour_42 : decode cX11_labour 42 = .ok (.bipush 8, 2) := by decide +kernel
theorem dX11_labour_44 : decode cX11_labour 44 = .ok (.invokevirtual 112, 3) := by decide +kernel
theorem dX11_labour_47 : decode cX11_labour 47 = .ok (.goto 8, 3) := by decide +kernel
theorem dX11_labour_50 : decode cX11_labour 50 = .ok (.aload_n 0, 1) := by decide +kernel
theorem dX11_labour_51 : decode cX11_labour 51 = .ok (.iload_n 3, 1) := by decide +kernel
theorem dX11_labour_52 : decode cX11_labour 52 = .ok (.invokevirtual 170, 3) := by decide +kernel
theorem dX11_labour_55 : decode cX11_labour 55 = .ok (.ireturn, 1) := by decide +kernel
theorem dX11_hands_0 : decode cX11_hands 0 = .ok (.aload_n 0, 1) := by decide +kernel
theorem dX11_hands_1 : decode cX11_hands 1 = .ok (.iload_n 1, 1) := by decide +kernel
theorem dX11_hands_2 : decode cX11_hands 2 = .ok (.invokevirtual 254, 3) := by decide +kernel
theorem dX11_hands_5 : decode cX11_hands 5 = .ok (.ifCond .ne 9, 3) := by decide +kernel
theorem dX11_hands_8 : decode cX11_hands 8 = .ok (.aload_n 0, 1) := by decide +kernel
theorem dX11_hands_9 : decode cX11_hands 9 = .ok (.iconst 2, 1) := by decide +kernel
theorem dX11_hands_10 : decode cX11_hands 10 = .ok (.invokevirtual 112, 3) := by decide +kernel
theorem dX11_hands_13 : decode cX11_hands 13 = .ok (.ireturn, 1) := by decide +kernel
theorem dX11_hands_14 : decode cX11_hands 14 = .ok (.aload_n 0, 1) := by decide +kernel
theorem dX11_hands_15 : decode cX11_hands 15 = .ok (.getfield 61, 3) := by decide +kernel
theorem dX11_hands_18 : decode cX11_hands 18 = .ok (.aload_n 0, 1) := by decide +kernel
theorem dX11_hands_19 : decode cX11_hands 19 = .ok (.invokevirtual 154, 3) := by decide +kernel
theorem dX11_hands_22 : decode cX11_hands 22 = .ok (.iconst 0, 1) := by decide +kernel
theorem dX11_hands_23 : decode cX11_hands 23 = .ok (.invokevirtual 274, 3) := by decide +kernel
theorem dX11_hands_26 : decode cX11_hands 26 = .ok (.aload_n 0, 1) := by decide +kernel
theorem dX11_hands_27 : decode cX11_hands 27 = .ok (.getfield 61, 3) := by decide +kernel
theorem dX11_hands_30 : decode cX11_hands 30 = .ok (.iload_n 1, 1) := by decide +kernel
theorem dX11_hands_31 : decode cX11_hands 31 = .ok (.invokevirtual 291, 3) := by decide +kernel
theorem dX11_hands_34 : decode cX11_hands 34 = .ok (.istore_n 2, 1) := by decide +kernel
theorem dX11_hands_35 : decode cX11_hands 35 = .ok (.iload_n 2, 1) := by decide +kernel
theorem dX11_hands_36 : decode cX11_hands 36 = .ok (.iconst (-1), 1) := by decide +kernel
theorem dX11_hands_37 : decode cX11_hands 37 = .ok (.if_icmp .ne 12, 3) := by decide +kernel
theorem dX11_hands_40 : decode cX11_hands 40 = .ok (.aload_n 0, 1) := by decide +kernel
theorem dX11_hands_41 : decode cX11_hands 41 = .ok (.bipush 9, 2) := by decide +kernel
theorem dX11_hands_43 : decode cX11_hands 43 = .ok (.invokevirtual 112, 3) := by decide +kernel
theorem dX11_hands_46 : decode cX11_hands 46 = .ok (.goto 8, 3) := by decide +kernel
theorem dX11_hands_49 : decode cX11_hands 49 = .ok (.aload_n 0, 1) := by decide +kernel
theorem dX11_hands_50 : decode cX11_hands 50 = .ok (.iload_n 2, 1) := by decide +kernel
theorem dX11_hands_51 : decode cX11_hands 51 = .ok (.invokevirtual 170, 3) := by decide +kernel
theorem dX11_hands_54 : decode cX11_hands 54 = .ok (.ireturn, 1) := by decide +kernel
theorem dX11_day_0 : decode cX11_day 0 = .ok (.aload_n 0, 1) := by decide +kernel
theorem dX11_day_1 : decode cX11_day 1 = .ok (.iload_n 1, 1) := by decide +kernel
theorem dX11_day_2 : decode cX11_day 2 = .ok (.invokevirtual 254, 3) := by decide +kernel
theorem dX11_day_5 : decode cX11_day 5 = .ok (.ifCond .ne 9, 3) := by decide +kernel
theorem dX11_day_8 : decode cX11_day 8 = .ok (.aload_n 0, 1) := by decide +kernel
theorem dX11_day_9 : decode cX11_day 9 = .ok (.iconst 2, 1) := by decide +kernel
theorem dX11_day_10 : decode cX11_day 10 = .ok (.invokevirtual 112, 3) := by decide +kernel
theorem dX11_day_13 : decode cX11_day 13 = .ok (.ireturn, 1) := by decide +kernel
theorem dX11_day_14 : decode cX11_day 14 = .ok (.iload_n 2, 1) := by decide +kernel
theorem dX11_day_15 : decode cX11_day 15 = .ok (.ifCond .lt 9, 3) := by decide +kernel
theorem dX11_day_18 : decode cX11_day 18 = .ok (.iload_n 2, 1) := by decide +kernel
theorem dX11_day_19 : decode cX11_day 19 = .ok (.bipush 24, 2) := by decide +kernel
theorem dX11_day_21 : decode cX11_day 21 = .ok (.if_icmp .le 9, 3) := by decide +kernel
theorem dX11_day_24 : decode cX11_day 24 = .ok (.aload_n 0, 1) := by decide +kernel
theorem dX11_day_25 : decode cX11_day 25 = .ok (.iconst 5, 1) := by decide +kernel
theorem dX11_day_26 : decode cX11_day 26 = .ok (.invokevirtual 112, 3) := by decide +kernel
theorem dX11_day_29 : decode cX11_day 29 = .ok (.ireturn, 1) := by decide +kernel
theorem dX11_day_30 : decode cX11_day 30 = .ok (.aload_n 0, 1) := by decide +kernel
theorem dX11_day_31 : decode cX11_day 31 = .ok (.getfield 68, 3) := by decide +kernel
theorem dX11_day_34 : decode cX11_day 34 = .ok (.aload_n 0, 1) := by decide +kernel
theorem dX11_day_35 : decode cX11_day 35 = .ok (.invokevirtual 154, 3) := by decide +kernel
theorem dX11_day_38 : decode cX11_day 38 = .ok (.aload_n 0, 1) := by decide +kernel
theorem dX11_day_39 : decode cX11_day 39 = .ok (.getfield 54, 3) := by decide +kernel
theorem dX11_day_42 : decode cX11_day 42 = .ok (.iconst 1, 1) := by decide +kernel
theorem dX11_day_43 : decode cX11_day 43 = .ok (.iconst 1, 1) := by decide +kernel
theorem dX11_day_44 : decode cX11_day 44 = .ok (.iconst 0, 1) := by decide +kernel
theorem dX11_day_45 : decode cX11_day 45 = .ok (.invokevirtual 294, 3) := by decide +kernel
theorem dX11_day_48 : decode cX11_day 48 = .ok (.aload_n 0, 1) := by decide +kernel
theorem dX11_day_49 : decode cX11_day 49 = .ok (.getfield 68, 3) := by decide +kernel
theorem dX11_day_52 : decode cX11_day 52 = .ok (.iload_n 1, 1) := by decide +kernel
theorem dX11_day_53 : decode cX11_day 53 = .ok (.iload_n 2, 1) := by decide +kernel
theorem dX11_day_54 : decode cX11_day 54 = .ok (.invokevirtual 297, 3) := by decide +kernel
theorem dX11_day_57 : decode cX11_day 57 = .ok (.aload_n 0, 1) := by decide +kernel
theorem dX11_day_58 : decode cX11_day 58 = .ok (.aload_n 0, 1) := by decide +kernel
theorem dX11_day_59 : decode cX11_day 59 = .ok (.getfield 68, 3) := by decide +kernel
theorem dX11_day_62 : decode cX11_day 62 = .ok (.iload_n 2, 1) := by decide +kernel
theorem dX11_day_63 : decode cX11_day 63 = .ok (.iload_n 1, 1) := by decide +kernel
theorem dX11_day_64 : decode cX11_day 64 = .ok (.invokevirtual 300, 3) := by decide +kernel
theorem dX11_day_67 : decode cX11_day 67 = .ok (.invokevirtual 170, 3) := by decide +kernel
theorem dX11_day_70 : decode cX11_day 70 = .ok (.ireturn, 1) := by decide +kernel
theorem dX11_days_0 : decode cX11_days 0 = .ok (.aload_n 0, 1) := by decide +kernel
theorem dX11_days_1 : decode cX11_days 1 = .ok (.iload_n 1, 1) := by decide +kernel
theorem dX11_days_2 : decode cX11_days 2 = .ok (.invokevirtual 254, 3) := by decide +kernel
theorem dX11_days_5 : decode cX11_days 5 = .ok (.ifCond .ne 9, 3) := by decide +kernel
theorem dX11_days_8 : decode cX11_days 8 = .ok (.aload_n 0, 1) := by decide +kernel
theorem dX11_days_9 : decode cX11_days 9 = .ok (.iconst 2, 1) := by decide +kernel
theorem dX11_days_10 : decode cX11_days 10 = .ok (.invokevirtual 112, 3) := by decide +kernel
theorem dX11_days_13 : decode cX11_days 13 = .ok (.ireturn, 1) := by decide +kernel
theorem dX11_days_14 : decode cX11_days 14 = .ok (.aload_n 0, 1) := by decide +kernel
theorem dX11_days_15 : decode cX11_days 15 = .ok (.iload_n 2, 1) := by decide +kernel
theorem dX11_days_16 : decode cX11_days 16 = .ok (.invokevirtual 304, 3) := by decide +kernel
theorem dX11_days_19 : decode cX11_days 19 = .ok (.ifCond .eq 11, 3) := by decide +kernel
theorem dX11_days_22 : decode cX11_days 22 = .ok (.aload_n 0, 1) := by decide +kernel
theorem dX11_days_23 : decode cX11_days 23 = .ok (.iload_n 3, 1) := by decide +kernel
theorem dX11_days_24 : decode cX11_days 24 = .ok (.invokevirtual 260, 3) := by decide +kernel
theorem dX11_days_27 : decode cX11_days 27 = .ok (.ifCond .ne 9, 3) := by decide +kernel
theorem dX11_days_30 : decode cX11_days 30 = .ok (.aload_n 0, 1) := by decide +kernel
theorem dX11_days_31 : decode cX11_days 31 = .ok (.iconst 5, 1) := by decide +kernel
theorem dX11_days_32 : decode cX11_days 32 = .ok (.invokevirtual 112, 3) := by decide +kernel
theorem dX11_days_35 : decode cX11_days 35 = .ok (.ireturn, 1) := by decide +kernel
theorem dX11_days_36 : decode cX11_days 36 = .ok (.aload_n 0, 1) := by decide +kernel
theorem dX11_days_37 : decode cX11_days 37 = .ok (.getfield 68, 3) := by decide +kernel
theorem dX11_days_40 : decode cX11_days 40 = .ok (.aload_n 0, 1) := by decide +kernel
theorem dX11_days_41 : decode cX11_days 41 = .ok (.invokevirtual 154, 3) := by decide +kernel
theorem dX11_days_44 : decode cX11_days 44 = .ok (.aload_n 0, 1) := by decide +kernel
theorem dX11_days_45 : decode cX11_days 45 = .ok (.getfield 54, 3) := by decide +kernel
theorem dX11_days_48 : decode cX11_days 48 = .ok (.iconst 1, 1) := by decide +kernel
theorem dX11_days_49 : decode cX11_days 49 = .ok (.iload_n 2, 1) := by decide +kernel
theorem dX11_days_50 : decode cX11_days 50 = .ok (.iload_n 3, 1) := by decide +kernel
theorem dX11_days_51 : decode cX11_days 51 = .ok (.invokevirtual 294, 3) := by decide +kernel
theorem dX11_days_54 : decode cX11_days 54 = .ok (.aload_n 0, 1) := by decide +kernel
theorem dX11_days_55 : decode cX11_days 55 = .ok (.getfield 68, 3) := by decide +kernel
theorem dX11_days_58 : decode cX11_days 58 = .ok (.iload_n 1, 1) := by decide +kernel
theorem dX11_days_59 : decode cX11_days 59 = .ok (.iconst 0, 1) := by decide +kernel
theorem dX11_days_60 : decode cX11_days 60 = .ok (.invokevirtual 297, 3) := by decide +kernel
theorem dX11_days_63 : decode cX11_days 63 = .ok (.aload_n 0, 1) := by decide +kernel
theorem dX11_days_64 : decode cX11_days 64 = .ok (.getfield 68, 3) := by decide +kernel
theorem dX11_days_67 : decode cX11_days 67 = .ok (.aload_n 0, 1) := by decide +kernel
theorem dX11_days_68 : decode cX11_days 68 = .ok (.getfield 54, 3) := by decide +kernel
theorem dX11_days_71 : decode cX11_days 71 = .ok (.iload_n 2, 1) := by decide +kernel
theorem dX11_days_72 : decode cX11_days 72 = .ok (.iload_n 3, 1) := by decide +kernel
theorem dX11_days_73 : decode cX11_days 73 = .ok (.invokevirtual 307, 3) := by decide +kernel
theorem dX11_days_76 : decode cX11_days 76 = .ok (.aload_n 0, 1) := by decide +kernel
theorem dX11_days_77 : decode cX11_days 77 = .ok (.aload_n 0, 1) := by decide +kernel
theorem dX11_days_78 : decode cX11_days 78 = .ok (.getfield 68, 3) := by decide +kernel
theorem dX11_days_81 : decode cX11_days 81 = .ok (.iconst 0, 1) := by decide +kernel
theorem dX11_days_82 : decode cX11_days 82 = .ok (.iload_n 1, 1) := by decide +kernel
theorem dX11_days_83 : decode cX11_days 83 = .ok (.invokevirtual 300, 3) := by decide +kernel
theorem dX11_days_86 : decode cX11_days 86 = .ok (.invokevirtual 170, 3) := by decide +kernel
theorem dX11_days_89 : decode cX11_days 89 = .ok (.ireturn, 1) := by decide +kernel
theorem dX11_step_0 : decode cX11_step 0 = .ok (.iload_n 1, 1) := by decide +kernel
theorem dX11_step_1 : decode cX11_step 1 = .ok (.ifCond .lt 14, 3) := by decide +kernel
theorem dX11_step_4 : decode cX11_step 4 = .ok (.iload_n 1, 1) := by decide +kernel
theorem dX11_step_5 : decode cX11_step 5 = .ok (.aload_n 0, 1) := by decide +kernel
theorem dX11_step_6 : decode cX11_step 6 = .ok (.getfield 68, 3) := by decide +kernel
theorem dX11_step_9 : decode cX11_step 9 = .ok (.getfield 311, 3) := by decide +kernel
theorem dX11_step_12 : decode cX11_step 12 = .ok (.if_icmp .lt 10, 3) := by decide +kernel
theorem dX11_step_15 : decode cX11_step 15 = .ok (.aload_n 0, 1) := by decide +kernel
theorem dX11_step_16 : decode cX11_step 16 = .ok (.bipush 8, 2) := by decide +kernel
theorem dX11_step_18 : decode cX11_step 18 = .ok (.invokevirtual 112, 3) := by decide +kernel
theorem dX11_step_21 : decode cX11_step 21 = .ok (.ireturn, 1) := by decide +kernel
theorem dX11_step_22 : decode cX11_step 22 = .ok (.aload_n 0, 1) := by decide +kernel
theorem dX11_step_23 : decode cX11_step 23 = .ok (.aload_n 0, 1) := by decide +kernel
theorem dX11_step_24 : decode cX11_step 24 = .ok (.getfield 68, 3) := by decide +kernel
theorem dX11_step_27 : decode cX11_step 27 = .ok (.getfield 314, 3) := by decide +kernel
theorem dX11_step_30 : decode cX11_step 30 = .ok (.iload_n 1, 1) := by decide +kernel
theorem dX11_step_31 : decode cX11_step 31 = .ok (.iaload, 1) := by decide +kernel
theorem dX11_step_32 : decode cX11_step 32 = .ok (.invokevirtual 170, 3) := by decide +kernel
theorem dX11_step_35 : decode cX11_step 35 = .ok (.ireturn, 1) := by decide +kernel
theorem dX11_stepTime_0 : decode cX11_stepTime 0 = .ok (.iload_n 1, 1) := by decide +kernel
theorem dX11_stepTime_1 : decode cX11_stepTime 1 = .ok (.ifCond .lt 14, 3) := by decide +kernel
theorem dX11_stepTime_4 : decode cX11_stepTime 4 = .ok (.iload_n 1, 1) := by decide +kernel
theorem dX11_stepTime_5 : decode cX11_stepTime 5 = .ok (.aload_n 0, 1) := by decide +kernel
theorem dX11_stepTime_6 : decode cX11_stepTime 6 = .ok (.getfield 68, 3) := by decide +kernel
theorem dX11_stepTime_9 : decode cX11_stepTime 9 = .ok (.getfield 311, 3) := by decide +kernel
theorem dX11_stepTime_12 : decode cX11_stepTime 12 = .ok (.if_icmp .lt 10, 3) := by decide +kernel
theorem dX11_stepTime_15 : decode cX11_stepTime 15 = .ok (.aload_n 0, 1) := by decide +kernel
theorem dX11_stepTime_16 : decode cX11_stepTime 16 = .ok (.bipush 8, 2) := by decide +kernel
theorem dX11_stepTime_18 : decode cX11_stepTime 18 = .ok (.invokevirtual 112, 3) := by decide +kernel
theorem dX11_stepTime_21 : decode cX11_stepTime 21 = .ok (.ireturn, 1) := by decide +kernel
theorem dX11_stepTime_22 : decode cX11_stepTime 22 = .ok (.aload_n 0, 1) := by decide +kernel
theorem dX11_stepTime_23 : decode cX11_stepTime 23 = .ok (.aload_n 0, 1) := by decide +kernel
theorem dX11_stepTime_24 : decode cX11_stepTime 24 = .ok (.getfield 68, 3) := by decide +kernel
theorem dX11_stepTime_27 : decode cX11_stepTime 27 = .ok (.getfield 317, 3) := by decide +kernel
theorem dX11_stepTime_30 : decode cX11_stepTime 30 = .ok (.iload_n 1, 1) := by decide +kernel
theorem dX11_stepTime_31 : decode cX11_stepTime 31 = .ok (.iaload, 1) := by decide +kernel
theorem dX11_stepTime_32 : decode cX11_stepTime 32 = .ok (.invokevirtual 170, 3) := by decide +kernel
theorem dX11_stepTime_35 : decode cX11_stepTime 35 = .ok (.ireturn, 1) := by decide +kernel
theorem dX11_firstNight_0 : decode cX11_firstNight 0 = .ok (.iload_n 1, 1) := by decide +kernel
theorem dX11_firstNight_1 : decode cX11_firstNight 1 = .ok (.ifCond .lt 8, 3) := by decide +kernel
theorem dX11_firstNight_4 : decode cX11_firstNight 4 = .ok (.iload_n 1, 1) := by decide +kernel
theorem dX11_firstNight_5 : decode cX11_firstNight 5 = .ok (.iconst 3, 1) := by decide +kernel
theorem dX11_firstNight_6 : decode cX11_firstNight 6 = .ok (.if_icmp .le 9, 3) := by decide +kernel
theorem dX11_firstNight_9 : decode cX11_firstNight 9 = .ok (.aload_n 0, 1) := by decide +kernel
theorem dX11_firstNight_10 : decode cX11_firstNight 10 = .ok (.iconst 5, 1) := by decide +kernel
theorem dX11_firstNight_11 : decode cX11_firstNight 11 = .ok (.invokevirtual 112, 3) := by decide +kernel
theorem dX11_firstNight_14 : decode cX11_firstNight 14 = .ok (.ireturn, 1) := by decide +kernel
theorem dX11_firstNight_15 : decode cX11_firstNight 15 = .ok (.aload_n 0, 1) := by decide +kernel
theorem dX11_firstNight_16 : decode cX11_firstNight 16 = .ok (.getfield 68, 3) := by decide +kernel
theorem dX11_firstNight_19 : decode cX11_firstNight 19 = .ok (.getfield 320, 3) := by decide +kernel
theorem dX11_firstNight_22 : decode cX11_firstNight 22 = .ok (.ifCond .ne 10, 3) := by decide +kernel
theorem dX11_firstNight_25 : decode cX11_firstNight 25 = .ok (.aload_n 0, 1) := by decide +kernel
theorem dX11_firstNight_26 : decode cX11_firstNight 26 = .ok (.bipush 8, 2) := by decide +kernel
theorem dX11_firstNight_28 : decode cX11_firstNight 28 = .ok (.invokevirtual 112, 3) := by decide +kernel
theorem dX11_firstNight_31 : decode cX11_firstNight 31 = .ok (.ireturn, 1) := by decide +kernel
theorem dX11_firstNight_32 : decode cX11_firstNight 32 = .ok (.aload_n 0, 1) := by decide +kernel
theorem dX11_firstNight_33 : decode cX11_firstNight 33 = .ok (.aload_n 0, 1) := by decide +kernel
theorem dX11_firstNight_34 : decode cX11_firstNight 34 = .ok (.getfield 68, 3) := by decide +kernel
theorem dX11_firstNight_37 : decode cX11_firstNight 37 = .ok (.getfield 324, 3) := by decide +kernel
theorem dX11_firstNight_40 : decode cX11_firstNight 40 = .ok (.iload_n 1, 1) := by decide +kernel
theorem dX11_firstNight_41 : decode cX11_firstNight 41 = .ok (.iaload, 1) := by decide +kernel
theorem dX11_firstNight_42 : decode cX11_firstNight 42 = .ok (.invokevirtual 170, 3) := by decide +kernel
theorem dX11_firstNight_45 : decode cX11_firstNight 45 = .ok (.ireturn, 1) := by decide +kernel
theorem dX11_price_0 : decode cX11_price 0 = .ok (.aload_n 0, 1) := by decide +kernel
theorem dX11_price_1 : decode cX11_price 1 = .ok (.iload_n 1, 1) := by decide +kernel
theorem dX11_price_2 : decode cX11_price 2 = .ok (.invokevirtual 214, 3) := by decide +kernel
theorem dX11_price_5 : decode cX11_price 5 = .ok (.ifCond .eq 11, 3) := by decide +kernel
theorem dX11_price_8 : decode cX11_price 8 = .ok (.aload_n 0, 1) := by decide +kernel
theorem dX11_price_9 : decode cX11_price 9 = .ok (.iload_n 3, 1) := by decide +kernel
theorem dX11_price_10 : decode cX11_price 10 = .ok (.invokevirtual 254, 3) := by decide +kernel
theorem dX11_price_13 : decode cX11_price 13 = .ok (.ifCond .ne 9, 3) := by decide +kernel
theorem dX11_price_16 : decode cX11_price 16 = .ok (.aload_n 0, 1) := by decide +kernel
theorem dX11_price_17 : decode cX11_price 17 = .ok (.iconst 2, 1) := by decide +kernel
theorem dX11_price_18 : decode cX11_price 18 = .ok (.invokevirtual 112, 3) := by decide +kernel
theorem dX11_price_21 : decode cX11_price 21 = .ok (.ireturn, 1) := by decide +kernel
theorem dX11_price_22 : decode cX11_price 22 = .ok (.iload_n 2, 1) := by decide +kernel
theorem dX11_price_23 : decode cX11_price 23 = .ok (.ifCond .lt 9, 3) := by decide +kernel
theorem dX11_price_26 : decode cX11_price 26 = .ok (.iload_n 2, 1) := by decide +kernel
theorem dX11_price_27 : decode cX11_price 27 = .ok (.bipush 24, 2) := by decide +kernel
theorem dX11_price_29 : decode cX11_price 29 = .ok (.if_icmp .le 9, 3) := by decide +kernel
theorem dX11_price_32 : decode cX11_price 32 = .ok (.aload_n 0, 1) := by decide +kernel
theorem dX11_price_33 : decode cX11_price 33 = .ok (.iconst 5, 1) := by decide +kernel
theorem dX11_price_34 : decode cX11_price 34 = .ok (.invokevirtual 112, 3) := by decide +kernel
theorem dX11_price_37 : decode cX11_price 37 = .ok (.ireturn, 1) := by decide +kernel
theorem dX11_price_38 : decode cX11_price 38 = .ok (.aload_n 0, 1) := by decide +kernel
theorem dX11_price_39 : decode cX11_price 39 = .ok (.getfield 68, 3) := by decide +kernel
theorem dX11_price_42 : decode cX11_price 42 = .ok (.aload_n 0, 1) := by decide +kernel
theorem dX11_price_43 : decode cX11_price 43 = .ok (.invokevirtual 154, 3) := by decide +kernel
theorem dX11_price_46 : decode cX11_price 46 = .ok (.aload_n 0, 1) := by decide +kernel
theorem dX11_price_47 : decode cX11_price 47 = .ok (.getfield 54, 3) := by decide +kernel
theorem dX11_price_50 : decode cX11_price 50 = .ok (.iconst 1, 1) := by decide +kernel
theorem dX11_price_51 : decode cX11_price 51 = .ok (.iconst 1, 1) := by decide +kernel
theorem dX11_price_52 : decode cX11_price 52 = .ok (.iconst 0, 1) := by decide +kernel
theorem dX11_price_53 : decode cX11_price 53 = .ok (.invokevirtual 294, 3) := by decide +kernel
theorem dX11_price_56 : decode cX11_price 56 = .ok (.iconst 1, 1) := by decide +kernel
theorem dX11_price_57 : decode cX11_price 57 = .ok (.iload_n 1, 1) := by decide +kernel
theorem dX11_price_58 : decode cX11_price 58 = .ok (.ishl, 1) := by decide +kernel
theorem dX11_price_59 : decode cX11_price 59 = .ok (.istore 4, 2) := by decide +kernel
theorem dX11_price_61 : decode cX11_price 61 = .ok (.aload_n 0, 1) := by decide +kernel
theorem dX11_price_62 : decode cX11_price 62 = .ok (.aload_n 0, 1) := by decide +kernel
theorem dX11_price_63 : decode cX11_price 63 = .ok (.getfield 68, 3) := by decide +kernel
theorem dX11_price_66 : decode cX11_price 66 = .ok (.iload_n 2, 1) := by decide +kernel
theorem dX11_price_67 : decode cX11_price 67 = .ok (.iload_n 3, 1) := by decide +kernel
theorem dX11_price_68 : decode cX11_price 68 = .ok (.iload 4, 2) := by decide +kernel
theorem dX11_price_70 : decode cX11_price 70 = .ok (.ior, 1) := by decide +kernel
theorem dX11_price_71 : decode cX11_price 71 = .ok (.invokevirtual 300, 3) := by decide +kernel
theorem dX11_price_74 : decode cX11_price 74 = .ok (.aload_n 0, 1) := by decide +kernel
theorem dX11_price_75 : decode cX11_price 75 = .ok (.getfield 68, 3) := by decide +kernel
theorem dX11_price_78 : decode cX11_price 78 = .ok (.iload_n 2, 1) := by decide +kernel
theorem dX11_price_79 : decode cX11_price 79 = .ok (.iload_n 3, 1) := by decide +kernel
theorem dX11_price_80 : decode cX11_price 80 = .ok (.iload 4, 2) := by decide +kernel
theorem dX11_price_82 : decode cX11_price 82 = .ok (.iconst (-1), 1) := by decide +kernel
theorem dX11_price_83 : decode cX11_price 83 = .ok (.ixor, 1) := by decide +kernel
theorem dX11_price_84 : decode cX11_price 84 = .ok (.iand, 1) := by decide +kernel
theorem dX11_price_85 : decode cX11_price 85 = .ok (.invokevirtual 300, 3) := by decide +kernel
theorem dX11_price_88 : decode cX11_price 88 = .ok (.isub, 1) := by decide +kernel
theorem dX11_price_89 : decode cX11_price 89 = .ok (.invokevirtual 170, 3) := by decide +kernel
theorem dX11_price_92 : decode cX11_price 92 = .ok (.ireturn, 1) := by decide +kernel
theorem dX11_kept_0 : decode cX11_kept 0 = .ok (.aload_n 0, 1) := by decide +kernel
theorem dX11_kept_1 : decode cX11_kept 1 = .ok (.iload_n 1, 1) := by decide +kernel
theorem dX11_kept_2 : decode cX11_kept 2 = .ok (.invokevirtual 214, 3) := by decide +kernel
theorem dX11_kept_5 : decode cX11_kept 5 = .ok (.ifCond .ne 9, 3) := by decide +kernel
theorem dX11_kept_8 : decode cX11_kept 8 = .ok (.aload_n 0, 1) := by decide +kernel
theorem dX11_kept_9 : decode cX11_kept 9 = .ok (.iconst 2, 1) := by decide +kernel
theorem dX11_kept_10 : decode cX11_kept 10 = .ok (.invokevirtual 112, 3) := by decide +kernel
theorem dX11_kept_13 : decode cX11_kept 13 = .ok (.ireturn, 1) := by decide +kernel
theorem dX11_kept_14 : decode cX11_kept 14 = .ok (.aload_n 0, 1) := by decide +kernel
theorem dX11_kept_15 : decode cX11_kept 15 = .ok (.iload_n 2, 1) := by decide +kernel
theorem dX11_kept_16 : decode cX11_kept 16 = .ok (.invokevirtual 304, 3) := by decide +kernel
theorem dX11_kept_19 : decode cX11_kept 19 = .ok (.ifCond .ne 9, 3) := by decide +kernel
theorem dX11_kept_22 : decode cX11_kept 22 = .ok (.aload_n 0, 1) := by decide +kernel
theorem dX11_kept_23 : decode cX11_kept 23 = .ok (.iconst 5, 1) := by decide +kernel
theorem dX11_kept_24 : decode cX11_kept 24 = .ok (.invokevirtual 112, 3) := by decide +kernel
theorem dX11_kept_27 : decode cX11_kept 27 = .ok (.ireturn, 1) := by decide +kernel
theorem dX11_kept_28 : decode cX11_kept 28 = .ok (.aload_n 0, 1) := by decide +kernel
theorem dX11_kept_29 : decode cX11_kept 29 = .ok (.getfield 68, 3) := by decide +kernel
theorem dX11_kept_32 : decode cX11_kept 32 = .ok (.aload_n 0, 1) := by decide +kernel
theorem dX11_kept_33 : decode cX11_kept 33 = .ok (.invokevirtual 154, 3) := by decide +kernel
theorem dX11_kept_36 : decode cX11_kept 36 = .ok (.aload_n 0, 1) := by decide +kernel
theorem dX11_kept_37 : decode cX11_kept 37 = .ok (.getfield 54, 3) := by decide +kernel
theorem dX11_kept_40 : decode cX11_kept 40 = .ok (.iconst 1, 1) := by decide +kernel
theorem dX11_kept_41 : decode cX11_kept 41 = .ok (.iload_n 2, 1) := by decide +kernel
theorem dX11_kept_42 : decode cX11_kept 42 = .ok (.iconst 0, 1) := by decide +kernel
theorem dX11_kept_43 : decode cX11_kept 43 = .ok (.invokevirtual 294, 3) := by decide +kernel
theorem dX11_kept_46 : decode cX11_kept 46 = .ok (.aload_n 0, 1) := by decide +kernel
theorem dX11_kept_47 : decode cX11_kept 47 = .ok (.aload_n 0, 1) := by decide +kernel
theorem dX11_kept_48 : decode cX11_kept 48 = .ok (.getfield 68, 3) := by decide +kernel
theorem dX11_kept_51 : decode cX11_kept 51 = .ok (.iconst 0, 1) := by decide +kernel
theorem dX11_kept_52 : decode cX11_kept 52 = .ok (.iconst 1, 1) := by decide +kernel
theorem dX11_kept_53 : decode cX11_kept 53 = .ok (.iload_n 1, 1) := by decide +kernel
theorem dX11_kept_54 : decode cX11_kept 54 = .ok (.ishl, 1) := by decide +kernel
theorem dX11_kept_55 : decode cX11_kept 55 = .ok (.invokevirtual 300, 3) := by decide +kernel
theorem dX11_kept_58 : decode cX11_kept 58 = .ok (.aload_n 0, 1) := by decide +kernel
theorem dX11_kept_59 : decode cX11_kept 59 = .ok (.getfield 68, 3) := by decide +kernel
theorem dX11_kept_62 : decode cX11_kept 62 = .ok (.iconst 0, 1) := by decide +kernel
theorem dX11_kept_63 : decode cX11_kept 63 = .ok (.iconst 0, 1) := by decide +kernel
theorem dX11_kept_64 : decode cX11_kept 64 = .ok (.invokevirtual 300, 3) := by decide +kernel
theorem dX11_kept_67 : decode cX11_kept 67 = .ok (.isub, 1) := by decide +kernel
theorem dX11_kept_68 : decode cX11_kept 68 = .ok (.invokevirtual 170, 3) := by decide +kernel
theorem dX11_kept_71 : decode cX11_kept 71 = .ok (.ireturn, 1) := by decide +kernel
theorem dX11_bestKept_0 : decode cX11_bestKept 0 = .ok (.aload_n 0, 1) := by decide +kernel
theorem dX11_bestKept_1 : decode cX11_bestKept 1 = .ok (.iload_n 1, 1) := by decide +kernel
theorem dX11_bestKept_2 : decode cX11_bestKept 2 = .ok (.invokevirtual 304, 3) := by decide +kernel
theorem dX11_bestKept_5 : decode cX11_bestKept 5 = .ok (.ifCond .ne 9, 3) := by decide +kernel
theorem dX11_bestKept_8 : decode cX11_bestKept 8 = .ok (.aload_n 0, 1) := by decide +kernel
theorem dX11_bestKept_9 : decode cX11_bestKept 9 = .ok (.iconst 5, 1) := by decide +kernel
theorem dX11_bestKept_10 : decode cX11_bestKept 10 = .ok (.invokevirtual 112, 3) := by decide +kernel
theorem dX11_bestKept_13 : decode cX11_bestKept 13 = .ok (.ireturn, 1) := by decide +kernel
theorem dX11_bestKept_14 : decode cX11_bestKept 14 = .ok (.aload_n 0, 1) := by decide +kernel
theorem dX11_bestKept_15 : decode cX11_bestKept 15 = .ok (.invokevirtual 154, 3) := by decide +kernel
theorem dX11_bestKept_18 : decode cX11_bestKept 18 = .ok (.getfield 161, 3) := by decide +kernel
theorem dX11_bestKept_21 : decode cX11_bestKept 21 = .ok (.getfield 165, 3) := by decide +kernel
theorem dX11_bestKept_24 : decode cX11_bestKept 24 = .ok (.istore_n 2, 1) := by decide +kernel
theorem dX11_bestKept_25 : decode cX11_bestKept 25 = .ok (.iload_n 2, 1) := by decide +kernel
theorem dX11_bestKept_26 : decode cX11_bestKept 26 = .ok (.ifCond .ne 10, 3) := by decide +kernel
theorem dX11_bestKept_29 : decode cX11_bestKept 29 = .ok (.aload_n 0, 1) := by decide +kernel
theorem dX11_bestKept_30 : decode cX11_bestKept 30 = .ok (.bipush 8, 2) := by decide +kernel
theorem dX11_bestKept_32 : decode cX11_bestKept 32 = .ok (.invokevirtual 112, 3) := by decide +kernel
theorem dX11_bestKept_35 : decode cX11_bestKept 35 = .ok (.ireturn, 1) := by decide +kernel
theorem dX11_bestKept_36 : decode cX11_bestKept 36 = .ok (.aload_n 0, 1) := by decide +kernel
theorem dX11_bestKept_37 : decode cX11_bestKept 37 = .ok (.getfield 68, 3) := by decide +kernel
theorem dX11_bestKept_40 : decode cX11_bestKept 40 = .ok (.aload_n 0, 1) := by decide +kernel
theorem dX11_bestKept_41 : decode cX11_bestKept 41 = .ok (.invokevirtual 154, 3) := by decide +kernel
theorem dX11_bestKept_44 : decode cX11_bestKept 44 = .ok (.aload_n 0, 1) := by decide +kernel
theorem dX11_bestKept_45 : decode cX11_bestKept 45 = .ok (.getfield 54, 3) := by decide +kernel
theorem dX11_bestKept_48 : decode cX11_bestKept 48 = .ok (.iconst 1, 1) := by decide +kernel
theorem dX11_bestKept_49 : decode cX11_bestKept 49 = .ok (.iload_n 1, 1) := by decide +kernel
theorem dX11_bestKept_50 : decode cX11_bestKept 50 = .ok (.iconst 0, 1) := by decide +kernel
theorem dX11_bestKept_51 : decode cX11_bestKept 51 = .ok (.invokevirtual 294, 3) := by decide +kernel
theorem dX11_bestKept_54 : decode cX11_bestKept 54 = .ok (.iconst 0, 1) := by decide +kernel
theorem dX11_bestKept_55 : decode cX11_bestKept 55 = .ok (.istore_n 3, 1) := by decide +kernel
theorem dX11_bestKept_56 : decode cX11_bestKept 56 = .ok (.iconst 1, 1) := by decide +kernel
theorem dX11_bestKept_57 : decode cX11_bestKept 57 = .ok (.istore 4, 2) := by decide +kernel
theorem dX11_bestKept_59 : decode cX11_bestKept 59 = .ok (.iload 4, 2) := by decide +kernel
theorem dX11_bestKept_61 : decode cX11_bestKept 61 = .ok (.iload_n 2, 1) := by decide +kernel
theorem dX11_bestKept_62 : decode cX11_bestKept 62 = .ok (.if_icmp .ge 38, 3) := by decide +kernel
theorem dX11_bestKept_65 : decode cX11_bestKept 65 = .ok (.aload_n 0, 1) := by decide +kernel
theorem dX11_bestKept_66 : decode cX11_bestKept 66 = .ok (.getfield 68, 3) := by decide +kernel
theorem dX11_bestKept_69 : decode cX11_bestKept 69 = .ok (.iconst 0, 1) := by decide +kernel
theorem dX11_bestKept_70 : decode cX11_bestKept 70 = .ok (.iconst 1, 1) := by decide +kernel
theorem dX11_bestKept_71 : decode cX11_bestKept 71 = .ok (.iload 4, 2) := by decide +kernel
theorem dX11_bestKept_73 : decode cX11_bestKept 73 = .ok (.ishl, 1) := by decide +kernel
theorem dX11_bestKept_74 : decode cX11_bestKept 74 = .ok (.invokevirtual 300, 3) := by decide +kernel
theorem dX11_bestKept_77 : decode cX11_bestKept 77 = .ok (.aload_n 0, 1) := by decide +kernel
theorem dX11_bestKept_78 : decode cX11_bestKept 78 = .ok (.getfield 68, 3) := by decide +kernel
theorem dX11_bestKept_81 : decode cX11_bestKept 81 = .ok (.iconst 0, 1) := by decide +kernel
theorem dX11_bestKept_82 : decode cX11_bestKept 82 = .ok (.iconst 1, 1) := by decide +kernel
theorem dX11_bestKept_83 : decode cX11_bestKept 83 = .ok (.iload_n 3, 1) := by decide +kernel
theorem dX11_bestKept_84 : decode cX11_bestKept 84 = .ok (.ishl, 1) := by decide +kernel
theorem dX11_bestKept_85 : decode cX11_bestKept 85 = .ok (.invokevirtual 300, 3) := by decide +kernel
theorem dX11_bestKept_88 : decode cX11_bestKept 88 = .ok (.if_icmp .le 6, 3) := by decide +kernel
theorem dX11_bestKept_91 : decode cX11_bestKept 91 = .ok (.iload 4, 2) := by decide +kernel
theorem dX11_bestKept_93 : decode cX11_bestKept 93 = .ok (.istore_n 3, 1) := by decide +kernel
theorem dX11_bestKept_94 : decode cX11_bestKept 94 = .ok (.iinc 4 1, 3) := by decide +kernel
theorem dX11_bestKept_97 : decode cX11_bestKept 97 = .ok (.goto (-38), 3) := by decide +kernel
theorem dX11_bestKept_100 : decode cX11_bestKept 100 = .ok (.aload_n 0, 1) := by decide +kernel
theorem dX11_bestKept_101 : decode cX11_bestKept 101 = .ok (.iload_n 3, 1) := by decide +kernel
theorem dX11_bestKept_102 : decode cX11_bestKept 102 = .ok (.invokevirtual 170, 3) := by decide +kernel
theorem dX11_bestKept_105 : decode cX11_bestKept 105 = .ok (.ireturn, 1) := by decide +kernel
theorem dX11_more_0 : decode cX11_more 0 = .ok (.aload_n 0, 1) := by decide +kernel
theorem dX11_more_1 : decode cX11_more 1 = .ok (.iload_n 1, 1) := by decide +kernel
theorem dX11_more_2 : decode cX11_more 2 = .ok (.invokevirtual 214, 3) := by decide +kernel
theorem dX11_more_5 : decode cX11_more 5 = .ok (.ifCond .ne 9, 3) := by decide +kernel
theorem dX11_more_8 : decode cX11_more 8 = .ok (.aload_n 0, 1) := by decide +kernel
theorem dX11_more_9 : decode cX11_more 9 = .ok (.iconst 2, 1) := by decide +kernel
theorem dX11_more_10 : decode cX11_more 10 = .ok (.invokevirtual 112, 3) := by decide +kernel
theorem dX11_more_13 : decode cX11_more 13 = .ok (.ireturn, 1) := by decide +kernel
theorem dX11_more_14 : decode cX11_more 14 = .ok (.aload_n 0, 1) := by decide +kernel
theorem dX11_more_15 : decode cX11_more 15 = .ok (.iload_n 2, 1) := by decide +kernel
theorem dX11_more_16 : decode cX11_more 16 = .ok (.invokevirtual 304, 3) := by decide +kernel
theorem dX11_more_19 : decode cX11_more 19 = .ok (.ifCond .ne 9, 3) := by decide +kernel
theorem dX11_more_22 : decode cX11_more 22 = .ok (.aload_n 0, 1) := by decide +kernel
theorem dX11_more_23 : decode cX11_more 23 = .ok (.iconst 5, 1) := by decide +kernel
theorem dX11_more_24 : decode cX11_more 24 = .ok (.invokevirtual 112, 3) := by decide +kernel
theorem dX11_more_27 : decode cX11_more 27 = .ok (.ireturn, 1) := by decide +kernel
theorem dX11_more_28 : decode cX11_more 28 = .ok (.aload_n 0, 1) := by decide +kernel
theorem dX11_more_29 : decode cX11_more 29 = .ok (.getfield 68, 3) := by decide +kernel
theorem dX11_more_32 : decode cX11_more 32 = .ok (.iconst 1, 1) := by decide +kernel
theorem dX11_more_33 : decode cX11_more 33 = .ok (.iconst 1, 1) := by decide +kernel
theorem dX11_more_34 : decode cX11_more 34 = .ok (.iload_n 1, 1) := by decide +kernel
theorem dX11_more_35 : decode cX11_more 35 = .ok (.ishl, 1) := by decide +kernel
theorem dX11_more_36 : decode cX11_more 36 = .ok (.invokevirtual 327, 3) := by decide +kernel
theorem dX11_more_39 : decode cX11_more 39 = .ok (.aload_n 0, 1) := by decide +kernel
theorem dX11_more_40 : decode cX11_more 40 = .ok (.getfield 68, 3) := by decide +kernel
theorem dX11_more_43 : decode cX11_more 43 = .ok (.aload_n 0, 1) := by decide +kernel
theorem dX11_more_44 : decode cX11_more 44 = .ok (.invokevirtual 154, 3) := by decide +kernel
theorem dX11_more_47 : decode cX11_more 47 = .ok (.aload_n 0, 1) := by decide +kernel
theorem dX11_more_48 : decode cX11_more 48 = .ok (.getfield 54, 3) := by decide +kernel
theorem dX11_more_51 : decode cX11_more 51 = .ok (.iconst 2, 1) := by decide +kernel
theorem dX11_more_52 : decode cX11_more 52 = .ok (.iload_n 2, 1) := by decide +kernel
theorem dX11_more_53 : decode cX11_more 53 = .ok (.iconst 0, 1) := by decide +kernel
theorem dX11_more_54 : decode cX11_more 54 = .ok (.invokevirtual 294, 3) := by decide +kernel
theorem dX11_more_57 : decode cX11_more 57 = .ok (.aload_n 0, 1) := by decide +kernel
theorem dX11_more_58 : decode cX11_more 58 = .ok (.aload_n 0, 1) := by decide +kernel
theorem dX11_more_59 : decode cX11_more 59 = .ok (.getfield 68, 3) := by decide +kernel
theorem dX11_more_62 : decode cX11_more 62 = .ok (.getfield 330, 3) := by decide +kernel
theorem dX11_more_65 : decode cX11_more 65 = .ok (.iconst 1, 1) := by decide +kernel
theorem dX11_more_66 : decode cX11_more 66 = .ok (.iaload, 1) := by decide +kernel
theorem dX11_more_67 : decode cX11_more 67 = .ok (.aload_n 0, 1) := by decide +kernel
theorem dX11_more_68 : decode cX11_more 68 = .ok (.getfield 68, 3) := by decide +kernel
theorem dX11_more_71 : decode cX11_more 71 = .ok (.getfield 330, 3) := by decide +kernel
theorem dX11_more_74 : decode cX11_more 74 = .ok (.iconst 0, 1) := by decide +kernel
theorem dX11_more_75 : decode cX11_more 75 = .ok (.iaload, 1) := by decide +kernel
theorem dX11_more_76 : decode cX11_more 76 = .ok (.isub, 1) := by decide +kernel
theorem dX11_more_77 : decode cX11_more 77 = .ok (.invokevirtual 170, 3) := by decide +kernel
theorem dX11_more_80 : decode cX11_more 80 = .ok (.ireturn, 1) := by decide +kernel
theorem dX11_bestMore_0 : decode cX11_bestMore 0 = .ok (.aload_n 0, 1) := by decide +kernel
theorem dX11_bestMore_1 : decode cX11_bestMore 1 = .ok (.iload_n 1, 1) := by decide +kernel
theorem dX11_bestMore_2 : decode cX11_bestMore 2 = .ok (.invokevirtual 304, 3) := by decide +kernel
theorem dX11_bestMore_5 : decode cX11_bestMore 5 = .ok (.ifCond .ne 9, 3) := by decide +kernel
theorem dX11_bestMore_8 : decode cX11_bestMore 8 = .ok (.aload_n 0, 1) := by decide +kernel
theorem dX11_bestMore_9 : decode cX11_bestMore 9 = .ok (.iconst 5, 1) := by decide +kernel
theorem dX11_bestMore_10 : decode cX11_bestMore 10 = .ok (.invokevirtual 112, 3) := by decide +kernel
theorem dX11_bestMore_13 : decode cX11_bestMore 13 = .ok (.ireturn, 1) := by decide +kernel
theorem dX11_bestMore_14 : decode cX11_bestMore 14 = .ok (.aload_n 0, 1) := by decide +kernel
theorem dX11_bestMore_15 : decode cX11_bestMore 15 = .ok (.invokevirtual 154, 3) := by decide +kernel
theorem dX11_bestMore_18 : decode cX11_bestMore 18 = .ok (.getfield 161, 3) := by decide +kernel
theorem dX11_bestMore_21 : decode cX11_bestMore 21 = .ok (.getfield 165, 3) := by decide +kernel
theorem dX11_bestMore_24 : decode cX11_bestMore 24 = .ok (.istore_n 2, 1) := by decide +kernel
theorem dX11_bestMore_25 : decode cX11_bestMore 25 = .ok (.iload_n 2, 1) := by decide +kernel
theorem dX11_bestMore_26 : decode cX11_bestMore 26 = .ok (.ifCond .ne 10, 3) := by decide +kernel
theorem dX11_bestMore_29 : decode cX11_bestMore 29 = .ok (.aload_n 0, 1) := by decide +kernel
theorem dX11_bestMore_30 : decode cX11_bestMore 30 = .ok (.bipush 8, 2) := by decide +kernel
theorem dX11_bestMore_32 : decode cX11_bestMore 32 = .ok (.invokevirtual 112, 3) := by decide +kernel
theorem dX11_bestMore_35 : decode cX11_bestMore 35 = .ok (.ireturn, 1) := by decide +kernel
theorem dX11_bestMore_36 : decode cX11_bestMore 36 = .ok (.iconst 0, 1) := by decide +kernel
theorem dX11_bestMore_37 : decode cX11_bestMore 37 = .ok (.istore_n 3, 1) := by decide +kernel
theorem dX11_bestMore_38 : decode cX11_bestMore 38 = .ok (.iload_n 3, 1) := by decide +kernel
theorem dX11_bestMore_39 : decode cX11_bestMore 39 = .ok (.iload_n 2, 1) := by decide +kernel
theorem dX11_bestMore_40 : decode cX11_bestMore 40 = .ok (.if_icmp .ge 22, 3) := by decide +kernel
theorem dX11_bestMore_43 : decode cX11_bestMore 43 = .ok (.aload_n 0, 1) := by decide +kernel
theorem dX11_bestMore_44 : decode cX11_bestMore 44 = .ok (.getfield 68, 3) := by decide +kernel
theorem dX11_bestMore_47 : decode cX11_bestMore 47 = .ok (.iconst 1, 1) := by decide +kernel
theorem dX11_bestMore_48 : decode cX11_bestMore 48 = .ok (.iload_n 3, 1) := by decide +kernel
theorem dX11_bestMore_49 : decode cX11_bestMore 49 = .ok (.iadd, 1) := by decide +kernel
theorem dX11_bestMore_50 : decode cX11_bestMore 50 = .ok (.iconst 1, 1) := by decide +kernel
theorem dX11_bestMore_51 : decode cX11_bestMore 51 = .ok (.iload_n 3, 1) := by decide +kernel
theorem dX11_bestMore_52 : decode cX11_bestMore 52 = .ok (.ishl, 1) := by decide +kernel
theorem dX11_bestMore_53 : decode cX11_bestMore 53 = .ok (.invokevirtual 327, 3) := by decide +kernel
theorem dX11_bestMore_56 : decode cX11_bestMore 56 = .ok (.iinc 3 1, 3) := by decide +kernel
theorem dX11_bestMore_59 : decode cX11_bestMore 59 = .ok (.goto (-21), 3) := by decide +kernel
theorem dX11_bestMore_62 : decode cX11_bestMore 62 = .ok (.aload_n 0, 1) := by decide +kernel
theorem dX11_bestMore_63 : decode cX11_bestMore 63 = .ok (.getfield 68, 3) := by decide +kernel
theorem dX11_bestMore_66 : decode cX11_bestMore 66 = .ok (.aload_n 0, 1) := by decide +kernel
theorem dX11_bestMore_67 : decode cX11_bestMore 67 = .ok (.invokevirtual 154, 3) := by decide +kernel
theorem dX11_bestMore_70 : decode cX11_bestMore 70 = .ok (.aload_n 0, 1) := by decide +kernel
theorem dX11_bestMore_71 : decode cX11_bestMore 71 = .ok (.getfield 54, 3) := by decide +kernel
theorem dX11_bestMore_74 : decode cX11_bestMore 74 = .ok (.iconst 1, 1) := by decide +kernel
theorem dX11_bestMore_75 : decode cX11_bestMore 75 = .ok (.iload_n 2, 1) := by decide +kernel
theorem dX11_bestMore_76 : decode cX11_bestMore 76 = .ok (.iadd, 1) := by decide +kernel
theorem dX11_bestMore_77 : decode cX11_bestMore 77 = .ok (.iload_n 1, 1) := by decide +kernel
theorem dX11_bestMore_78 : decode cX11_bestMore 78 = .ok (.iconst 0, 1) := by decide +kernel
theorem dX11_bestMore_79 : decode cX11_bestMore 79 = .ok (.invokevirtual 294, 3) := by decide +kernel
theorem dX11_bestMore_82 : decode cX11_bestMore 82 = .ok (.iconst 0, 1) := by decide +kernel
theorem dX11_bestMore_83 : decode cX11_bestMore 83 = .ok (.istore_n 3, 1) := by decide +kernel
theorem dX11_bestMore_84 : decode cX11_bestMore 84 = .ok (.iconst 1, 1) := by decide +kernel
theorem dX11_bestMore_85 : decode cX11_bestMore 85 = .ok (.istore 4, 2) := by decide +kernel
theorem dX11_bestMore_87 : decode cX11_bestMore 87 = .ok (.iload 4, 2) := by decide +kernel
theorem dX11_bestMore_89 : decode cX11_bestMore 89 = .ok (.iload_n 2, 1) := by decide +kernel
theorem dX11_bestMore_90 : decode cX11_bestMore 90 = .ok (.if_icmp .ge 38, 3) := by decide +kernel
theorem dX11_bestMore_93 : decode cX11_bestMore 93 = .ok (.aload_n 0, 1) := by decide +kernel
theorem dX11_bestMore_94 : decode cX11_bestMore 94 = .ok (.getfield 68, 3) := by decide +kernel
theorem dX11_bestMore_97 : decode cX11_bestMore 97 = .ok (.getfield 330, 3) := by decide +kernel
theorem dX11_bestMore_100 : decode cX11_bestMore 100 = .ok (.iconst 1, 1) := by decide +kernel
theorem dX11_bestMore_101 : decode cX11_bestMore 101 = .ok (.iload 4, 2) := by decide +kernel
theorem dX11_bestMore_103 : decode cX11_bestMore 103 = .ok (.iadd, 1) := by decide +kernel
theorem dX11_bestMore_104 : decode cX11_bestMore 104 = .ok (.iaload, 1) := by decide +kernel
theorem dX11_bestMore_105 : decode cX11_bestMore 105 = .ok (.aload_n 0, 1) := by decide +kernel
theorem dX11_bestMore_106 : decode cX11_bestMore 106 = .ok (.getfield 68, 3) := by decide +kernel
theorem dX11_bestMore_109 : decode cX11_bestMore 109 = .ok (.getfield 330, 3) := by decide +kernel
theorem dX11_bestMore_112 : decode cX11_bestMore 112 = .ok (.iconst 1, 1) := by decide +kernel
theorem dX11_bestMore_113 : decode cX11_bestMore 113 = .ok (.iload_n 3, 1) := by decide +kernel
theorem dX11_bestMore_114 : decode cX11_bestMore 114 = .ok (.iadd, 1) := by decide +kernel
theorem dX11_bestMore_115 : decode cX11_bestMore 115 = .ok (.iaload, 1) := by decide +kernel
theorem dX11_bestMore_116 : decode cX11_bestMore 116 = .ok (.if_icmp .le 6, 3) := by decide +kernel
theorem dX11_bestMore_119 : decode cX11_bestMore 119 = .ok (.iload 4, 2) := by decide +kernel
theorem dX11_bestMore_121 : decode cX11_bestMore 121 = .ok (.istore_n 3, 1) := by decide +kernel
theorem dX11_bestMore_122 : decode cX11_bestMore 122 = .ok (.iinc 4 1, 3) := by decide +kernel
theorem dX11_bestMore_125 : decode cX11_bestMore 125 = .ok (.goto (-38), 3) := by decide +kernel
theorem dX11_bestMore_128 : decode cX11_bestMore 128 = .ok (.aload_n 0, 1) := by decide +kernel
theorem dX11_bestMore_129 : decode cX11_bestMore 129 = .ok (.iload_n 3, 1) := by decide +kernel
theorem dX11_bestMore_130 : decode cX11_bestMore 130 = .ok (.invokevirtual 170, 3) := by decide +kernel
theorem dX11_bestMore_133 : decode cX11_bestMore 133 = .ok (.ireturn, 1) := by decide +kernel
theorem dX11_shift_0 : decode cX11_shift 0 = .ok (.iload_n 1, 1) := by decide +kernel
theorem dX11_shift_1 : decode cX11_shift 1 = .ok (.ifCond .lt 10, 3) := by decide +kernel
theorem dX11_shift_4 : decode cX11_shift 4 = .ok (.iload_n 1, 1) := by decide +kernel
theorem dX11_shift_5 : decode cX11_shift 5 = .ok (.ldc_w 333, 3) := by decide +kernel
theorem dX11_shift_8 : decode cX11_shift 8 = .ok (.if_icmp .le 9, 3) := by decide +kernel
theorem dX11_shift_11 : decode cX11_shift 11 = .ok (.aload_n 0, 1) := by decide +kernel
theorem dX11_shift_12 : decode cX11_shift 12 = .ok (.iconst 5, 1) := by decide +kernel
theorem dX11_shift_13 : decode cX11_shift 13 = .ok (.invokevirtual 112, 3) := by decide +kernel
theorem dX11_shift_16 : decode cX11_shift 16 = .ok (.ireturn, 1) := by decide +kernel
theorem dX11_shift_17 : decode cX11_shift 17 = .ok (.aload_n 0, 1) := by decide +kernel
theorem dX11_shift_18 : decode cX11_shift 18 = .ok (.invokevirtual 154, 3) := by decide +kernel
theorem dX11_shift_21 : decode cX11_shift 21 = .ok (.getfield 205, 3) := by decide +kernel
theorem dX11_shift_24 : decode cX11_shift 24 = .ok (.getfield 165, 3) := by decide +kernel
theorem dX11_shift_27 : decode cX11_shift 27 = .ok (.istore_n 2, 1) := by decide +kernel
theorem dX11_shift_28 : decode cX11_shift 28 = .ok (.iconst (-1), 1) := by decide +kernel
theorem dX11_shift_29 : decode cX11_shift 29 = .ok (.istore_n 3, 1) := by decide +kernel
theorem dX11_shift_30 : decode cX11_shift 30 = .ok (.iconst 0, 1) := by decide +kernel
theorem dX11_shift_31 : decode cX11_shift 31 = .ok (.istore 4, 2) := by decide +kernel
theorem dX11_shift_33 : decode cX11_shift 33 = .ok (.iload 4, 2) := by decide +kernel
theorem dX11_shift_35 : decode cX11_shift 35 = .ok (.iconst 1, 1) := by decide +kernel
theorem dX11_shift_36 : decode cX11_shift 36 = .ok (.iload_n 2, 1) := by decide +kernel
theorem dX11_shift_37 : decode cX11_shift 37 = .ok (.ishl, 1) := by decide +kernel
theorem dX11_shift_38 : decode cX11_shift 38 = .ok (.if_icmp .ge 57, 3) := by decide +kernel
theorem dX11_shift_41 : decode cX11_shift 41 = .ok (.iload_n 3, 1) := by decide +kernel
theorem dX11_shift_42 : decode cX11_shift 42 = .ok (.iconst (-1), 1) := by decide +kernel
theorem dX11_shift_43 : decode cX11_shift 43 = .ok (.if_icmp .eq 15, 3) := by decide +kernel
theorem dX11_shift_46 : decode cX11_shift 46 = .ok (.iload 4, 2) := by decide +kernel
theorem dX11_shift_48 : decode cX11_shift 48 = .ok (.invokestatic 182, 3) := by decide +kernel
theorem dX11_shift_51 : decode cX11_shift 51 = .ok (.iload_n 3, 1) := by decide +kernel
theorem dX11_shift_52 : decode cX11_shift 52 = .ok (.invokestatic 182, 3) := by decide +kernel
theorem dX11_shift_55 : decode cX11_shift 55 = .ok (.if_icmp .ge 7, 3) := by decide +kernel
theorem dX11_shift_58 : decode cX11_shift 58 = .ok (.iconst 1, 1) := by decide +kernel
theorem dX11_shift_59 : decode cX11_shift 59 = .ok (.goto 4, 3) := by decide +kernel
theorem dX11_shift_62 : decode cX11_shift 62 = .ok (.iconst 0, 1) := by decide +kernel
theorem dX11_shift_63 : decode cX11_shift 63 = .ok (.istore 5, 2) := by decide +kernel
theorem dX11_shift_65 : decode cX11_shift 65 = .ok (.iload 5, 2) := by decide +kernel
theorem dX11_shift_67 : decode cX11_shift 67 = .ok (.ifCond .eq 22, 3) := by decide +kernel
theorem dX11_shift_70 : decode cX11_shift 70 = .ok (.iload_n 1, 1) := by decide +kernel
theorem dX11_shift_71 : decode cX11_shift 71 = .ok (.aload_n 0, 1) := by decide +kernel
theorem dX11_shift_72 : decode cX11_shift 72 = .ok (.invokevirtual 154, 3) := by decide +kernel
theorem dX11_shift_75 : decode cX11_shift 75 = .ok (.iload 4, 2) := by decide +kernel
theorem dX11_shift_77 : decode cX11_shift 77 = .ok (.invokevirtual 334, 3) := by decide +kernel
theorem dX11_shift_80 : decode cX11_shift 80 = .ok (.iconst (-1), 1) := by decide +kernel
theorem dX11_shift_81 : decode cX11_shift 81 = .ok (.ixor, 1) := by decide +kernel
theorem dX11_shift_82 : decode cX11_shift 82 = .ok (.iand, 1) := by decide +kernel
theorem dX11_shift_83 : decode cX11_shift 83 = .ok (.ifCond .ne 6, 3) := by decide +kernel
theorem dX11_shift_86 : decode cX11_shift 86 = .ok (.iload 4, 2) := by decide +kernel
theorem dX11_shift_88 : decode cX11_shift 88 = .ok (.istore_n 3, 1) := by decide +kernel
theorem dX11_shift_89 : decode cX11_shift 89 = .ok (.iinc 4 1, 3) := by decide +kernel
theorem dX11_shift_92 : decode cX11_shift 92 = .ok (.goto (-59), 3) := by decide +kernel
theorem dX11_shift_95 : decode cX11_shift 95 = .ok (.iload_n 3, 1) := by decide +kernel
theorem dX11_shift_96 : decode cX11_shift 96 = .ok (.iconst (-1), 1) := by decide +kernel
theorem dX11_shift_97 : decode cX11_shift 97 = .ok (.if_icmp .ne 12, 3) := by decide +kernel
theorem dX11_shift_100 : decode cX11_shift 100 = .ok (.aload_n 0, 1) := by decide +kernel
theorem dX11_shift_101 : decode cX11_shift 101 = .ok (.bipush 9, 2) := by decide +kernel
theorem dX11_shift_103 : decode cX11_shift 103 = .ok (.invokevirtual 112, 3) := by decide +kernel
theorem dX11_shift_106 : decode cX11_shift 106 = .ok (.goto 8, 3) := by decide +kernel
theorem dX11_shift_109 : decode cX11_shift 109 = .ok (.aload_n 0, 1) := by decide +kernel
theorem dX11_shift_110 : decode cX11_shift 110 = .ok (.iload_n 3, 1) := by decide +kernel
theorem dX11_shift_111 : decode cX11_shift 111 = .ok (.invokevirtual 170, 3) := by decide +kernel
theorem dX11_shift_114 : decode cX11_shift 114 = .ok (.ireturn, 1) := by decide +kernel
theorem dX11_west_0 : decode cX11_west 0 = .ok (.aload_n 0, 1) := by decide +kernel
theorem dX11_west_1 : decode cX11_west 1 = .ok (.iload_n 1, 1) := by decide +kernel
theorem dX11_west_2 : decode cX11_west 2 = .ok (.invokevirtual 337, 3) := by decide +kernel
theorem dX11_west_5 : decode cX11_west 5 = .ok (.ifCond .eq 29, 3) := by decide +kernel
theorem dX11_west_8 : decode cX11_west 8 = .ok (.iload_n 2, 1) := by decide +kernel
theorem dX11_west_9 : decode cX11_west 9 = .ok (.ifCond .lt 25, 3) := by decide +kernel
theorem dX11_west_12 : decode cX11_west 12 = .ok (.iload_n 2, 1) := by decide +kernel
theorem dX11_west_13 : decode cX11_west 13 = .ok (.bipush 99, 2) := by decide +kernel
theorem dX11_west_15 : decode cX11_west 15 = .ok (.if_icmp .gt 19, 3) := by decide +kernel
theorem dX11_west_18 : decode cX11_west 18 = .ok (.iload_n 3, 1) := by decide +kernel
theorem dX11_west_19 : decode cX11_west 19 = .ok (.iconst 1, 1) := by decide +kernel
theorem dX11_west_20 : decode cX11_west 20 = .ok (.if_icmp .lt 14, 3) := by decide +kernel
theorem dX11_west_23 : decode cX11_west 23 = .ok (.iload_n 3, 1) := by decide +kernel
theorem dX11_west_24 : decode cX11_west 24 = .ok (.bipush 99, 2) := by decide +kernel
theorem dX11_west_26 : decode cX11_west 26 = .ok (.if_icmp .gt 8, 3) := by decide +kernel
theorem dX11_west_29 : decode cX11_west 29 = .ok (.iload_n 2, 1) := by decide +kernel
theorem dX11_west_30 : decode cX11_west 30 = .ok (.iload_n 3, 1) := by decide +kernel
theorem dX11_west_31 : decode cX11_west 31 = .ok (.if_icmp .lt 9, 3) := by decide +kernel
theorem dX11_west_34 : decode cX11_west 34 = .ok (.aload_n 0, 1) := by decide +kernel
theorem dX11_west_35 : decode cX11_west 35 = .ok (.iconst 5, 1) := by decide +kernel
theorem dX11_west_36 : decode cX11_west 36 = .ok (.invokevirtual 91, 3) := by decide +kernel
theorem dX11_west_39 : decode cX11_west 39 = .ok (.ireturn, 1) := by decide +kernel
theorem dX11_west_40 : decode cX11_west 40 = .ok (.aload_n 0, 1) := by decide +kernel
theorem dX11_west_41 : decode cX11_west 41 = .ok (.iload_n 1, 1) := by decide +kernel
theorem dX11_west_42 : decode cX11_west 42 = .ok (.i2l, 1) := by decide +kernel
theorem dX11_west_43 : decode cX11_west 43 = .ok (.iload_n 3, 1) := by decide +kernel
theorem dX11_west_44 : decode cX11_west 44 = .ok (.i2l, 1) := by decide +kernel
theorem dX11_west_45 : decode cX11_west 45 = .ok (.lmul, 1) := by decide +kernel
theorem dX11_west_46 : decode cX11_west 46 = .ok (.iload_n 3, 1) := by decide +kernel
theorem dX11_west_47 : decode cX11_west 47 = .ok (.iload_n 2, 1) := by decide +kernel
theorem dX11_west_48 : decode cX11_west 48 = .ok (.isub, 1) := by decide +kernel
theorem dX11_west_49 : decode cX11_west 49 = .ok (.i2l, 1) := by decide +kernel
theorem dX11_west_50 : decode cX11_west 50 = .ok (.invokevirtual 340, 3) := by decide +kernel
theorem dX11_west_53 : decode cX11_west 53 = .ok (.aload_n 0, 1) := by decide +kernel
theorem dX11_west_54 : decode cX11_west 54 = .ok (.invokevirtual 98, 3) := by decide +kernel
theorem dX11_west_57 : decode cX11_west 57 = .ok (.ireturn, 1) := by decide +kernel
theorem dX11_speed_0 : decode cX11_speed 0 = .ok (.aload_n 0, 1) := by decide +kernel
theorem dX11_speed_1 : decode cX11_speed 1 = .ok (.iload_n 1, 1) := by decide +kernel
theorem dX11_speed_2 : decode cX11_speed 2 = .ok (.invokevirtual 337, 3) := by decide +kernel
theorem dX11_speed_5 : decode cX11_speed 5 = .ok (.ifCond .eq 15, 3) := by decide +kernel
theorem dX11_speed_8 : decode cX11_speed 8 = .ok (.iload_n 2, 1) := by decide +kernel
theorem dX11_speed_9 : decode cX11_speed 9 = .ok (.iconst 1, 1) := by decide +kernel
theorem dX11_speed_10 : decode cX11_speed 10 = .ok (.if_icmp .lt 10, 3) := by decide +kernel
theorem dX11_speed_13 : decode cX11_speed 13 = .ok (.iload_n 2, 1) := by decide +kernel
theorem dX11_speed_14 : decode cX11_speed 14 = .ok (.sipush 9999, 3) := by decide +kernel
theorem dX11_speed_17 : decode cX11_speed 17 = .ok (.if_icmp .le 9, 3) := by decide +kernel
theorem dX11_speed_20 : decode cX11_speed 20 = .ok (.aload_n 0, 1) := by decide +kernel
theorem dX11_speed_21 : decode cX11_speed 21 = .ok (.iconst 5, 1) := by decide +kernel
theorem dX11_speed_22 : decode cX11_speed 22 = .ok (.invokevirtual 91, 3) := by decide +kernel
theorem dX11_speed_25 : decode cX11_speed 25 = .ok (.ireturn, 1) := by decide +kernel
theorem dX11_speed_26 : decode cX11_speed 26 = .ok (.aload_n 0, 1) := by decide +kernel
theorem dX11_speed_27 : decode cX11_speed 27 = .ok (.iconst 0, 1) := by decide +kernel
theorem dX11_speed_28 : decode cX11_speed 28 = .ok (.iload_n 2, 1) := by decide +kernel
theorem dX11_speed_29 : decode cX11_speed 29 = .ok (.iload_n 1, 1) := by decide +kernel
theorem dX11_speed_30 : decode cX11_speed 30 = .ok (.isub, 1) := by decide +kernel
theorem dX11_speed_31 : decode cX11_speed 31 = .ok (.invokestatic 344, 3) := by decide +kernel
theorem dX11_speed_34 : decode cX11_speed 34 = .ok (.i2l, 1) := by decide +kernel
theorem dX11_speed_35 : decode cX11_speed 35 = .ok (.iload_n 2, 1) := by decide +kernel
theorem dX11_speed_36 : decode cX11_speed 36 = .ok (.i2l, 1) := by decide +kernel
theorem dX11_speed_37 : decode cX11_speed 37 = .ok (.invokevirtual 340, 3) := by decide +kernel
theorem dX11_speed_40 : decode cX11_speed 40 = .ok (.aload_n 0, 1) := by decide +kernel
theorem dX11_speed_41 : decode cX11_speed 41 = .ok (.invokevirtual 98, 3) := by decide +kernel
theorem dX11_speed_44 : decode cX11_speed 44 = .ok (.ireturn, 1) := by decide +kernel
theorem dX11_way_0 : decode cX11_way 0 = .ok (.aload_n 0, 1) := by decide +kernel
theorem dX11_way_1 : decode cX11_way 1 = .ok (.iload_n 1, 1) := by decide +kernel
theorem dX11_way_2 : decode cX11_way 2 = .ok (.invokevirtual 87, 3) := by decide +kernel
theorem dX11_way_5 : decode cX11_way 5 = .ok (.ifCond .ne 9, 3) := by decide +kernel
theorem dX11_way_8 : decode cX11_way 8 = .ok (.aload_n 0, 1) := by decide +kernel
theorem dX11_way_9 : decode cX11_way 9 = .ok (.iconst 1, 1) := by decide +kernel
theorem dX11_way_10 : decode cX11_way 10 = .ok (.invokevirtual 112, 3) := by decide +kernel
theorem dX11_way_13 : decode cX11_way 13 = .ok (.ireturn, 1) := by decide +kernel
theorem dX11_way_14 : decode cX11_way 14 = .ok (.aload_n 0, 1) := by decide +kernel
theorem dX11_way_15 : decode cX11_way 15 = .ok (.getfield 15, 3) := by decide +kernel
theorem dX11_way_18 : decode cX11_way 18 = .ok (.iload_n 1, 1) := by decide +kernel
theorem dX11_way_19 : decode cX11_way 19 = .ok (.aaload, 1) := by decide +kernel
theorem dX11_way_20 : decode cX11_way 20 = .ok (.astore 4, 2) := by decide +kernel
theorem dX11_way_22 : decode cX11_way 22 = .ok (.aload 4, 2) := by decide +kernel
theorem dX11_way_24 : decode cX11_way 24 = .ok (.invokevirtual 102, 3) := by decide +kernel
theorem dX11_way_27 : decode cX11_way 27 = .ok (.ifCond .eq 9, 3) := by decide +kernel
theorem dX11_way_30 : decode cX11_way 30 = .ok (.aload_n 0, 1) := by decide +kernel
theorem dX11_way_31 : decode cX11_way 31 = .ok (.iconst 3, 1) := by decide +kernel
theorem dX11_way_32 : decode cX11_way 32 = .ok (.invokevirtual 112, 3) := by decide +kernel
theorem dX11_way_35 : decode cX11_way 35 = .ok (.ireturn, 1) := by decide +kernel
theorem dX11_way_36 : decode cX11_way 36 = .ok (.iload_n 2, 1) := by decide +kernel
theorem dX11_way_37 : decode cX11_way 37 = .ok (.iconst 1, 1) := by decide +kernel
theorem dX11_way_38 : decode cX11_way 38 = .ok (.if_icmp .lt 17, 3) := by decide +kernel
theorem dX11_way_41 : decode cX11_way 41 = .ok (.iload_n 2, 1) := by decide +kernel
theorem dX11_way_42 : decode cX11_way 42 = .ok (.bipush 30, 2) := by decide +kernel
theorem dX11_way_44 : decode cX11_way 44 = .ok (.if_icmp .gt 11, 3) := by decide +kernel
theorem dX11_way_47 : decode cX11_way 47 = .ok (.aload_n 0, 1) := by decide +kernel
theorem dX11_way_48 : decode cX11_way 48 = .ok (.iload_n 3, 1) := by decide +kernel
theorem dX11_way_49 : decode cX11_way 49 = .ok (.invokevirtual 337, 3) := by decide +kernel
theorem dX11_way_52 : decode cX11_way 52 = .ok (.ifCond .ne 9, 3) := by decide +kernel
theorem dX11_way_55 : decode cX11_way 55 = .ok (.aload_n 0, 1) := by decide +kernel
theorem dX11_way_56 : decode cX11_way 56 = .ok (.iconst 5, 1) := by decide +kernel
theorem dX11_way_57 : decode cX11_way 57 = .ok (.invokevirtual 112, 3) := by decide +kernel
theorem dX11_way_60 : decode cX11_way 60 = .ok (.ireturn, 1) := by decide +kernel
theorem dX11_way_61 : decode cX11_way 61 = .ok (.aload 4, 2) := by decide +kernel
theorem dX11_way_63 : decode cX11_way 63 = .ok (.iconst 0, 1) := by decide +kernel
theorem dX11_way_64 : decode cX11_way 64 = .ok (.iconst 2, 1) := by decide +kernel
theorem dX11_way_65 : decode cX11_way 65 = .ok (.iload_n 2, 1) := by decide +kernel
theorem dX11_way_66 : decode cX11_way 66 = .ok (.imul, 1) := by decide +kernel
theorem dX11_way_67 : decode cX11_way 67 = .ok (.invokevirtual 123, 3) := by decide +kernel
theorem dX11_way_70 : decode cX11_way 70 = .ok (.ifCond .ne 9, 3) := by decide +kernel
theorem dX11_way_73 : decode cX11_way 73 = .ok (.aload_n 0, 1) := by decide +kernel
theorem dX11_way_74 : decode cX11_way 74 = .ok (.iconst 4, 1) := by decide +kernel
theorem dX11_way_75 : decode cX11_way 75 = .ok (.invokevirtual 112, 3) := by decide +kernel
theorem dX11_way_78 : decode cX11_way 78 = .ok (.ireturn, 1) := by decide +kernel
theorem dX11_way_79 : decode cX11_way 79 = .ok (.aload 4, 2) := by decide +kernel
theorem dX11_way_81 : decode cX11_way 81 = .ok (.iconst 2, 1) := by decide +kernel
theorem dX11_way_82 : decode cX11_way 82 = .ok (.iload_n 2, 1) := by decide +kernel
theorem dX11_way_83 : decode cX11_way 83 = .ok (.imul, 1) := by decide +kernel
theorem dX11_way_84 : decode cX11_way 84 = .ok (.lconst 0, 1) := by decide +kernel
theorem dX11_way_85 : decode cX11_way 85 = .ok (.ldc2_w 349, 3) := by decide +kernel
theorem dX11_way_88 : decode cX11_way 88 = .ok (.invokevirtual 351, 3) := by decide +kernel
theorem dX11_way_91 : decode cX11_way 91 = .ok (.ifCond .ne 9, 3) := by decide +kernel
theorem dX11_way_94 : decode cX11_way 94 = .ok (.aload_n 0, 1) := by decide +kernel
theorem dX11_way_95 : decode cX11_way 95 = .ok (.iconst 5, 1) := by decide +kernel
theorem dX11_way_96 : decode cX11_way 96 = .ok (.invokevirtual 112, 3) := by decide +kernel
theorem dX11_way_99 : decode cX11_way 99 = .ok (.ireturn, 1) := by decide +kernel
theorem dX11_way_100 : decode cX11_way 100 = .ok (.iload_n 3, 1) := by decide +kernel
theorem dX11_way_101 : decode cX11_way 101 = .ok (.i2l, 1) := by decide +kernel
theorem dX11_way_102 : decode cX11_way 102 = .ok (.lstore 5, 2) := by decide +kernel
theorem dX11_way_104 : decode cX11_way 104 = .ok (.iconst 0, 1) := by decide +kernel
theorem dX11_way_105 : decode cX11_way 105 = .ok (.istore 7, 2) := by decide +kernel
theorem dX11_way_107 : decode cX11_way 107 = .ok (.iload 7, 2) := by decide +kernel
theorem dX11_way_109 : decode cX11_way 109 = .ok (.iload_n 2, 1) := by decide +kernel
theorem dX11_way_110 : decode cX11_way 110 = .ok (.if_icmp .ge 49, 3) := by decide +kernel
theorem dX11_way_113 : decode cX11_way 113 = .ok (.lload 5, 2) := by decide +kernel
theorem dX11_way_115 : decode cX11_way 115 = .ok (.aload 4, 2) := by decide +kernel
theorem dX11_way_117 : decode cX11_way 117 = .ok (.iconst 2, 1) := by decide +kernel
theorem dX11_way_118 : decode cX11_way 118 = .ok (.iload 7, 2) := by decide +kernel
theorem dX11_way_120 : decode cX11_way 120 = .ok (.imul, 1) := by decide +kernel
theorem dX11_way_121 : decode cX11_way 121 = .ok (.invokevirtual 116, 3) := by decide +kernel
theorem dX11_way_124 : decode cX11_way 124 = .ok (.lsub, 1) := by decide +kernel
theorem dX11_way_125 : decode cX11_way 125 = .ok (.aload 4, 2) := by decide +kernel
theorem dX11_way_127 : decode cX11_way 127 = .ok (.iconst 2, 1) := by decide +kernel
theorem dX11_way_128 : decode cX11_way 128 = .ok (.iload 7, 2) := by decide +kernel
theorem dX11_way_130 : decode cX11_way 130 = .ok (.imul, 1) := by decide +kernel
theorem dX11_way_131 : decode cX11_way 131 = .ok (.iconst 1, 1) := by decide +kernel
theorem dX11_way_132 : decode cX11_way 132 = .ok (.iadd, 1) := by decide +kernel
theorem dX11_way_133 : decode cX11_way 133 = .ok (.invokevirtual 116, 3) := by decide +kernel
theorem dX11_way_136 : decode cX11_way 136 = .ok (.ladd, 1) := by decide +kernel
theorem dX11_way_137 : decode cX11_way 137 = .ok (.lstore 5, 2) := by decide +kernel
theorem dX11_way_139 : decode cX11_way 139 = .ok (.lload 5, 2) := by decide +kernel
theorem dX11_way_141 : decode cX11_way 141 = .ok (.lconst 0, 1) := by decide +kernel
theorem dX11_way_142 : decode cX11_way 142 = .ok (.lcmp, 1) := by decide +kernel
theorem dX11_way_143 : decode cX11_way 143 = .ok (.ifCond .gt 10, 3) := by decide +kernel
theorem dX11_way_146 : decode cX11_way 146 = .ok (.aload_n 0, 1) := by decide +kernel
theorem dX11_way_147 : decode cX11_way 147 = .ok (.iload 7, 2) := by decide +kernel
theorem dX11_way_149 : decode cX11_way 149 = .ok (.invokevirtual 170, 3) := by decide +kernel
theorem dX11_way_152 : decode cX11_way 152 = .ok (.ireturn, 1) := by decide +kernel
theorem dX11_way_153 : decode cX11_way 153 = .ok (.iinc 7 1, 3) := by decide +kernel
theorem dX11_way_156 : decode cX11_way 156 = .ok (.goto (-49), 3) := by decide +kernel
theorem dX11_way_159 : decode cX11_way 159 = .ok (.aload_n 0, 1) := by decide +kernel
theorem dX11_way_160 : decode cX11_way 160 = .ok (.iconst (-1), 1) := by decide +kernel
theorem dX11_way_161 : decode cX11_way 161 = .ok (.invokevirtual 170, 3) := by decide +kernel
theorem dX11_way_164 : decode cX11_way 164 = .ok (.ireturn, 1) := by decide +kernel
theorem dX11_judged_0 : decode cX11_judged 0 = .ok (.iload_n 1, 1) := by decide +kernel
theorem dX11_judged_1 : decode cX11_judged 1 = .ok (.ifCond .lt 8, 3) := by decide +kernel
theorem dX11_judged_4 : decode cX11_judged 4 = .ok (.iload_n 1, 1) := by decide +kernel
theorem dX11_judged_5 : decode cX11_judged 5 = .ok (.iconst 2, 1) := by decide +kernel
theorem dX11_judged_6 : decode cX11_judged 6 = .ok (.if_icmp .le 9, 3) := by decide +kernel
theorem dX11_judged_9 : decode cX11_judged 9 = .ok (.aload_n 0, 1) := by decide +kernel
theorem dX11_judged_10 : decode cX11_judged 10 = .ok (.iconst 5, 1) := by decide +kernel
theorem dX11_judged_11 : decode cX11_judged 11 = .ok (.invokevirtual 112, 3) := by decide +kernel
theorem dX11_judged_14 : decode cX11_judged 14 = .ok (.ireturn, 1) := by decide +kernel
theorem dX11_judged_15 : decode cX11_judged 15 = .ok (.aload_n 0, 1) := by decide +kernel
theorem dX11_judged_16 : decode cX11_judged 16 = .ok (.getfield 75, 3) := by decide +kernel
theorem dX11_judged_19 : decode cX11_judged 19 = .ok (.aload_n 0, 1) := by decide +kernel
theorem dX11_judged_20 : decode cX11_judged 20 = .ok (.invokevirtual 154, 3) := by decide +kernel
theorem dX11_judged_23 : decode cX11_judged 23 = .ok (.aload_n 0, 1) := by decide +kernel
theorem dX11_judged_24 : decode cX11_judged 24 = .ok (.getfield 54, 3) := by decide +kernel
theorem dX11_judged_27 : decode cX11_judged 27 = .ok (.invokevirtual 355, 3) := by decide +kernel
theorem dX11_judged_30 : decode cX11_judged 30 = .ok (.iload_n 1, 1) := by decide +kernel
theorem dX11_judged_31 : decode cX11_judged 31 = .ok (.ifCond .ne 15, 3) := by decide +kernel
theorem dX11_judged_34 : decode cX11_judged 34 = .ok (.aload_n 0, 1) := by decide +kernel
theorem dX11_judged_35 : decode cX11_judged 35 = .ok (.aload_n 0, 1) := by decide +kernel
theorem dX11_judged_36 : decode cX11_judged 36 = .ok (.getfield 75, 3) := by decide +kernel
theorem dX11_judged_39 : decode cX11_judged 39 = .ok (.getfield 359, 3) := by decide +kernel
theorem dX11_judged_42 : decode cX11_judged 42 = .ok (.invokevirtual 170, 3) := by decide +kernel
theorem dX11_judged_45 : decode cX11_judged 45 = .ok (.ireturn, 1) := by decide +kernel
theorem dX11_judged_46 : decode cX11_judged 46 = .ok (.iload_n 1, 1) := by decide +kernel
theorem dX11_judged_47 : decode cX11_judged 47 = .ok (.iconst 1, 1) := by decide +kernel
theorem dX11_judged_48 : decode cX11_judged 48 = .ok (.if_icmp .ne 34, 3) := by decide +kernel
theorem dX11_judged_51 : decode cX11_judged 51 = .ok (.aload_n 0, 1) := by decide +kernel
theorem dX11_judged_52 : decode cX11_judged 52 = .ok (.getfield 75, 3) := by decide +kernel
theorem dX11_judged_55 : decode cX11_judged 55 = .ok (.getfield 359, 3) := by decide +kernel
theorem dX11_judged_58 : decode cX11_judged 58 = .ok (.ifCond .ne 12, 3) := by decide +kernel
theorem dX11_judged_61 : decode cX11_judged 61 = .ok (.aload_n 0, 1) := by decide +kernel
theorem dX11_judged_62 : decode cX11_judged 62 = .ok (.bipush 8, 2) := by decide +kernel
theorem dX11_judged_64 : decode cX11_judged 64 = .ok (.invokevirtual 112, 3) := by decide +kernel
theorem dX11_judged_67 : decode cX11_judged 67 = .ok (.goto 14, 3) := by decide +kernel
theorem dX11_judged_70 : decode cX11_judged 70 = .ok (.aload_n 0, 1) := by decide +kernel
theorem dX11_judged_71 : decode cX11_judged 71 = .ok (.aload_n 0, 1) := by decide +kernel
theorem dX11_judged_72 : decode cX11_judged 72 = .ok (.getfield 75, 3) := by decide +kernel
theorem dX11_judged_75 : decode cX11_judged 75 = .ok (.getfield 362, 3) := by decide +kernel
theorem dX11_judged_78 : decode cX11_judged 78 = .ok (.invokevirtual 170, 3) := by decide +kernel
theorem dX11_judged_81 : decode cX11_judged 81 = .ok (.ireturn, 1) := by decide +kernel
theorem dX11_judged_82 : decode cX11_judged 82 = .ok (.aload_n 0, 1) := by decide +kernel
theorem dX11_judged_83 : decode cX11_judged 83 = .ok (.getfield 75, 3) := by decide +kernel
theorem dX11_judged_86 : decode cX11_judged 86 = .ok (.getfield 359, 3) := by decide +kernel
theorem dX11_judged_89 : decode cX11_judged 89 = .ok (.bipush 6, 2) := by decide +kernel
theorem dX11_judged_91 : decode cX11_judged 91 = .ok (.if_icmp .ne 17, 3) := by decide +kernel
theorem dX11_judged_94 : decode cX11_judged 94 = .ok (.aload_n 0, 1) := by decide +kernel
theorem dX11_judged_95 : decode cX11_judged 95 = .ok (.aload_n 0, 1) := by decide +kernel
theorem dX11_judged_96 : decode cX11_judged 96 = .ok (.getfield 75, 3) := by decide +kernel
theorem dX11_judged_99 : decode cX11_judged 99 = .ok (.getfield 365, 3) := by decide +kernel
theorem dX11_judged_102 : decode cX11_judged 102 = .ok (.invokevirtual 170, 3) := by decide +kernel
theorem dX11_judged_105 : decode cX11_judged 105 = .ok (.goto 9, 3) := by decide +kernel
theorem dX11_judged_108 : decode cX11_judged 108 = .ok (.aload_n 0, 1) := by decide +kernel
theorem dX11_judged_109 : decode cX11_judged 109 = .ok (.bipush 8, 2) := by decide +kernel
theorem dX11_judged_111 : decode cX11_judged 111 = .ok (.invokevirtual 112, 3) := by decide +kernel
theorem dX11_judged_114 : decode cX11_judged 114 = .ok (.ireturn, 1) := by decide +kernel
theorem dX11_done_0 : decode cX11_done 0 = .ok (.aload_n 0, 1) := by decide +kernel
theorem dX11_done_1 : decode cX11_done 1 = .ok (.iload_n 1, 1) := by decide +kernel
theorem dX11_done_2 : decode cX11_done 2 = .ok (.invokevirtual 254, 3) := by decide +kernel
theorem dX11_done_5 : decode cX11_done 5 = .ok (.ifCond .ne 9, 3) := by decide +kernel
theorem dX11_done_8 : decode cX11_done 8 = .ok (.aload_n 0, 1) := by decide +kernel
theorem dX11_done_9 : decode cX11_done 9 = .ok (.iconst 2, 1) := by decide +kernel
theorem dX11_done_10 : decode cX11_done 10 = .ok (.invokevirtual 112, 3) := by decide +kernel
theorem dX11_done_13 : decode cX11_done 13 = .ok (.ireturn, 1) := by decide +kernel
theorem dX11_done_14 : decode cX11_done 14 = .ok (.aload_n 0, 1) := by decide +kernel
theorem dX11_done_15 : decode cX11_done 15 = .ok (.iload_n 2, 1) := by decide +kernel
theorem dX11_done_16 : decode cX11_done 16 = .ok (.invokevirtual 260, 3) := by decide +kernel
theorem dX11_done_19 : decode cX11_done 19 = .ok (.ifCond .ne 9, 3) := by decide +kernel
theorem dX11_done_22 : decode cX11_done 22 = .ok (.aload_n 0, 1) := by decide +kernel
theorem dX11_done_23 : decode cX11_done 23 = .ok (.iconst 5, 1) := by decide +kernel
theorem dX11_done_24 : decode cX11_done 24 = .ok (.invokevirtual 112, 3) := by decide +kernel
theorem dX11_done_27 : decode cX11_done 27 = .ok (.ireturn, 1) := by decide +kernel
theorem dX11_done_28 : decode cX11_done 28 = .ok (.aload_n 0, 1) := by decide +kernel
theorem dX11_done_29 : decode cX11_done 29 = .ok (.invokevirtual 154, 3) := by decide +kernel
theorem dX11_done_32 : decode cX11_done 32 = .ok (.getfield 190, 3) := by decide +kernel
theorem dX11_done_35 : decode cX11_done 35 = .ok (.getfield 368, 3) := by decide +kernel
theorem dX11_done_38 : decode cX11_done 38 = .ok (.ifCond .ne 10, 3) := by decide +kernel
theorem dX11_done_41 : decode cX11_done 41 = .ok (.aload_n 0, 1) := by decide +kernel
theorem dX11_done_42 : decode cX11_done 42 = .ok (.bipush 8, 2) := by decide +kernel
theorem dX11_done_44 : decode cX11_done 44 = .ok (.invokevirtual 112, 3) := by decide +kernel
theorem dX11_done_47 : decode cX11_done 47 = .ok (.ireturn, 1) := by decide +kernel
theorem dX11_done_48 : decode cX11_done 48 = .ok (.aload_n 0, 1) := by decide +kernel
theorem dX11_done_49 : decode cX11_done 49 = .ok (.aload_n 0, 1) := by decide +kernel
theorem dX11_done_50 : decode cX11_done 50 = .ok (.getfield 75, 3) := by decide +kernel
theorem dX11_done_53 : decode cX11_done 53 = .ok (.aload_n 0, 1) := by decide +kernel
theorem dX11_done_54 : decode cX11_done 54 = .ok (.invokevirtual 154, 3) := by decide +kernel
theorem dX11_done_57 : decode cX11_done 57 = .ok (.aload_n 0, 1) := by decide +kernel
theorem dX11_done_58 : decode cX11_done 58 = .ok (.getfield 54, 3) := by decide +kernel
theorem dX11_done_61 : decode cX11_done 61 = .ok (.iload_n 1, 1) := by decide +kernel
theorem dX11_done_62 : decode cX11_done 62 = .ok (.iload_n 2, 1) := by decide +kernel
theorem dX11_done_63 : decode cX11_done 63 = .ok (.invokevirtual 371, 3) := by decide +kernel
theorem dX11_done_66 : decode cX11_done 66 = .ok (.invokevirtual 170, 3) := by decide +kernel
theorem dX11_done_69 : decode cX11_done 69 = .ok (.ireturn, 1) := by decide +kernel
theorem dX11_there_0 : decode cX11_there 0 = .ok (.iload_n 1, 1) := by decide +kernel
theorem dX11_there_1 : decode cX11_there 1 = .ok (.ifCond .lt 9, 3) := by decide +kernel
theorem dX11_there_4 : decode cX11_there 4 = .ok (.iload_n 1, 1) := by decide +kernel
theorem dX11_there_5 : decode cX11_there 5 = .ok (.bipush 25, 2) := by decide +kernel
theorem dX11_there_7 : decode cX11_there 7 = .ok (.if_icmp .le 9, 3) := by decide +kernel
theorem dX11_there_10 : decode cX11_there 10 = .ok (.aload_n 0, 1) := by decide +kernel
theorem dX11_there_11 : decode cX11_there 11 = .ok (.iconst 5, 1) := by decide +kernel
theorem dX11_there_12 : decode cX11_there 12 = .ok (.invokevirtual 112, 3) := by decide +kernel
theorem dX11_there_15 : decode cX11_there 15 = .ok (.ireturn, 1) := by decide +kernel
theorem dX11_there_16 : decode cX11_there 16 = .ok (.aload_n 0, 1) := by decide +kernel
theorem dX11_there_17 : decode cX11_there 17 = .ok (.getfield 75, 3) := by decide +kernel
theorem dX11_there_20 : decode cX11_there 20 = .ok (.getfield 375, 3) := by decide +kernel
theorem dX11_there_23 : decode cX11_there 23 = .ok (.ifCond .ne 10, 3) := by decide +kernel
theorem dX11_there_26 : decode cX11_there 26 = .ok (.aload_n 0, 1) := by decide +kernel
theorem dX11_there_27 : decode cX11_there 27 = .ok (.bipush 8, 2) := by decide +kernel
theorem dX11_there_29 : decode cX11_there 29 = .ok (.invokevirtual 112, 3) := by decide +kernel
theorem dX11_there_32 : decode cX11_there 32 = .ok (.ireturn, 1) := by decide +kernel
theorem dX11_there_33 : decode cX11_there 33 = .ok (.aload_n 0, 1) := by decide +kernel
theorem dX11_there_34 : decode cX11_there 34 = .ok (.aload_n 0, 1) := by decide +kernel
theorem dX11_there_35 : decode cX11_there 35 = .ok (.getfield 75, 3) := by decide +kernel
theorem dX11_there_38 : decode cX11_there 38 = .ok (.getfield 378, 3) := by decide +kernel
theorem dX11_there_41 : decode cX11_there 41 = .ok (.iload_n 1, 1) := by decide +kernel
theorem dX11_there_42 : decode cX11_there 42 = .ok (.iaload, 1) := by decide +kernel
theorem dX11_there_43 : decode cX11_there 43 = .ok (.invokevirtual 170, 3) := by decide +kernel
theorem dX11_there_46 : decode cX11_there 46 = .ok (.ireturn, 1) := by decide +kernel
theorem dX11_lives_0 : decode cX11_lives 0 = .ok (.iload_n 1, 1) := by decide +kernel
theorem dX11_lives_1 : decode cX11_lives 1 = .ok (.iconst 1, 1) := by decide +kernel
theorem dX11_lives_2 : decode cX11_lives 2 = .ok (.if_icmp .lt 9, 3) := by decide +kernel
theorem dX11_lives_5 : decode cX11_lives 5 = .ok (.iload_n 1, 1) := by decide +kernel
theorem dX11_lives_6 : decode cX11_lives 6 = .ok (.bipush 99, 2) := by decide +kernel
theorem dX11_lives_8 : decode cX11_lives 8 = .ok (.if_icmp .le 9, 3) := by decide +kernel
theorem dX11_lives_11 : decode cX11_lives 11 = .ok (.aload_n 0, 1) := by decide +kernel
theorem dX11_lives_12 : decode cX11_lives 12 = .ok (.iconst 5, 1) := by decide +kernel
theorem dX11_lives_13 : decode cX11_lives 13 = .ok (.invokevirtual 112, 3) := by decide +kernel
theorem dX11_lives_16 : decode cX11_lives 16 = .ok (.ireturn, 1) := by decide +kernel
theorem dX11_lives_17 : decode cX11_lives 17 = .ok (.aload_n 0, 1) := by decide +kernel
theorem dX11_lives_18 : decode cX11_lives 18 = .ok (.invokevirtual 154, 3) := by decide +kernel
theorem dX11_lives_21 : decode cX11_lives 21 = .ok (.getfield 190, 3) := by decide +kernel
theorem dX11_lives_24 : decode cX11_lives 24 = .ok (.getfield 368, 3) := by decide +kernel
theorem dX11_lives_27 : decode cX11_lives 27 = .ok (.ifCond .ne 10, 3) := by decide +kernel
theorem dX11_lives_30 : decode cX11_lives 30 = .ok (.aload_n 0, 1) := by decide +kernel
theorem dX11_lives_31 : decode cX11_lives 31 = .ok (.bipush 8, 2) := by decide +kernel
theorem dX11_lives_33 : decode cX11_lives 33 = .ok (.invokevirtual 112, 3) := by decide +kernel
theorem dX11_lives_36 : decode cX11_lives 36 = .ok (.ireturn, 1) := by decide +kernel
theorem dX11_lives_37 : decode cX11_lives 37 = .ok (.aload_n 0, 1) := by decide +kernel
theorem dX11_lives_38 : decode cX11_lives 38 = .ok (.aload_n 0, 1) := by decide +kernel
theorem dX11_lives_39 : decode cX11_lives 39 = .ok (.getfield 75, 3) := by decide +kernel
theorem dX11_lives_42 : decode cX11_lives 42 = .ok (.aload_n 0, 1) := by decide +kernel
theorem dX11_lives_43 : decode cX11_lives 43 = .ok (.invokevirtual 154, 3) := by decide +kernel
theorem dX11_lives_46 : decode cX11_lives 46 = .ok (.aload_n 0, 1) := by decide +kernel
theorem dX11_lives_47 : decode cX11_lives 47 = .ok (.getfield 54, 3) := by decide +kernel
theorem dX11_lives_50 : decode cX11_lives 50 = .ok (.iload_n 1, 1) := by decide +kernel
theorem dX11_lives_51 : decode cX11_lives 51 = .ok (.iconst (-1), 1) := by decide +kernel
theorem dX11_lives_52 : decode cX11_lives 52 = .ok (.invokevirtual 381, 3) := by decide +kernel
theorem dX11_lives_55 : decode cX11_lives 55 = .ok (.invokevirtual 170, 3) := by decide +kernel
theorem dX11_lives_58 : decode cX11_lives 58 = .ok (.ireturn, 1) := by decide +kernel
theorem dX11_ill_0 : decode cX11_ill 0 = .ok (.iload_n 1, 1) := by decide +kernel
theorem dX11_ill_1 : decode cX11_ill 1 = .ok (.ifCond .lt 21, 3) := by decide +kernel
theorem dX11_ill_4 : decode cX11_ill 4 = .ok (.iload_n 1, 1) := by decide +kernel
theorem dX11_ill_5 : decode cX11_ill 5 = .ok (.sipush 9999, 3) := by decide +kernel
theorem dX11_ill_8 : decode cX11_ill 8 = .ok (.if_icmp .gt 14, 3) := by decide +kernel
theorem dX11_ill_11 : decode cX11_ill 11 = .ok (.iload_n 2, 1) := by decide +kernel
theorem dX11_ill_12 : decode cX11_ill 12 = .ok (.iconst 1, 1) := by decide +kernel
theorem dX11_ill_13 : decode cX11_ill 13 = .ok (.if_icmp .lt 9, 3) := by decide +kernel
theorem dX11_ill_16 : decode cX11_ill 16 = .ok (.iload_n 2, 1) := by decide +kernel
theorem dX11_ill_17 : decode cX11_ill 17 = .ok (.bipush 99, 2) := by decide +kernel
theorem dX11_ill_19 : decode cX11_ill 19 = .ok (.if_icmp .le 9, 3) := by decide +kernel
theorem dX11_ill_22 : decode cX11_ill 22 = .ok (.aload_n 0, 1) := by decide +kernel
theorem dX11_ill_23 : decode cX11_ill 23 = .ok (.iconst 5, 1) := by decide +kernel
theorem dX11_ill_24 : decode cX11_ill 24 = .ok (.invokevirtual 112, 3) := by decide +kernel
theorem dX11_ill_27 : decode cX11_ill 27 = .ok (.ireturn, 1) := by decide +kernel
theorem dX11_ill_28 : decode cX11_ill 28 = .ok (.aload_n 0, 1) := by decide +kernel
theorem dX11_ill_29 : decode cX11_ill 29 = .ok (.invokevirtual 154, 3) := by decide +kernel
theorem dX11_ill_32 : decode cX11_ill 32 = .ok (.getfield 190, 3) := by decide +kernel
theorem dX11_ill_35 : decode cX11_ill 35 = .ok (.getfield 368, 3) := by decide +kernel
theorem dX11_ill_38 : decode cX11_ill 38 = .ok (.ifCond .ne 10, 3) := by decide +kernel
theorem dX11_ill_41 : decode cX11_ill 41 = .ok (.aload_n 0, 1) := by decide +kernel
theorem dX11_ill_42 : decode cX11_ill 42 = .ok (.bipush 8, 2) := by decide +kernel
theorem dX11_ill_44 : decode cX11_ill 44 = .ok (.invokevirtual 112, 3) := by decide +kernel
theorem dX11_ill_47 : decode cX11_ill 47 = .ok (.ireturn, 1) := by decide +kernel
theorem dX11_ill_48 : decode cX11_ill 48 = .ok (.aload_n 0, 1) := by decide +kernel
theorem dX11_ill_49 : decode cX11_ill 49 = .ok (.aload_n 0, 1) := by decide +kernel
theorem dX11_ill_50 : decode cX11_ill 50 = .ok (.getfield 75, 3) := by decide +kernel
theorem dX11_ill_53 : decode cX11_ill 53 = .ok (.aload_n 0, 1) := by decide +kernel
theorem dX11_ill_54 : decode cX11_ill 54 = .ok (.invokevirtual 154, 3) := by decide +kernel
theorem dX11_ill_57 : decode cX11_ill 57 = .ok (.aload_n 0, 1) := by decide +kernel
theorem dX11_ill_58 : decode cX11_ill 58 = .ok (.getfield 54, 3) := by decide +kernel
theorem dX11_ill_61 : decode cX11_ill 61 = .ok (.iload_n 2, 1) := by decide +kernel
theorem dX11_ill_62 : decode cX11_ill 62 = .ok (.iload_n 1, 1) := by decide +kernel
theorem dX11_ill_63 : decode cX11_ill 63 = .ok (.invokevirtual 381, 3) := by decide +kernel
theorem dX11_ill_66 : decode cX11_ill 66 = .ok (.invokevirtual 170, 3) := by decide +kernel
theorem dX11_ill_69 : decode cX11_ill 69 = .ok (.ireturn, 1) := by decide +kernel
theorem dX11_lived_0 : decode cX11_lived 0 = .ok (.iload_n 1, 1) := by decide +kernel
theorem dX11_lived_1 : decode cX11_lived 1 = .ok (.ifCond .lt 8, 3) := by decide +kernel
theorem dX11_lived_4 : decode cX11_lived 4 = .ok (.iload_n 1, 1) := by decide +kernel
theorem dX11_lived_5 : decode cX11_lived 5 = .ok (.iconst 3, 1) := by decide +kernel
theorem dX11_lived_6 : decode cX11_lived 6 = .ok (.if_icmp .le 9, 3) := by decide +kernel
theorem dX11_lived_9 : decode cX11_lived 9 = .ok (.aload_n 0, 1) := by decide +kernel
theorem dX11_lived_10 : decode cX11_lived 10 = .ok (.iconst 5, 1) := by decide +kernel
theorem dX11_lived_11 : decode cX11_lived 11 = .ok (.invokevirtual 112, 3) := by decide +kernel
theorem dX11_lived_14 : decode cX11_lived 14 = .ok (.ireturn, 1) := by decide +kernel
theorem dX11_lived_15 : decode cX11_lived 15 = .ok (.aload_n 0, 1) := by decide +kernel
theorem dX11_lived_16 : decode cX11_lived 16 = .ok (.getfield 75, 3) := by decide +kernel
theorem dX11_lived_19 : decode cX11_lived 19 = .ok (.getfield 384, 3) := by decide +kernel
theorem dX11_lived_22 : decode cX11_lived 22 = .ok (.ifCond .ne 10, 3) := by decide +kernel
theorem dX11_lived_25 : decode cX11_lived 25 = .ok (.aload_n 0, 1) := by decide +kernel
theorem dX11_lived_26 : decode cX11_lived 26 = .ok (.bipush 8, 2) := by decide +kernel
theorem dX11_lived_28 : decode cX11_lived 28 = .ok (.invokevirtual 112, 3) := by decide +kernel
theorem dX11_lived_31 : decode cX11_lived 31 = .ok (.ireturn, 1) := by decide +kernel
theorem dX11_lived_32 : decode cX11_lived 32 = .ok (.aload_n 0, 1) := by decide +kernel
theorem dX11_lived_33 : decode cX11_lived 33 = .ok (.aload_n 0, 1) := by decide +kernel
theorem dX11_lived_34 : decode cX11_lived 34 = .ok (.getfield 75, 3) := by decide +kernel
theorem dX11_lived_37 : decode cX11_lived 37 = .ok (.getfield 387, 3) := by decide +kernel
theorem dX11_lived_40 : decode cX11_lived 40 = .ok (.iload_n 1, 1) := by decide +kernel
theorem dX11_lived_41 : decode cX11_lived 41 = .ok (.iaload, 1) := by decide +kernel
theorem dX11_lived_42 : decode cX11_lived 42 = .ok (.invokevirtual 170, 3) := by decide +kernel
theorem dX11_lived_45 : decode cX11_lived 45 = .ok (.ireturn, 1) := by decide +kernel
theorem dX11_mark_0 : decode cX11_mark 0 = .ok (.aload_n 0, 1) := by decide +kernel
theorem dX11_mark_1 : decode cX11_mark 1 = .ok (.getfield 158, 3) := by decide +kernel
theorem dX11_mark_4 : decode cX11_mark 4 = .ok (.iconst 3, 1) := by decide +kernel
theorem dX11_mark_5 : decode cX11_mark 5 = .ok (.if_icmp .lt 10, 3) := by decide +kernel
theorem dX11_mark_8 : decode cX11_mark 8 = .ok (.aload_n 0, 1) := by decide +kernel
theorem dX11_mark_9 : decode cX11_mark 9 = .ok (.bipush 7, 2) := by decide +kernel
theorem dX11_mark_11 : decode cX11_mark 11 = .ok (.invokevirtual 112, 3) := by decide +kernel
theorem dX11_mark_14 : decode cX11_mark 14 = .ok (.ireturn, 1) := by decide +kernel
theorem dX11_mark_15 : decode cX11_mark 15 = .ok (.aload_n 0, 1) := by decide +kernel
theorem dX11_mark_16 : decode cX11_mark 16 = .ok (.getfield 21, 3) := by decide +kernel
theorem dX11_mark_19 : decode cX11_mark 19 = .ok (.aload_n 0, 1) := by decide +kernel
theorem dX11_mark_20 : decode cX11_mark 20 = .ok (.getfield 158, 3) := by decide +kernel
theorem dX11_mark_23 : decode cX11_mark 23 = .ok (.iconst 1, 1) := by decide +kernel
theorem dX11_mark_24 : decode cX11_mark 24 = .ok (.iadd, 1) := by decide +kernel
theorem dX11_mark_25 : decode cX11_mark 25 = .ok (.aaload, 1) := by decide +kernel
theorem dX11_mark_26 : decode cX11_mark 26 = .ok (.aload_n 0, 1) := by decide +kernel
theorem dX11_mark_27 : decode cX11_mark 27 = .ok (.invokevirtual 154, 3) := by decide +kernel
theorem dX11_mark_30 : decode cX11_mark 30 = .ok (.invokevirtual 390, 3) := by decide +kernel
theorem dX11_mark_33 : decode cX11_mark 33 = .ok (.aload_n 0, 1) := by decide +kernel
theorem dX11_mark_34 : decode cX11_mark 34 = .ok (.dup, 1) := by decide +kernel
theorem dX11_mark_35 : decode cX11_mark 35 = .ok (.getfield 158, 3) := by decide +kernel
theorem dX11_mark_38 : decode cX11_mark 38 = .ok (.iconst 1, 1) := by decide +kernel
theorem dX11_mark_39 : decode cX11_mark 39 = .ok (.iadd, 1) := by decide +kernel
theorem dX11_mark_40 : decode cX11_mark 40 = .ok (.putfield 158, 3) := by decide +kernel
theorem dX11_mark_43 : decode cX11_mark 43 = .ok (.aload_n 0, 1) := by decide +kernel
theorem dX11_mark_44 : decode cX11_mark 44 = .ok (.aload_n 0, 1) := by decide +kernel
theorem dX11_mark_45 : decode cX11_mark 45 = .ok (.getfield 158, 3) := by decide +kernel
theorem dX11_mark_48 : decode cX11_mark 48 = .ok (.invokevirtual 170, 3) := by decide +kernel
theorem dX11_mark_51 : decode cX11_mark 51 = .ok (.ireturn, 1) := by decide +kernel
theorem dX11_back_0 : decode cX11_back 0 = .ok (.aload_n 0, 1) := by decide +kernel
theorem dX11_back_1 : decode cX11_back 1 = .ok (.getfield 158, 3) := by decide +kernel
theorem dX11_back_4 : decode cX11_back 4 = .ok (.ifCond .gt 10, 3) := by decide +kernel
theorem dX11_back_7 : decode cX11_back 7 = .ok (.aload_n 0, 1) := by decide +kernel
theorem dX11_back_8 : decode cX11_back 8 = .ok (.bipush 8, 2) := by decide +kernel
theorem dX11_back_10 : decode cX11_back 10 = .ok (.invokevirtual 112, 3) := by decide +kernel
theorem dX11_back_13 : decode cX11_back 13 = .ok (.ireturn, 1) := by decide +kernel
theorem dX11_back_14 : decode cX11_back 14 = .ok (.aload_n 0, 1) := by decide +kernel
theorem dX11_back_15 : decode cX11_back 15 = .ok (.dup, 1) := by decide +kernel
theorem dX11_back_16 : decode cX11_back 16 = .ok (.getfield 158, 3) := by decide +kernel
theorem dX11_back_19 : decode cX11_back 19 = .ok (.iconst 1, 1) := by decide +kernel
theorem dX11_back_20 : decode cX11_back 20 = .ok (.isub, 1) := by decide +kernel
theorem dX11_back_21 : decode cX11_back 21 = .ok (.putfield 158, 3) := by decide +kernel
theorem dX11_back_24 : decode cX11_back 24 = .ok (.aload_n 0, 1) := by decide +kernel
theorem dX11_back_25 : decode cX11_back 25 = .ok (.aload_n 0, 1) := by decide +kernel
theorem dX11_back_26 : decode cX11_back 26 = .ok (.getfield 158, 3) := by decide +kernel
theorem dX11_back_29 : decode cX11_back 29 = .ok (.invokevirtual 170, 3) := by decide +kernel
theorem dX11_back_32 : decode cX11_back 32 = .ok (.ireturn, 1) := by decide +kernel
theorem dX11_now_0 : decode cX11_now 0 = .ok (.aload_n 0, 1) := by decide +kernel
theorem dX11_now_1 : decode cX11_now 1 = .ok (.getfield 21, 3) := by decide +kernel
theorem dX11_now_4 : decode cX11_now 4 = .ok (.aload_n 0, 1) := by decide +kernel
theorem dX11_now_5 : decode cX11_now 5 = .ok (.getfield 158, 3) := by decide +kernel
theorem dX11_now_8 : decode cX11_now 8 = .ok (.aaload, 1) := by decide +kernel
theorem dX11_now_9 : decode cX11_now 9 = .ok (.areturn, 1) := by decide +kernel
theorem dX11_fail_0 : decode cX11_fail 0 = .ok (.aload_n 0, 1) := by decide +kernel
theorem dX11_fail_1 : decode cX11_fail 1 = .ok (.iload_n 1, 1) := by decide +kernel
theorem dX11_fail_2 : decode cX11_fail 2 = .ok (.putfield 80, 3) := by decide +kernel
theorem dX11_fail_5 : decode cX11_fail 5 = .ok (.iconst (-1), 1) := by decide +kernel
theorem dX11_fail_6 : decode cX11_fail 6 = .ok (.ireturn, 1) := by decide +kernel
theorem dX11_tell_0 : decode cX11_tell 0 = .ok (.aload_n 0, 1) := by decide +kernel
theorem dX11_tell_1 : decode cX11_tell 1 = .ok (.iconst 0, 1) := by decide +kernel
theorem dX11_tell_2 : decode cX11_tell 2 = .ok (.putfield 80, 3) := by decide +kernel
theorem dX11_tell_5 : decode cX11_tell 5 = .ok (.iload_n 1, 1) := by decide +kernel
theorem dX11_tell_6 : decode cX11_tell 6 = .ok (.ireturn, 1) := by decide +kernel
theorem dX11_refuse_0 : decode cX11_refuse 0 = .ok (.aload_n 0, 1) := by decide +kernel
theorem dX11_refuse_1 : decode cX11_refuse 1 = .ok (.iload_n 1, 1) := by decide +kernel
theorem dX11_refuse_2 : decode cX11_refuse 2 = .ok (.putfield 80, 3) := by decide +kernel
theorem dX11_refuse_5 : decode cX11_refuse 5 = .ok (.iconst 0, 1) := by decide +kernel
theorem dX11_refuse_6 : decode cX11_refuse 6 = .ok (.ireturn, 1) := by decide +kernel
theorem dX11_accept_0 : decode cX11_accept 0 = .ok (.aload_n 0, 1) := by decide +kernel
theorem dX11_accept_1 : decode cX11_accept 1 = .ok (.iconst 0, 1) := by decide +kernel
theorem dX11_accept_2 : decode cX11_accept 2 = .ok (.putfield 80, 3) := by decide +kernel
theorem dX11_accept_5 : decode cX11_accept 5 = .ok (.iconst 1, 1) := by decide +kernel
theorem dX11_accept_6 : decode cX11_accept 6 = .ok (.ireturn, 1) := by decide +kernel
theorem dX11_tellFraction_0 : decode cX11_tellFraction 0 = .ok (.lload_n 1, 1) := by decide +kernel
theorem dX11_tellFraction_1 : decode cX11_tellFraction 1 = .ok (.lstore 5, 2) := by decide +kernel
theorem dX11_tellFraction_3 : decode cX11_tellFraction 3 = .ok (.lload_n 3, 1) := by decide +kernel
theorem dX11_tellFraction_4 : decode cX11_tellFraction 4 = .ok (.lstore 7, 2) := by decide +kernel
theorem dX11_tellFraction_6 : decode cX11_tellFraction 6 = .ok (.iconst 0, 1) := by decide +kernel
theorem dX11_tellFraction_7 : decode cX11_tellFraction 7 = .ok (.istore 9, 2) := by decide +kernel
theorem dX11_tellFraction_9 : decode cX11_tellFraction 9 = .ok (.iload 9, 2) := by decide +kernel
theorem dX11_tellFraction_11 : decode cX11_tellFraction 11 = .ok (.bipush 64, 2) := by decide +kernel
theorem dX11_tellFraction_13 : decode cX11_tellFraction 13 = .ok (.if_icmp .ge 31, 3) := by decide +kernel
theorem dX11_tellFraction_16 : decode cX11_tellFraction 16 = .ok (.lload 7, 2) := by decide +kernel
theorem dX11_tellFraction_18 : decode cX11_tellFraction 18 = .ok (.lconst 0, 1) := by decide +kernel
theorem dX11_tellFraction_19 : decode cX11_tellFraction 19 = .ok (.lcmp, 1) := by decide +kernel
theorem dX11_tellFraction_20 : decode cX11_tellFraction 20 = .ok (.ifCond .eq 24, 3) := by decide +kernel
theorem dX11_tellFraction_23 : decode cX11_tellFraction 23 = .ok (.lload 5, 2) := by decide +kernel
theorem dX11_tellFraction_25 : decode cX11_tellFraction 25 = .ok (.lload 7, 2) := by decide +kernel
theorem dX11_tellFraction_27 : decode cX11_tellFraction 27 = .ok (.lrem, 1) := by decide +kernel
theorem dX11_tellFraction_28 : decode cX11_tellFraction 28 = .ok (.lstore 10, 2) := by decide +kernel
theorem dX11_tellFraction_30 : decode cX11_tellFraction 30 = .ok (.lload 7, 2) := by decide +kernel
theorem dX11_tellFraction_32 : decode cX11_tellFraction 32 = .ok (.lstore 5, 2) := by decide +kernel
theorem dX11_tellFraction_34 : decode cX11_tellFraction 34 = .ok (.lload 10, 2) := by decide +kernel
theorem dX11_tellFraction_36 : decode cX11_tellFraction 36 = .ok (.lstore 7, 2) := by decide +kernel
theorem dX11_tellFraction_38 : decode cX11_tellFraction 38 = .ok (.iinc 9 1, 3) := by decide +kernel
theorem dX11_tellFraction_41 : decode cX11_tellFraction 41 = .ok (.goto (-32), 3) := by decide +kernel
theorem dX11_tellFraction_44 : decode cX11_tellFraction 44 = .ok (.lload 5, 2) := by decide +kernel
theorem dX11_tellFraction_46 : decode cX11_tellFraction 46 = .ok (.lconst 0, 1) := by decide +kernel
theorem dX11_tellFraction_47 : decode cX11_tellFraction 47 = .ok (.lcmp, 1) := by decide +kernel
theorem dX11_tellFraction_48 : decode cX11_tellFraction 48 = .ok (.ifCond .le 19, 3) := by decide +kernel
theorem dX11_tellFraction_51 : decode cX11_tellFraction 51 = .ok (.aload_n 0, 1) := by decide +kernel
theorem dX11_tellFraction_52 : decode cX11_tellFraction 52 = .ok (.lload_n 1, 1) := by decide +kernel
theorem dX11_tellFraction_53 : decode cX11_tellFraction 53 = .ok (.lload 5, 2) := by decide +kernel
theorem dX11_tellFraction_55 : decode cX11_tellFraction 55 = .ok (.ldiv, 1) := by decide +kernel
theorem dX11_tellFraction_56 : decode cX11_tellFraction 56 = .ok (.putfield 84, 3) := by decide +kernel
theorem dX11_tellFraction_59 : decode cX11_tellFraction 59 = .ok (.aload_n 0, 1) := by decide +kernel
theorem dX11_tellFraction_60 : decode cX11_tellFraction 60 = .ok (.lload_n 3, 1) := by decide +kernel
theorem dX11_tellFraction_61 : decode cX11_tellFraction 61 = .ok (.lload 5, 2) := by decide +kernel
theorem dX11_tellFraction_63 : decode cX11_tellFraction 63 = .ok (.ldiv, 1) := by decide +kernel
theorem dX11_tellFraction_64 : decode cX11_tellFraction 64 = .ok (.putfield 9, 3) := by decide +kernel
theorem dX11_tellFraction_67 : decode cX11_tellFraction 67 = .ok (.return_, 1) := by decide +kernel
theorem dX11_isText_0 : decode cX11_isText 0 = .ok (.iload_n 1, 1) := by decide +kernel
theorem dX11_isText_1 : decode cX11_isText 1 = .ok (.ifCond .lt 23, 3) := by decide +kernel
theorem dX11_isText_4 : decode cX11_isText 4 = .ok (.iload_n 1, 1) := by decide +kernel
theorem dX11_isText_5 : decode cX11_isText 5 = .ok (.aload_n 0, 1) := by decide +kernel
theorem dX11_isText_6 : decode cX11_isText 6 = .ok (.getfield 47, 3) := by decide +kernel
theorem dX11_isText_9 : decode cX11_isText 9 = .ok (.getfield 137, 3) := by decide +kernel
theorem dX11_isText_12 : decode cX11_isText 12 = .ok (.if_icmp .gt 12, 3) := by decide +kernel
theorem dX11_isText_15 : decode cX11_isText 15 = .ok (.iload_n 1, 1) := by decide +kernel
theorem dX11_isText_16 : decode cX11_isText 16 = .ok (.iload_n 2, 1) := by decide +kernel
theorem dX11_isText_17 : decode cX11_isText 17 = .ok (.if_icmp .gt 7, 3) := by decide +kernel
theorem dX11_isText_20 : decode cX11_isText 20 = .ok (.iconst 1, 1) := by decide +kernel
theorem dX11_isText_21 : decode cX11_isText 21 = .ok (.goto 4, 3) := by decide +kernel
theorem dX11_isText_24 : decode cX11_isText 24 = .ok (.iconst 0, 1) := by decide +kernel
theorem dX11_isText_25 : decode cX11_isText 25 = .ok (.ireturn, 1) := by decide +kernel
theorem dX11_isTray_0 : decode cX11_isTray 0 = .ok (.iload_n 1, 1) := by decide +kernel
theorem dX11_isTray_1 : decode cX11_isTray 1 = .ok (.ifCond .lt 16, 3) := by decide +kernel
theorem dX11_isTray_4 : decode cX11_isTray 4 = .ok (.iload_n 1, 1) := by decide +kernel
theorem dX11_isTray_5 : decode cX11_isTray 5 = .ok (.aload_n 0, 1) := by decide +kernel
theorem dX11_isTray_6 : decode cX11_isTray 6 = .ok (.getfield 15, 3) := by decide +kernel
theorem dX11_isTray_9 : decode cX11_isTray 9 = .ok (.arraylength, 1) := by decide +kernel
theorem dX11_isTray_10 : decode cX11_isTray 10 = .ok (.if_icmp .ge 7, 3) := by decide +kernel
theorem dX11_isTray_13 : decode cX11_isTray 13 = .ok (.iconst 1, 1) := by decide +kernel
theorem dX11_isTray_14 : decode cX11_isTray 14 = .ok (.goto 4, 3) := by decide +kernel
theorem dX11_isTray_17 : decode cX11_isTray 17 = .ok (.iconst 0, 1) := by decide +kernel
theorem dX11_isTray_18 : decode cX11_isTray 18 = .ok (.ireturn, 1) := by decide +kernel
theorem dX11_isThing_0 : decode cX11_isThing 0 = .ok (.iload_n 1, 1) := by decide +kernel
theorem dX11_isThing_1 : decode cX11_isThing 1 = .ok (.ifCond .lt 21, 3) := by decide +kernel
theorem dX11_isThing_4 : decode cX11_isThing 4 = .ok (.iload_n 1, 1) := by decide +kernel
theorem dX11_isThing_5 : decode cX11_isThing 5 = .ok (.aload_n 0, 1) := by decide +kernel
theorem dX11_isThing_6 : decode cX11_isThing 6 = .ok (.invokevirtual 154, 3) := by decide +kernel
theorem dX11_isThing_9 : decode cX11_isThing 9 = .ok (.getfield 161, 3) := by decide +kernel
theorem dX11_isThing_12 : decode cX11_isThing 12 = .ok (.getfield 165, 3) := by decide +kernel
theorem dX11_isThing_15 : decode cX11_isThing 15 = .ok (.if_icmp .ge 7, 3) := by decide +kernel
theorem dX11_isThing_18 : decode cX11_isThing 18 = .ok (.iconst 1, 1) := by decide +kernel
theorem dX11_isThing_19 : decode cX11_isThing 19 = .ok (.goto 4, 3) := by decide +kernel
theorem dX11_isThing_22 : decode cX11_isThing 22 = .ok (.iconst 0, 1) := by decide +kernel
theorem dX11_isThing_23 : decode cX11_isThing 23 = .ok (.ireturn, 1) := by decide +kernel
theorem dX11_isThingOrNone_0 : decode cX11_isThingOrNone 0 = .ok (.iload_n 1, 1) := by decide +kernel
theorem dX11_isThingOrNone_1 : decode cX11_isThingOrNone 1 = .ok (.iconst (-1), 1) := by decide +kernel
theorem dX11_isThingOrNone_2 : decode cX11_isThingOrNone 2 = .ok (.if_icmp .eq 11, 3) := by decide +kernel
theorem dX11_isThingOrNone_5 : decode cX11_isThingOrNone 5 = .ok (.aload_n 0, 1) := by decide +kernel
theorem dX11_isThingOrNone_6 : decode cX11_isThingOrNone 6 = .ok (.iload_n 1, 1) := by decide +kernel
theorem dX11_isThingOrNone_7 : decode cX11_isThingOrNone 7 = .ok (.invokevirtual 214, 3) := by decide +kernel
theorem dX11_isThingOrNone_10 : decode cX11_isThingOrNone 10 = .ok (.ifCond .eq 7, 3) := by decide +kernel
theorem dX11_isThingOrNone_13 : decode cX11_isThingOrNone 13 = .ok (.iconst 1, 1) := by decide +kernel
theorem dX11_isThingOrNone_14 : decode cX11_isThingOrNone 14 = .ok (.goto 4, 3) := by decide +kernel
theorem dX11_isThingOrNone_17 : decode cX11_isThingOrNone 17 = .ok (.iconst 0, 1) := by decide +kernel
theorem dX11_isThingOrNone_18 : decode cX11_isThingOrNone 18 = .ok (.ireturn, 1) := by decide +kernel
theorem dX11_isAmong_0 : decode cX11_isAmong 0 = .ok (.iload_n 1, 1) := by decide +kernel
theorem dX11_isAmong_1 : decode cX11_isAmong 1 = .ok (.iconst (-1), 1) := by decide +kernel
theorem dX11_isAmong_2 : decode cX11_isAmong 2 = .ok (.if_icmp .eq 11, 3) := by decide +kernel
theorem dX11_isAmong_5 : decode cX11_isAmong 5 = .ok (.iload_n 2, 1) := by decide +kernel
theorem dX11_isAmong_6 : decode cX11_isAmong 6 = .ok (.iload_n 1, 1) := by decide +kernel
theorem dX11_isAmong_7 : decode cX11_isAmong 7 = .ok (.ishr, 1) := by decide +kernel
theorem dX11_isAmong_8 : decode cX11_isAmong 8 = .ok (.iconst 1, 1) := by decide +kernel
theorem dX11_isAmong_9 : decode cX11_isAmong 9 = .ok (.iand, 1) := by decide +kernel
theorem dX11_isAmong_10 : decode cX11_isAmong 10 = .ok (.ifCond .eq 7, 3) := by decide +kernel
theorem dX11_isAmong_13 : decode cX11_isAmong 13 = .ok (.iconst 1, 1) := by decide +kernel
theorem dX11_isAmong_14 : decode cX11_isAmong 14 = .ok (.goto 4, 3) := by decide +kernel
theorem dX11_isAmong_17 : decode cX11_isAmong 17 = .ok (.iconst 0, 1) := by decide +kernel
theorem dX11_isAmong_18 : decode cX11_isAmong 18 = .ok (.ireturn, 1) := by decide +kernel
theorem dX11_isSet_0 : decode cX11_isSet 0 = .ok (.iload_n 1, 1) := by decide +kernel
theorem dX11_isSet_1 : decode cX11_isSet 1 = .ok (.ifCond .lt 18, 3) := by decide +kernel
theorem dX11_isSet_4 : decode cX11_isSet 4 = .ok (.iload_n 1, 1) := by decide +kernel
theorem dX11_isSet_5 : decode cX11_isSet 5 = .ok (.aload_n 0, 1) := by decide +kernel
theorem dX11_isSet_6 : decode cX11_isSet 6 = .ok (.invokevirtual 154, 3) := by decide +kernel
theorem dX11_isSet_9 : decode cX11_isSet 9 = .ok (.invokevirtual 394, 3) := by decide +kernel
theorem dX11_isSet_12 : decode cX11_isSet 12 = .ok (.if_icmp .ge 7, 3) := by decide +kernel
theorem dX11_isSet_15 : decode cX11_isSet 15 = .ok (.iconst 1, 1) := by decide +kernel
theorem dX11_isSet_16 : decode cX11_isSet 16 = .ok (.goto 4, 3) := by decide +kernel
theorem dX11_isSet_19 : decode cX11_isSet 19 = .ok (.iconst 0, 1) := by decide +kernel
theorem dX11_isSet_20 : decode cX11_isSet 20 = .ok (.ireturn, 1) := by decide +kernel
theorem dX11_isDay_0 : decode cX11_isDay 0 = .ok (.iload_n 1, 1) := by decide +kernel
theorem dX11_isDay_1 : decode cX11_isDay 1 = .ok (.ifCond .lt 14, 3) := by decide +kernel
theorem dX11_isDay_4 : decode cX11_isDay 4 = .ok (.iload_n 1, 1) := by decide +kernel
theorem dX11_isDay_5 : decode cX11_isDay 5 = .ok (.sipush 999, 3) := by decide +kernel
theorem dX11_isDay_8 : decode cX11_isDay 8 = .ok (.if_icmp .gt 7, 3) := by decide +kernel
theorem dX11_isDay_11 : decode cX11_isDay 11 = .ok (.iconst 1, 1) := by decide +kernel
theorem dX11_isDay_12 : decode cX11_isDay 12 = .ok (.goto 4, 3) := by decide +kernel
theorem dX11_isDay_15 : decode cX11_isDay 15 = .ok (.iconst 0, 1) := by decide +kernel
theorem dX11_isDay_16 : decode cX11_isDay 16 = .ok (.ireturn, 1) := by decide +kernel
theorem dX11_isDaysAhead_0 : decode cX11_isDaysAhead 0 = .ok (.iload_n 1, 1) := by decide +kernel
theorem dX11_isDaysAhead_1 : decode cX11_isDaysAhead 1 = .ok (.iconst 1, 1) := by decide +kernel
theorem dX11_isDaysAhead_2 : decode cX11_isDaysAhead 2 = .ok (.if_icmp .lt 13, 3) := by decide +kernel
theorem dX11_isDaysAhead_5 : decode cX11_isDaysAhead 5 = .ok (.iload_n 1, 1) := by decide +kernel
theorem dX11_isDaysAhead_6 : decode cX11_isDaysAhead 6 = .ok (.bipush 9, 2) := by decide +kernel
theorem dX11_isDaysAhead_8 : decode cX11_isDaysAhead 8 = .ok (.if_icmp .gt 7, 3) := by decide +kernel
theorem dX11_isDaysAhead_11 : decode cX11_isDaysAhead 11 = .ok (.iconst 1, 1) := by decide +kernel
theorem dX11_isDaysAhead_12 : decode cX11_isDaysAhead 12 = .ok (.goto 4, 3) := by decide +kernel
theorem dX11_isDaysAhead_15 : decode cX11_isDaysAhead 15 = .ok (.iconst 0, 1) := by decide +kernel
theorem dX11_isDaysAhead_16 : decode cX11_isDaysAhead 16 = .ok (.ireturn, 1) := by decide +kernel
theorem dX11_isPlaces_0 : decode cX11_isPlaces 0 = .ok (.iload_n 1, 1) := by decide +kernel
theorem dX11_isPlaces_1 : decode cX11_isPlaces 1 = .ok (.iconst 1, 1) := by decide +kernel
theorem dX11_isPlaces_2 : decode cX11_isPlaces 2 = .ok (.if_icmp .lt 13, 3) := by decide +kernel
theorem dX11_isPlaces_5 : decode cX11_isPlaces 5 = .ok (.iload_n 1, 1) := by decide +kernel
theorem dX11_isPlaces_6 : decode cX11_isPlaces 6 = .ok (.bipush 24, 2) := by decide +kernel
theorem dX11_isPlaces_8 : decode cX11_isPlaces 8 = .ok (.if_icmp .gt 7, 3) := by decide +kernel
theorem dX11_isPlaces_11 : decode cX11_isPlaces 11 = .ok (.iconst 1, 1) := by decide +kernel
theorem dX11_isPlaces_12 : decode cX11_isPlaces 12 = .ok (.goto 4, 3) := by decide +kernel
theorem dX11_isPlaces_15 : decode cX11_isPlaces 15 = .ok (.iconst 0, 1) := by decide +kernel
theorem dX11_isPlaces_16 : decode cX11_isPlaces 16 = .ok (.ireturn, 1) := by decide +kernel
theorem dX12_init_0 : decode cX12_init 0 = .ok (.aload_n 0, 1) := by decide +kernel
theorem dX12_init_1 : decode cX12_init 1 = .ok (.invokespecial 1, 3) := by decide +kernel
theorem dX12_init_4 : decode cX12_init 4 = .ok (.aload_n 0, 1) := by decide +kernel
theorem dX12_init_5 : decode cX12_init 5 = .ok (.lconst 1, 1) := by decide +kernel
theorem dX12_init_6 : decode cX12_init 6 = .ok (.putfield 7, 3) := by decide +kernel
theorem dX12_init_9 : decode cX12_init 9 = .ok (.aload_n 0, 1) := by decide +kernel
theorem dX12_init_10 : decode cX12_init 10 = .ok (.iconst 4, 1) := by decide +kernel
theorem dX12_init_11 : decode cX12_init 11 = .ok (.newarray .int, 2) := by decide +kernel
theorem dX12_init_13 : decode cX12_init 13 = .ok (.putfield 13, 3) := by decide +kernel
theorem dX12_init_16 : decode cX12_init 16 = .ok (.aload_n 0, 1) := by decide +kernel
theorem dX12_init_17 : decode cX12_init 17 = .ok (.iconst 4, 1) := by decide +kernel
theorem dX12_init_18 : decode cX12_init 18 = .ok (.newarray .int, 2) := by decide +kernel
theorem dX12_init_20 : decode cX12_init 20 = .ok (.putfield 17, 3) := by decide +kernel
theorem dX12_init_23 : decode cX12_init 23 = .ok (.aload_n 0, 1) := by decide +kernel
theorem dX12_init_24 : decode cX12_init 24 = .ok (.sipush 240, 3) := by decide +kernel
theorem dX12_init_27 : decode cX12_init 27 = .ok (.newarray .long, 2) := by decide +kernel
theorem dX12_init_29 : decode cX12_init 29 = .ok (.putfield 20, 3) := by decide +kernel
theorem dX12_init_32 : decode cX12_init 32 = .ok (.aload_n 0, 1) := by decide +kernel
theorem dX12_init_33 : decode cX12_init 33 = .ok (.sipush 800, 3) := by decide +kernel
theorem dX12_init_36 : decode cX12_init 36 = .ok (.newarray .byte, 2) := by decide +kernel
theorem dX12_init_38 : decode cX12_init 38 = .ok (.putfield 24, 3) := by decide +kernel
theorem dX12_init_41 : decode cX12_init 41 = .ok (.aload_n 0, 1) := by decide +kernel
theorem dX12_init_42 : decode cX12_init 42 = .ok (.iconst (-1), 1) := by decide +kernel
theorem dX12_init_43 : decode cX12_init 43 = .ok (.putfield 28, 3) := by decide +kernel
theorem dX12_init_46 : decode cX12_init 46 = .ok (.aload_n 0, 1) := by decide +kernel
theorem dX12_init_47 : decode cX12_init 47 = .ok (.iconst (-1), 1) := by decide +kernel
theorem dX12_init_48 : decode cX12_init 48 = .ok (.putfield 32, 3) := by decide +kernel
theorem dX12_init_51 : decode cX12_init 51 = .ok (.aload_n 0, 1) := by decide +kernel
theorem dX12_init_52 : decode cX12_init 52 = .ok (.sipush 3250, 3) := by decide +kernel
theorem dX12_init_55 : decode cX12_init 55 = .ok (.newarray .int, 2) := by decide +kernel
theorem dX12_init_57 : decode cX12_init 57 = .ok (.putfield 35, 3) := by decide +kernel
theorem dX12_init_60 : decode cX12_init 60 = .ok (.aload_n 0, 1) := by decide +kernel
theorem dX12_init_61 : decode cX12_init 61 = .ok (.sipush 130, 3) := by decide +kernel
theorem dX12_init_64 : decode cX12_init 64 = .ok (.newarray .long, 2) := by decide +kernel
theorem dX12_init_66 : decode cX12_init 66 = .ok (.putfield 38, 3) := by decide +kernel
theorem dX12_init_69 : decode cX12_init 69 = .ok (.aload_n 0, 1) := by decide +kernel
theorem dX12_init_70 : decode cX12_init 70 = .ok (.sipush 200, 3) := by decide +kernel
theorem dX12_init_73 : decode cX12_init 73 = .ok (.newarray .boolean, 2) := by decide +kernel
theorem dX12_init_75 : decode cX12_init 75 = .ok (.putfield 41, 3) := by decide +kernel
theorem dX12_init_78 : decode cX12_init 78 = .ok (.aload_n 0, 1) := by decide +kernel
theorem dX12_init_79 : decode cX12_init 79 = .ok (.sipush 6400, 3) := by decide +kernel
theorem dX12_init_82 : decode cX12_init 82 = .ok (.newarray .int, 2) := by decide +kernel
theorem dX12_init_84 : decode cX12_init 84 = .ok (.putfield 45, 3) := by decide +kernel
theorem dX12_init_87 : decode cX12_init 87 = .ok (.aload_n 0, 1) := by decide +kernel
theorem dX12_init_88 : decode cX12_init 88 = .ok (.sipush 256, 3) := by decide +kernel
theorem dX12_init_91 : decode cX12_init 91 = .ok (.newarray .int, 2) := by decide +kernel
theorem dX12_init_93 : decode cX12_init 93 = .ok (.putfield 48, 3) := by decide +kernel
theorem dX12_init_96 : decode cX12_init 96 = .ok (.aload_n 0, 1) := by decide +kernel
theorem dX12_init_97 : decode cX12_init 97 = .ok (.sipush 256, 3) := by decide +kernel
theorem dX12_init_100 : decode cX12_init 100 = .ok (.newarray .int, 2) := by decide +kernel
theorem dX12_init_102 : decode cX12_init 102 = .ok (.putfield 51, 3) := by decide +kernel
theorem dX12_init_105 : decode cX12_init 105 = .ok (.aload_n 0, 1) := by decide +kernel
theorem dX12_init_106 : decode cX12_init 106 = .ok (.bipush 25, 2) := by decide +kernel
theorem dX12_init_108 : decode cX12_init 108 = .ok (.newarray .int, 2) := by decide +kernel
theorem dX12_init_110 : decode cX12_init 110 = .ok (.putfield 54, 3) := by decide +kernel
theorem dX12_init_113 : decode cX12_init 113 = .ok (.aload_n 0, 1) := by decide +kernel
theorem dX12_init_114 : decode cX12_init 114 = .ok (.bipush 25, 2) := by decide +kernel
theorem dX12_init_116 : decode cX12_init 116 = .ok (.newarray .int, 2) := by decide +kernel
theorem dX12_init_118 : decode cX12_init 118 = .ok (.putfield 57, 3) := by decide +kernel
theorem dX12_init_121 : decode cX12_init 121 = .ok (.aload_n 0, 1) := by decide +kernel
theorem dX12_init_122 : decode cX12_init 122 = .ok (.iconst 4, 1) := by decide +kernel
theorem dX12_init_123 : decode cX12_init 123 = .ok (.newarray .int, 2) := by decide +kernel
theorem dX12_init_125 : decode cX12_init 125 = .ok (.putfield 60, 3) := by decide +kernel
theorem dX12_init_128 : decode cX12_init 128 = .ok (.aload_n 0, 1) := by decide +kernel
theorem dX12_init_129 : decode cX12_init 129 = .ok (.bipush 8, 2) := by decide +kernel
theorem dX12_init_131 : decode cX12_init 131 = .ok (.newarray .int, 2) := by decide +kernel
theorem dX12_init_133 : decode cX12_init 133 = .ok (.putfield 63, 3) := by decide +kernel
theorem dX12_init_136 : decode cX12_init 136 = .ok (.aload_n 0, 1) := by decide +kernel
theorem dX12_init_137 : decode cX12_init 137 = .ok (.bipush 8, 2) := by decide +kernel
theorem dX12_init_139 : decode cX12_init 139 = .ok (.newarray .int, 2) := by decide +kernel
theorem dX12_init_141 : decode cX12_init 141 = .ok (.putfield 66, 3) := by decide +kernel
theorem dX12_init_144 : decode cX12_init 144 = .ok (.aload_n 0, 1) := by decide +kernel
theorem dX12_init_145 : decode cX12_init 145 = .ok (.bipush 26, 2) := by decide +kernel
theorem dX12_init_147 : decode cX12_init 147 = .ok (.newarray .int, 2) := by decide +kernel
theorem dX12_init_149 : decode cX12_init 149 = .ok (.putfield 69, 3) := by decide +kernel
theorem dX12_init_152 : decode cX12_init 152 = .ok (.aload_n 0, 1) := by decide +kernel
theorem dX12_init_153 : decode cX12_init 153 = .ok (.sipush 256, 3) := by decide +kernel
theorem dX12_init_156 : decode cX12_init 156 = .ok (.newarray .int, 2) := by decide +kernel
theorem dX12_init_158 : decode cX12_init 158 = .ok (.putfield 72, 3) := by decide +kernel
theorem dX12_init_161 : decode cX12_init 161 = .ok (.aload_n 0, 1) := by decide +kernel
theorem dX12_init_162 : decode cX12_init 162 = .ok (.sipush 256, 3) := by decide +kernel
theorem dX12_init_165 : decode cX12_init 165 = .ok (.newarray .int, 2) := by decide +kernel
theorem dX12_init_167 : decode cX12_init 167 = .ok (.putfield 75, 3) := by decide +kernel
theorem dX12_init_170 : decode cX12_init 170 = .ok (.aload_n 0, 1) := by decide +kernel
theorem dX12_init_171 : decode cX12_init 171 = .ok (.iconst 4, 1) := by decide +kernel
theorem dX12_init_172 : decode cX12_init 172 = .ok (.newarray .boolean, 2) := by decide +kernel
theorem dX12_init_174 : decode cX12_init 174 = .ok (.putfield 78, 3) := by decide +kernel
theorem dX12_init_177 : decode cX12_init 177 = .ok (.aload_n 0, 1) := by decide +kernel
theorem dX12_init_178 : decode cX12_init 178 = .ok (.bipush 24, 2) := by decide +kernel
theorem dX12_init_180 : decode cX12_init 180 = .ok (.newarray .boolean, 2) := by decide +kernel
theorem dX12_init_182 : decode cX12_init 182 = .ok (.putfield 81, 3) := by decide +kernel
theorem dX12_init_185 : decode cX12_init 185 = .ok (.aload_n 0, 1) := by decide +kernel
theorem dX12_init_186 : decode cX12_init 186 = .ok (.bipush 25, 2) := by decide +kernel
theorem dX12_init_188 : decode cX12_init 188 = .ok (.newarray .int, 2) := by decide +kernel
theorem dX12_init_190 : decode cX12_init 190 = .ok (.putfield 84, 3) := by decide +kernel
theorem dX12_init_193 : decode cX12_init 193 = .ok (.iconst 0, 1) := by decide +kernel
theorem dX12_init_194 : decode cX12_init 194 = .ok (.istore_n 1, 1) := by decide +kernel
theorem dX12_init_195 : decode cX12_init 195 = .ok (.iload_n 1, 1) := by decide +kernel
theorem dX12_init_196 : decode cX12_init 196 = .ok (.iconst 4, 1) := by decide +kernel
theorem dX12_init_197 : decode cX12_init 197 = .ok (.if_icmp .ge 16, 3) := by decide +kernel
theorem dX12_init_200 : decode cX12_init 200 = .ok (.aload_n 0, 1) := by decide +kernel
theorem dX12_init_201 : decode cX12_init 201 = .ok (.getfield 17, 3) := by decide +kernel
theorem dX12_init_204 : decode cX12_init 204 = .ok (.iload_n 1, 1) := by decide +kernel
theorem dX12_init_205 : decode cX12_init 205 = .ok (.iconst (-1), 1) := by decide +kernel
theorem dX12_init_206 : decode cX12_init 206 = .ok (.iastore, 1) := by decide +kernel
theorem dX12_init_207 : decode cX12_init 207 = .ok (.iinc 1 1, 3) := by decide +kernel
theorem dX12_init_210 : decode cX12_init 210 = .ok (.goto (-15), 3) := by decide +kernel
theorem dX12_init_213 : decode cX12_init 213 = .ok (.return_, 1) := by decide +kernel
theorem dX12_status_0 : decode cX12_status 0 = .ok (.aload_n 0, 1) := by decide +kernel
theorem dX12_status_1 : decode cX12_status 1 = .ok (.iconst 0, 1) := by decide +kernel
theorem dX12_status_2 : decode cX12_status 2 = .ok (.putfield 87, 3) := by decide +kernel
theorem dX12_status_5 : decode cX12_status 5 = .ok (.aload_n 0, 1) := by decide +kernel
theorem dX12_status_6 : decode cX12_status 6 = .ok (.getfield 90, 3) := by decide +kernel
theorem dX12_status_9 : decode cX12_status 9 = .ok (.ireturn, 1) := by decide +kernel
theorem dX12_top_0 : decode cX12_top 0 = .ok (.aload_n 0, 1) := by decide +kernel
theorem dX12_top_1 : decode cX12_top 1 = .ok (.iconst 0, 1) := by decide +kernel
theorem dX12_top_2 : decode cX12_top 2 = .ok (.putfield 87, 3) := by decide +kernel
theorem dX12_top_5 : decode cX12_top 5 = .ok (.aload_n 0, 1) := by decide +kernel
theorem dX12_top_6 : decode cX12_top 6 = .ok (.getfield 93, 3) := by decide +kernel
theorem dX12_top_9 : decode cX12_top 9 = .ok (.lreturn, 1) := by decide +kernel
theorem dX12_bottom_0 : decode cX12_bottom 0 = .ok (.aload_n 0, 1) := by decide +kernel
theorem dX12_bottom_1 : decode cX12_bottom 1 = .ok (.iconst 0, 1) := by decide +kernel
theorem dX12_bottom_2 : decode cX12_bottom 2 = .ok (.putfield 87, 3) := by decide +kernel
theorem dX12_bottom_5 : decode cX12_bottom 5 = .ok (.aload_n 0, 1) := by decide +kernel
theorem dX12_bottom_6 : decode cX12_bottom 6 = .ok (.getfield 7, 3) := by decide +kernel
theorem dX12_bottom_9 : decode cX12_bottom 9 = .ok (.lreturn, 1) := by decide +kernel
theorem dX12_refuse_0 : decode cX12_refuse 0 = .ok (.aload_n 0, 1) := by decide +kernel
theorem dX12_refuse_1 : decode cX12_refuse 1 = .ok (.iload_n 1, 1) := by decide +kernel
theorem dX12_refuse_2 : decode cX12_refuse 2 = .ok (.putfield 90, 3) := by decide +kernel
theorem dX12_refuse_5 : decode cX12_refuse 5 = .ok (.iconst (-1), 1) := by decide +kernel
theorem dX12_refuse_6 : decode cX12_refuse 6 = .ok (.ireturn, 1) := by decide +kernel
theorem dX12_no_0 : decode cX12_no 0 = .ok (.aload_n 0, 1) := by decide +kernel
theorem dX12_no_1 : decode cX12_no 1 = .ok (.iload_n 1, 1) := by decide +kernel
theorem dX12_no_2 : decode cX12_no 2 = .ok (.putfield 90, 3) := by decide +kernel
theorem dX12_no_5 : decode cX12_no 5 = .ok (.iconst 0, 1) := by decide +kernel
theorem dX12_no_6 : decode cX12_no 6 = .ok (.ireturn, 1) := by decide +kernel
theorem dX12_isIn_0 : decode cX12_isIn 0 = .ok (.lload_n 0, 1) := by decide +kernel
theorem dX12_isIn_1 : decode cX12_isIn 1 = .ok (.lload_n 2, 1) := by decide +kernel
theorem dX12_isIn_2 : decode cX12_isIn 2 = .ok (.lcmp, 1) := by decide +kernel
theorem dX12_isIn_3 : decode cX12_isIn 3 = .ok (.ifCond .lt 14, 3) := by decide +kernel
theorem dX12_isIn_6 : decode cX12_isIn 6 = .ok (.lload_n 0, 1) := by decide +kernel
theorem dX12_isIn_7 : decode cX12_isIn 7 = .ok (.lload 4, 2) := by decide +kernel
theorem dX12_isIn_9 : decode cX12_isIn 9 = .ok (.lcmp, 1) := by decide +kernel
theorem dX12_isIn_10 : decode cX12_isIn 10 = .ok (.ifCond .gt 7, 3) := by decide +kernel
theorem dX12_isIn_13 : decode cX12_isIn 13 = .ok (.iconst 1, 1) := by decide +kernel
theorem dX12_isIn_14 : decode cX12_isIn 14 = .ok (.goto 4, 3) := by decide +kernel
theorem dX12_isIn_17 : decode cX12_isIn 17 = .ok (.iconst 0, 1) := by decide +kernel
theorem dX12_isIn_18 : decode cX12_isIn 18 = .ok (.ireturn, 1) := by decide +kernel
theorem dX12_fraction_0 : decode cX12_fraction 0 = .ok (.lload_n 1, 1) := by decide +kernel
theorem dX12_fraction_1 : decode cX12_fraction 1 = .ok (.invokestatic 96, 3) := by decide +kernel
theorem dX12_fraction_4 : decode cX12_fraction 4 = .ok (.lstore 5, 2) := by decide +kernel
theorem dX12_fraction_6 : decode cX12_fraction 6 = .ok (.lload_n 3, 1) := by decide +kernel
theorem dX12_fraction_7 : decode cX12_fraction 7 = .ok (.lstore 7, 2) := by decide +kernel
theorem dX12_fraction_9 : decode cX12_fraction 9 = .ok (.lload 7, 2) := by decide +kernel
theorem dX12_fraction_11 : decode cX12_fraction 11 = .ok (.lconst 0, 1) := by decide +kernel
theorem dX12_fraction_12 : decode cX12_fraction 12 = .ok (.lcmp, 1) := by decide +kernel
theorem dX12_fraction_13 : decode cX12_fraction 13 = .ok (.ifCond .eq 21, 3) := by decide +kernel
theorem dX12_fraction_16 : decode cX12_fraction 16 = .ok (.lload 5, 2) := by decide +kernel
theorem dX12_fraction_18 : decode cX12_fraction 18 = .ok (.lload 7, 2) := by decide +kernel
theorem dX12_fraction_20 : decode cX12_fraction 20 = .ok (.lrem, 1) := by decide +kernel
theorem dX12_fraction_21 : decode cX12_fraction 21 = .ok (.lstore 9, 2) := by decide +kernel
theorem dX12_fraction_23 : decode cX12_fraction 23 = .ok (.lload 7, 2) := by decide +kernel
theorem dX12_fraction_25 : decode cX12_fraction 25 = .ok (.lstore 5, 2) := by decide +kernel
theorem dX12_fraction_27 : decode cX12_fraction 27 = .ok (.lload 9, 2) := by decide +kernel
theorem dX12_fraction_29 : decode cX12_fraction 29 = .ok (.lstore 7, 2) := by decide +kernel
theorem dX12_fraction_31 : decode cX12_fraction 31 = .ok (.goto (-22), 3) := by decide +kernel
theorem dX12_fraction_34 : decode cX12_fraction 34 = .ok (.aload_n 0, 1) := by decide +kernel
theorem dX12_fraction_35 : decode cX12_fraction 35 = .ok (.lload_n 1, 1) := by decide +kernel
theorem dX12_fraction_36 : decode cX12_fraction 36 = .ok (.lload 5, 2) := by decide +kernel
theorem dX12_fraction_38 : decode cX12_fraction 38 = .ok (.ldiv, 1) := by decide +kernel
theorem dX12_fraction_39 : decode cX12_fraction 39 = .ok (.putfield 93, 3) := by decide +kernel
theorem dX12_fraction_42 : decode cX12_fraction 42 = .ok (.aload_n 0, 1) := by decide +kernel
theorem dX12_fraction_43 : decode cX12_fraction 43 = .ok (.lload_n 3, 1) := by decide +kernel
theorem dX12_fraction_44 : decode cX12_fraction 44 = .ok (.lload 5, 2) := by decide +kernel
theorem dX12_fraction_46 : decode cX12_fraction 46 = .ok (.ldiv, 1) := by decide +kernel
theorem dX12_fraction_47 : decode cX12_fraction 47 = .ok (.putfield 7, 3) := by decide +kernel
theorem dX12_fraction_50 : decode cX12_fraction 50 = .ok (.iconst 1, 1) := by decide +kernel
theorem dX12_fraction_51 : decode cX12_fraction 51 = .ok (.ireturn, 1) := by decide +kernel
theorem dX12_cut_0 : decode cX12_cut 0 = .ok (.iload_n 0, 1) := by decide +kernel
theorem dX12_cut_1 : decode cX12_cut 1 = .ok (.ifCond .ne 10, 3) := by decide +kernel
theorem dX12_cut_4 : decode cX12_cut 4 = .ok (.lload_n 1, 1) := by decide +kernel
theorem dX12_cut_5 : decode cX12_cut 5 = .ok (.l2i, 1) := by decide +kernel
theorem dX12_cut_6 : decode cX12_cut 6 = .ok (.i2b, 1) := by decide +kernel
theorem dX12_cut_7 : decode cX12_cut 7 = .ok (.i2l, 1) := by decide +kernel
theorem dX12_cut_8 : decode cX12_cut 8 = .ok (.goto 27, 3) := by decide +kernel
theorem dX12_cut_11 : decode cX12_cut 11 = .ok (.iload_n 0, 1) := by decide +kernel
theorem dX12_cut_12 : decode cX12_cut 12 = .ok (.iconst 1, 1) := by decide +kernel
theorem dX12_cut_13 : decode cX12_cut 13 = .ok (.if_icmp .ne 10, 3) := by decide +kernel
theorem dX12_cut_16 : decode cX12_cut 16 = .ok (.lload_n 1, 1) := by decide +kernel
theorem dX12_cut_17 : decode cX12_cut 17 = .ok (.l2i, 1) := by decide +kernel
theorem dX12_cut_18 : decode cX12_cut 18 = .ok (.i2s, 1) := by decide +kernel
theorem dX12_cut_19 : decode cX12_cut 19 = .ok (.i2l, 1) := by decide +kernel
theorem dX12_cut_20 : decode cX12_cut 20 = .ok (.goto 15, 3) := by decide +kernel
theorem dX12_cut_23 : decode cX12_cut 23 = .ok (.iload_n 0, 1) := by decide +kernel
theorem dX12_cut_24 : decode cX12_cut 24 = .ok (.iconst 2, 1) := by decide +kernel
theorem dX12_cut_25 : decode cX12_cut 25 = .ok (.if_icmp .ne 9, 3) := by decide +kernel
theorem dX12_cut_28 : decode cX12_cut 28 = .ok (.lload_n 1, 1) := by decide +kernel
theorem dX12_cut_29 : decode cX12_cut 29 = .ok (.l2i, 1) := by decide +kernel
theorem dX12_cut_30 : decode cX12_cut 30 = .ok (.i2l, 1) := by decide +kernel
theorem dX12_cut_31 : decode cX12_cut 31 = .ok (.goto 4, 3) := by decide +kernel
theorem dX12_cut_34 : decode cX12_cut 34 = .ok (.lload_n 1, 1) := by decide +kernel
theorem dX12_cut_35 : decode cX12_cut 35 = .ok (.lreturn, 1) := by decide +kernel
theorem dX12_tray_0 : decode cX12_tray 0 = .ok (.aload_n 0, 1) := by decide +kernel
theorem dX12_tray_1 : decode cX12_tray 1 = .ok (.iconst 0, 1) := by decide +kernel
theorem dX12_tray_2 : decode cX12_tray 2 = .ok (.putfield 87, 3) := by decide +kernel
theorem dX12_tray_5 : decode cX12_tray 5 = .ok (.aload_n 0, 1) := by decide +kernel
theorem dX12_tray_6 : decode cX12_tray 6 = .ok (.iconst 0, 1) := by decide +kernel
theorem dX12_tray_7 : decode cX12_tray 7 = .ok (.putfield 90, 3) := by decide +kernel
theorem dX12_tray_10 : decode cX12_tray 10 = .ok (.iload_n 1, 1) := by decide +kernel
theorem dX12_tray_11 : decode cX12_tray 11 = .ok (.ifCond .lt 17, 3) := by decide +kernel
theorem dX12_tray_14 : decode cX12_tray 14 = .ok (.iload_n 1, 1) := by decide +kernel
theorem dX12_tray_15 : decode cX12_tray 15 = .ok (.iconst 4, 1) := by decide +kernel
theorem dX12_tray_16 : decode cX12_tray 16 = .ok (.if_icmp .ge 12, 3) := by decide +kernel
theorem dX12_tray_19 : decode cX12_tray 19 = .ok (.iload_n 2, 1) := by decide +kernel
theorem dX12_tray_20 : decode cX12_tray 20 = .ok (.ifCond .lt 8, 3) := by decide +kernel
theorem dX12_tray_23 : decode cX12_tray 23 = .ok (.iload_n 2, 1) := by decide +kernel
theorem dX12_tray_24 : decode cX12_tray 24 = .ok (.iconst 3, 1) := by decide +kernel
theorem dX12_tray_25 : decode cX12_tray 25 = .ok (.if_icmp .le 9, 3) := by decide +kernel
theorem dX12_tray_28 : decode cX12_tray 28 = .ok (.aload_n 0, 1) := by decide +kernel
theorem dX12_tray_29 : decode cX12_tray 29 = .ok (.iconst 1, 1) := by decide +kernel
theorem dX12_tray_30 : decode cX12_tray 30 = .ok (.invokevirtual 102, 3) := by decide +kernel
theorem dX12_tray_33 : decode cX12_tray 33 = .ok (.ireturn, 1) := by decide +kernel
theorem dX12_tray_34 : decode cX12_tray 34 = .ok (.iload_n 3, 1) := by decide +kernel
theorem dX12_tray_35 : decode cX12_tray 35 = .ok (.bipush 60, 2) := by decide +kernel
theorem dX12_tray_37 : decode cX12_tray 37 = .ok (.if_icmp .le 9, 3) := by decide +kernel
theorem dX12_tray_40 : decode cX12_tray 40 = .ok (.aload_n 0, 1) := by decide +kernel
theorem dX12_tray_41 : decode cX12_tray 41 = .ok (.iconst 5, 1) := by decide +kernel
theorem dX12_tray_42 : decode cX12_tray 42 = .ok (.invokevirtual 102, 3) := by decide +kernel
theorem dX12_tray_45 : decode cX12_tray 45 = .ok (.ireturn, 1) := by decide +kernel
theorem dX12_tray_46 : decode cX12_tray 46 = .ok (.iload_n 3, 1) := by decide +kernel
theorem dX12_tray_47 : decode cX12_tray 47 = .ok (.ifCond .ge 10, 3) := by decide +kernel
theorem dX12_tray_50 : decode cX12_tray 50 = .ok (.aload_n 0, 1) := by decide +kernel
theorem dX12_tray_51 : decode cX12_tray 51 = .ok (.bipush 6, 2) := by decide +kernel
theorem dX12_tray_53 : decode cX12_tray 53 = .ok (.invokevirtual 102, 3) := by decide +kernel
theorem dX12_tray_56 : decode cX12_tray 56 = .ok (.ireturn, 1) := by decide +kernel
theorem dX12_tray_57 : decode cX12_tray 57 = .ok (.aload_n 0, 1) := by decide +kernel
theorem dX12_tray_58 : decode cX12_tray 58 = .ok (.getfield 13, 3) := by decide +kernel
theorem dX12_tray_61 : decode cX12_tray 61 = .ok (.iload_n 1, 1) := by decide +kernel
theorem dX12_tray_62 : decode cX12_tray 62 = .ok (.iload_n 2, 1) := by decide +kernel
theorem dX12_tray_63 : decode cX12_tray 63 = .ok (.iastore, 1) := by decide +kernel
theorem dX12_tray_64 : decode cX12_tray 64 = .ok (.aload_n 0, 1) := by decide +kernel
theorem dX12_tray_65 : decode cX12_tray 65 = .ok (.getfield 17, 3) := by decide +kernel
theorem dX12_tray_68 : decode cX12_tray 68 = .ok (.iload_n 1, 1) := by decide +kernel
theorem dX12_tray_69 : decode cX12_tray 69 = .ok (.iload_n 3, 1) := by decide +kernel
theorem dX12_tray_70 : decode cX12_tray 70 = .ok (.iastore, 1) := by decide +kernel
theorem dX12_tray_71 : decode cX12_tray 71 = .ok (.iconst 0, 1) := by decide +kernel
theorem dX12_tray_72 : decode cX12_tray 72 = .ok (.istore 4, 2) := by decide +kernel
theorem dX12_tray_74 : decode cX12_tray 74 = .ok (.iload 4, 2) := by decide +kernel
theorem dX12_tray_76 : decode cX12_tray 76 = .ok (.iload_n 3, 1) := by decide +kernel
theorem dX12_tray_77 : decode cX12_tray 77 = .ok (.if_icmp .ge 22, 3) := by decide +kernel
theorem dX12_tray_80 : decode cX12_tray 80 = .ok (.aload_n 0, 1) := by decide +kernel
theorem dX12_tray_81 : decode cX12_tray 81 = .ok (.getfield 20, 3) := by decide +kernel
theorem dX12_tray_84 : decode cX12_tray 84 = .ok (.bipush 60, 2) := by decide +kernel
theorem dX12_tray_86 : decode cX12_tray 86 = .ok (.iload_n 1, 1) := by decide +kernel
theorem dX12_tray_87 : decode cX12_tray 87 = .ok (.imul, 1) := by decide +kernel
theorem dX12_tray_88 : decode cX12_tray 88 = .ok (.iload 4, 2) := by decide +kernel
theorem dX12_tray_90 : decode cX12_tray 90 = .ok (.iadd, 1) := by decide +kernel
theorem dX12_tray_91 : decode cX12_tray 91 = .ok (.lconst 0, 1) := by decide +kernel
theorem dX12_tray_92 : decode cX12_tray 92 = .ok (.lastore, 1) := by decide +kernel
theorem dX12_tray_93 : decode cX12_tray 93 = .ok (.iinc 4 1, 3) := by decide +kernel
theorem dX12_tray_96 : decode cX12_tray 96 = .ok (.goto (-22), 3) := by decide +kernel
theorem dX12_tray_99 : decode cX12_tray 99 = .ok (.iconst 1, 1) := by decide +kernel
theorem dX12_tray_100 : decode cX12_tray 100 = .ok (.ireturn, 1) := by decide +kernel
theorem dX12_trayed_0 : decode cX12_trayed 0 = .ok (.iload_n 1, 1) := by decide +kernel
theorem dX12_trayed_1 : decode cX12_trayed 1 = .ok (.ifCond .lt 8, 3) := by decide +kernel
theorem dX12_trayed_4 : decode cX12_trayed 4 = .ok (.iload_n 1, 1) := by decide +kernel
theorem dX12_trayed_5 : decode cX12_trayed 5 = .ok (.iconst 4, 1) := by decide +kernel
theorem dX12_trayed_6 : decode cX12_trayed 6 = .ok (.if_icmp .lt 7, 3) := by decide +kernel
theorem dX12_trayed_9 : decode cX12_trayed 9 = .ok (.iconst 1, 1) := by decide +kernel
theorem dX12_trayed_10 : decode cX12_trayed 10 = .ok (.goto 17, 3) := by decide +kernel
theorem dX12_trayed_13 : decode cX12_trayed 13 = .ok (.aload_n 0, 1) := by decide +kernel
theorem dX12_trayed_14 : decode cX12_trayed 14 = .ok (.getfield 17, 3) := by decide +kernel
theorem dX12_trayed_17 : decode cX12_trayed 17 = .ok (.iload_n 1, 1) := by decide +kernel
theorem dX12_trayed_18 : decode cX12_trayed 18 = .ok (.iaload, 1) := by decide +kernel
theorem dX12_trayed_19 : decode cX12_trayed 19 = .ok (.ifCond .ge 7, 3) := by decide +kernel
theorem dX12_trayed_22 : decode cX12_trayed 22 = .ok (.iconst 3, 1) := by decide +kernel
theorem dX12_trayed_23 : decode cX12_trayed 23 = .ok (.goto 4, 3) := by decide +kernel
theorem dX12_trayed_26 : decode cX12_trayed 26 = .ok (.iconst 0, 1) := by decide +kernel
theorem dX12_trayed_27 : decode cX12_trayed 27 = .ok (.ireturn, 1) := by decide +kernel
theorem dX12_placed_0 : decode cX12_placed 0 = .ok (.aload_n 0, 1) := by decide +kernel
theorem dX12_placed_1 : decode cX12_placed 1 = .ok (.iload_n 1, 1) := by decide +kernel
theorem dX12_placed_2 : decode cX12_placed 2 = .ok (.invokevirtual 106, 3) := by decide +kernel
theorem dX12_placed_5 : decode cX12_placed 5 = .ok (.istore_n 3, 1) := by decide +kernel
theorem dX12_placed_6 : decode cX12_placed 6 = .ok (.iload_n 3, 1) := by decide +kernel
theorem dX12_placed_7 : decode cX12_placed 7 = .ok (.ifCond .le 7, 3) := by decide +kernel
theorem dX12_placed_10 : decode cX12_placed 10 = .ok (.iload_n 3, 1) := by decide +kernel
theorem dX12_placed_11 : decode cX12_placed 11 = .ok (.goto 22, 3) := by decide +kernel
theorem dX12_placed_14 : decode cX12_placed 14 = .ok (.iload_n 2, 1) := by decide +kernel
theorem dX12_placed_15 : decode cX12_placed 15 = .ok (.ifCond .lt 13, 3) := by decide +kernel
theorem dX12_placed_18 : decode cX12_placed 18 = .ok (.iload_n 2, 1) := by decide +kernel
theorem dX12_placed_19 : decode cX12_placed 19 = .ok (.aload_n 0, 1) := by decide +kernel
theorem dX12_placed_20 : decode cX12_placed 20 = .ok (.getfield 17, 3) := by decide +kernel
theorem dX12_placed_23 : decode cX12_placed 23 = .ok (.iload_n 1, 1) := by decide +kernel
theorem dX12_placed_24 : decode cX12_placed 24 = .ok (.iaload, 1) := by decide +kernel
theorem dX12_placed_25 : decode cX12_placed 25 = .ok (.if_icmp .lt 7, 3) := by decide +kernel
theorem dX12_placed_28 : decode cX12_placed 28 = .ok (.iconst 4, 1) := by decide +kernel
theorem dX12_placed_29 : decode cX12_placed 29 = .ok (.goto 4, 3) := by decide +kernel
theorem dX12_placed_32 : decode cX12_placed 32 = .ok (.iconst 0, 1) := by decide +kernel
theorem dX12_placed_33 : decode cX12_placed 33 = .ok (.ireturn, 1) := by decide +kernel
theorem dX12_write_0 : decode cX12_write 0 = .ok (.aload_n 0, 1) := by decide +kernel
theorem dX12_write_1 : decode cX12_write 1 = .ok (.iconst 0, 1) := by decide +kernel
theorem dX12_write_2 : decode cX12_write 2 = .ok (.putfield 87, 3) := by decide +kernel
theorem dX12_write_5 : decode cX12_write 5 = .ok (.aload_n 0, 1) := by decide +kernel
theorem dX12_write_6 : decode cX12_write 6 = .ok (.aload_n 0, 1) := by decide +kernel
theorem dX12_write_7 : decode cX12_write 7 = .ok (.iload_n 1, 1) := by decide +kernel
theorem dX12_write_8 : decode cX12_write 8 = .ok (.iload_n 2, 1) := by decide +kernel
theorem dX12_write_9 : decode cX12_write 9 = .ok (.invokevirtual 110, 3) := by decide +kernel
theorem dX12_write_12 : decode cX12_write 12 = .ok (.putfield 90, 3) := by decide +kernel
theorem dX12_write_15 : decode cX12_write 15 = .ok (.aload_n 0, 1) := by decide +kernel
theorem dX12_write_16 : decode cX12_write 16 = .ok (.getfield 90, 3) := by decide +kernel
theorem dX12_write_19 : decode cX12_write 19 = .ok (.ifCond .le 5, 3) := by decide +kernel
theorem dX12_write_22 : decode cX12_write 22 = .ok (.iconst 0, 1) := by decide +kernel
theorem dX12_write_23 : decode cX12_write 23 = .ok (.ireturn, 1) := by decide +kernel
theorem dX12_write_24 : decode cX12_write 24 = .ok (.aload_n 0, 1) := by decide +kernel
theorem dX12_write_25 : decode cX12_write 25 = .ok (.getfield 20, 3) := by decide +kernel
theorem dX12_write_28 : decode cX12_write 28 = .ok (.bipush 60, 2) := by decide +kernel
theorem dX12_write_30 : decode cX12_write 30 = .ok (.iload_n 1, 1) := by decide +kernel
theorem dX12_write_31 : decode cX12_write 31 = .ok (.imul, 1) := by decide +kernel
theorem dX12_write_32 : decode cX12_write 32 = .ok (.iload_n 2, 1) := by decide +kernel
theorem dX12_write_33 : decode cX12_write 33 = .ok (.iadd, 1) := by decide +kernel
theorem dX12_write_34 : decode cX12_write 34 = .ok (.aload_n 0, 1) := by decide +kernel
theorem dX12_write_35 : decode cX12_write 35 = .ok (.getfield 13, 3) := by decide +kernel
theorem dX12_write_38 : decode cX12_write 38 = .ok (.iload_n 1, 1) := by decide +kernel
theorem dX12_write_39 : decode cX12_write 39 = .ok (.iaload, 1) := by decide +kernel
theorem dX12_write_40 : decode cX12_write 40 = .ok (.lload_n 3, 1) := by decide +kernel
theorem dX12_write_41 : decode cX12_write 41 = .ok (.invokestatic 114, 3) := by decide +kernel
theorem dX12_write_44 : decode cX12_write 44 = .ok (.lastore, 1) := by decide +kernel
theorem dX12_write_45 : decode cX12_write 45 = .ok (.iconst 1, 1) := by decide +kernel
theorem dX12_write_46 : decode cX12_write 46 = .ok (.ireturn, 1) := by decide +kernel
theorem dX12_read_0 : decode cX12_read 0 = .ok (.aload_n 0, 1) := by decide +kernel
theorem dX12_read_1 : decode cX12_read 1 = .ok (.iconst 0, 1) := by decide +kernel
theorem dX12_read_2 : decode cX12_read 2 = .ok (.putfield 87, 3) := by decide +kernel
theorem dX12_read_5 : decode cX12_read 5 = .ok (.aload_n 0, 1) := by decide +kernel
theorem dX12_read_6 : decode cX12_read 6 = .ok (.aload_n 0, 1) := by decide +kernel
theorem dX12_read_7 : decode cX12_read 7 = .ok (.iload_n 1, 1) := by decide +kernel
theorem dX12_read_8 : decode cX12_read 8 = .ok (.iload_n 2, 1) := by decide +kernel
theorem dX12_read_9 : decode cX12_read 9 = .ok (.invokevirtual 110, 3) := by decide +kernel
theorem dX12_read_12 : decode cX12_read 12 = .ok (.putfield 90, 3) := by decide +kernel
theorem dX12_read_15 : decode cX12_read 15 = .ok (.aload_n 0, 1) := by decide +kernel
theorem dX12_read_16 : decode cX12_read 16 = .ok (.getfield 90, 3) := by decide +kernel
theorem dX12_read_19 : decode cX12_read 19 = .ok (.ifCond .le 9, 3) := by decide +kernel
theorem dX12_read_22 : decode cX12_read 22 = .ok (.ldc2_w 118, 3) := by decide +kernel
theorem dX12_read_25 : decode cX12_read 25 = .ok (.goto 14, 3) := by decide +kernel
theorem dX12_read_28 : decode cX12_read 28 = .ok (.aload_n 0, 1) := by decide +kernel
theorem dX12_read_29 : decode cX12_read 29 = .ok (.getfield 20, 3) := by decide +kernel
theorem dX12_read_32 : decode cX12_read 32 = .ok (.bipush 60, 2) := by decide +kernel
theorem dX12_read_34 : decode cX12_read 34 = .ok (.iload_n 1, 1) := by decide +kernel
theorem dX12_read_35 : decode cX12_read 35 = .ok (.imul, 1) := by decide +kernel
theorem dX12_read_36 : decode cX12_read 36 = .ok (.iload_n 2, 1) := by decide +kernel
theorem dX12_read_37 : decode cX12_read 37 = .ok (.iadd, 1) := by decide +kernel
theorem dX12_read_38 : decode cX12_read 38 = .ok (.laload, 1) := by decide +kernel
theorem dX12_read_39 : decode cX12_read 39 = .ok (.lreturn, 1) := by decide +kernel
theorem dX12_pour_0 : decode cX12_pour 0 = .ok (.aload_n 0, 1) := by decide +kernel
theorem dX12_pour_1 : decode cX12_pour 1 = .ok (.iconst 0, 1) := by decide +kernel
theorem dX12_pour_2 : decode cX12_pour 2 = .ok (.putfield 87, 3) := by decide +kernel
theorem dX12_pour_5 : decode cX12_pour 5 = .ok (.aload_n 0, 1) := by decide +kernel
theorem dX12_pour_6 : decode cX12_pour 6 = .ok (.iconst 0, 1) := by decide +kernel
theorem dX12_pour_7 : decode cX12_pour 7 = .ok (.putfield 90, 3) := by decide +kernel
theorem dX12_pour_10 : decode cX12_pour 10 = .ok (.iload_n 1, 1) := by decide +kernel
theorem dX12_pour_11 : decode cX12_pour 11 = .ok (.ifCond .lt 17, 3) := by decide +kernel
theorem dX12_pour_14 : decode cX12_pour 14 = .ok (.iload_n 1, 1) := by decide +kernel
theorem dX12_pour_15 : decode cX12_pour 15 = .ok (.iconst 4, 1) := by decide +kernel
theorem dX12_pour_16 : decode cX12_pour 16 = .ok (.if_icmp .ge 12, 3) := by decide +kernel
theorem dX12_pour_19 : decode cX12_pour 19 = .ok (.iload_n 3, 1) := by decide +kernel
theorem dX12_pour_20 : decode cX12_pour 20 = .ok (.ifCond .lt 8, 3) := by decide +kernel
theorem dX12_pour_23 : decode cX12_pour 23 = .ok (.iload_n 3, 1) := by decide +kernel
theorem dX12_pour_24 : decode cX12_pour 24 = .ok (.iconst 4, 1) := by decide +kernel
theorem dX12_pour_25 : decode cX12_pour 25 = .ok (.if_icmp .lt 9, 3) := by decide +kernel
theorem dX12_pour_28 : decode cX12_pour 28 = .ok (.aload_n 0, 1) := by decide +kernel
theorem dX12_pour_29 : decode cX12_pour 29 = .ok (.iconst 1, 1) := by decide +kernel
theorem dX12_pour_30 : decode cX12_pour 30 = .ok (.invokevirtual 102, 3) := by decide +kernel
theorem dX12_pour_33 : decode cX12_pour 33 = .ok (.ireturn, 1) := by decide +kernel
theorem dX12_pour_34 : decode cX12_pour 34 = .ok (.aload_n 0, 1) := by decide +kernel
theorem dX12_pour_35 : decode cX12_pour 35 = .ok (.getfield 17, 3) := by decide +kernel
theorem dX12_pour_38 : decode cX12_pour 38 = .ok (.iload_n 1, 1) := by decide +kernel
theorem dX12_pour_39 : decode cX12_pour 39 = .ok (.iaload, 1) := by decide +kernel
theorem dX12_pour_40 : decode cX12_pour 40 = .ok (.ifCond .lt 12, 3) := by decide +kernel
theorem dX12_pour_43 : decode cX12_pour 43 = .ok (.aload_n 0, 1) := by decide +kernel
theorem dX12_pour_44 : decode cX12_pour 44 = .ok (.getfield 17, 3) := by decide +kernel
theorem dX12_pour_47 : decode cX12_pour 47 = .ok (.iload_n 3, 1) := by decide +kernel
theorem dX12_pour_48 : decode cX12_pour 48 = .ok (.iaload, 1) := by decide +kernel
theorem dX12_pour_49 : decode cX12_pour 49 = .ok (.ifCond .ge 9, 3) := by decide +kernel
theorem dX12_pour_52 : decode cX12_pour 52 = .ok (.aload_n 0, 1) := by decide +kernel
theorem dX12_pour_53 : decode cX12_pour 53 = .ok (.iconst 3, 1) := by decide +kernel
theorem dX12_pour_54 : decode cX12_pour 54 = .ok (.invokevirtual 102, 3) := by decide +kernel
theorem dX12_pour_57 : decode cX12_pour 57 = .ok (.ireturn, 1) := by decide +kernel
theorem dX12_pour_58 : decode cX12_pour 58 = .ok (.aload_n 0, 1) := by decide +kernel
theorem dX12_pour_59 : decode cX12_pour 59 = .ok (.getfield 13, 3) := by decide +kernel
theorem dX12_pour_62 : decode cX12_pour 62 = .ok (.iload_n 1, 1) := by decide +kernel
theorem dX12_pour_63 : decode cX12_pour 63 = .ok (.iaload, 1) := by decide +kernel
theorem dX12_pour_64 : decode cX12_pour 64 = .ok (.aload_n 0, 1) := by decide +kernel
theorem dX12_pour_65 : decode cX12_pour 65 = .ok (.getfield 13, 3) := by decide +kernel
theorem dX12_pour_68 : decode cX12_pour 68 = .ok (.iload_n 3, 1) := by decide +kernel
theorem dX12_pour_69 : decode cX12_pour 69 = .ok (.iaload, 1) := by decide +kernel
theorem dX12_pour_70 : decode cX12_pour 70 = .ok (.if_icmp .eq 10, 3) := by decide +kernel
theorem dX12_pour_73 : decode cX12_pour 73 = .ok (.aload_n 0, 1) := by decide +kernel
theorem dX12_pour_74 : decode cX12_pour 74 = .ok (.bipush 11, 2) := by decide +kernel
theorem dX12_pour_76 : decode cX12_pour 76 = .ok (.invokevirtual 102, 3) := by decide +kernel
theorem dX12_pour_79 : decode cX12_pour 79 = .ok (.ireturn, 1) := by decide +kernel
theorem dX12_pour_80 : decode cX12_pour 80 = .ok (.iload 5, 2) := by decide +kernel
theorem dX12_pour_82 : decode cX12_pour 82 = .ok (.ifCond .ge 10, 3) := by decide +kernel
theorem dX12_pour_85 : decode cX12_pour 85 = .ok (.aload_n 0, 1) := by decide +kernel
theorem dX12_pour_86 : decode cX12_pour 86 = .ok (.bipush 6, 2) := by decide +kernel
theorem dX12_pour_88 : decode cX12_pour 88 = .ok (.invokevirtual 102, 3) := by decide +kernel
theorem dX12_pour_91 : decode cX12_pour 91 = .ok (.ireturn, 1) := by decide +kernel
theorem dX12_pour_92 : decode cX12_pour 92 = .ok (.iload_n 2, 1) := by decide +kernel
theorem dX12_pour_93 : decode cX12_pour 93 = .ok (.ifCond .lt 43, 3) := by decide +kernel
theorem dX12_pour_96 : decode cX12_pour 96 = .ok (.iload 4, 2) := by decide +kernel
theorem dX12_pour_98 : decode cX12_pour 98 = .ok (.ifCond .lt 38, 3) := by decide +kernel
theorem dX12_pour_101 : decode cX12_pour 101 = .ok (.iload_n 2, 1) := by decide +kernel
theorem dX12_pour_102 : decode cX12_pour 102 = .ok (.i2l, 1) := by decide +kernel
theorem dX12_pour_103 : decode cX12_pour 103 = .ok (.iload 5, 2) := by decide +kernel
theorem dX12_pour_105 : decode cX12_pour 105 = .ok (.i2l, 1) := by decide +kernel
theorem dX12_pour_106 : decode cX12_pour 106 = .ok (.ladd, 1) := by decide +kernel
theorem dX12_pour_107 : decode cX12_pour 107 = .ok (.aload_n 0, 1) := by decide +kernel
theorem dX12_pour_108 : decode cX12_pour 108 = .ok (.getfield 17, 3) := by decide +kernel
theorem dX12_pour_111 : decode cX12_pour 111 = .ok (.iload_n 1, 1) := by decide +kernel
theorem dX12_pour_112 : decode cX12_pour 112 = .ok (.iaload, 1) := by decide +kernel
theorem dX12_pour_113 : decode cX12_pour 113 = .ok (.i2l, 1) := by decide +kernel
theorem dX12_pour_114 : decode cX12_pour 114 = .ok (.lcmp, 1) := by decide +kernel
theorem dX12_pour_115 : decode cX12_pour 115 = .ok (.ifCond .gt 21, 3) := by decide +kernel
theorem dX12_pour_118 : decode cX12_pour 118 = .ok (.iload 4, 2) := by decide +kernel
theorem dX12_pour_120 : decode cX12_pour 120 = .ok (.i2l, 1) := by decide +kernel
theorem dX12_pour_121 : decode cX12_pour 121 = .ok (.iload 5, 2) := by decide +kernel
theorem dX12_pour_123 : decode cX12_pour 123 = .ok (.i2l, 1) := by decide +kernel
theorem dX12_pour_124 : decode cX12_pour 124 = .ok (.ladd, 1) := by decide +kernel
theorem dX12_pour_125 : decode cX12_pour 125 = .ok (.aload_n 0, 1) := by decide +kernel
theorem dX12_pour_126 : decode cX12_pour 126 = .ok (.getfield 17, 3) := by decide +kernel
theorem dX12_pour_129 : decode cX12_pour 129 = .ok (.iload_n 3, 1) := by decide +kernel
theorem dX12_pour_130 : decode cX12_pour 130 = .ok (.iaload, 1) := by decide +kernel
theorem dX12_pour_131 : decode cX12_pour 131 = .ok (.i2l, 1) := by decide +kernel
theorem dX12_pour_132 : decode cX12_pour 132 = .ok (.lcmp, 1) := by decide +kernel
theorem dX12_pour_133 : decode cX12_pour 133 = .ok (.ifCond .le 9, 3) := by decide +kernel
theorem dX12_pour_136 : decode cX12_pour 136 = .ok (.aload_n 0, 1) := by decide +kernel
theorem dX12_pour_137 : decode cX12_pour 137 = .ok (.iconst 4, 1) := by decide +kernel
theorem dX12_pour_138 : decode cX12_pour 138 = .ok (.invokevirtual 102, 3) := by decide +kernel
theorem dX12_pour_141 : decode cX12_pour 141 = .ok (.ireturn, 1) := by decide +kernel
theorem dX12_pour_142 : decode cX12_pour 142 = .ok (.iload_n 2, 1) := by decide +kernel
theorem dX12_pour_143 : decode cX12_pour 143 = .ok (.iload 4, 2) := by decide +kernel
theorem dX12_pour_145 : decode cX12_pour 145 = .ok (.if_icmp .ge 7, 3) := by decide +kernel
theorem dX12_pour_148 : decode cX12_pour 148 = .ok (.iconst 1, 1) := by decide +kernel
theorem dX12_pour_149 : decode cX12_pour 149 = .ok (.goto 4, 3) := by decide +kernel
theorem dX12_pour_152 : decode cX12_pour 152 = .ok (.iconst 0, 1) := by decide +kernel
theorem dX12_pour_153 : decode cX12_pour 153 = .ok (.istore 6, 2) := by decide +kernel
theorem dX12_pour_155 : decode cX12_pour 155 = .ok (.iconst 0, 1) := by decide +kernel
theorem dX12_pour_156 : decode cX12_pour 156 = .ok (.istore 7, 2) := by decide +kernel
theorem dX12_pour_158 : decode cX12_pour 158 = .ok (.iload 7, 2) := by decide +kernel
theorem dX12_pour_160 : decode cX12_pour 160 = .ok (.iload 5, 2) := by decide +kernel
theorem dX12_pour_162 : decode cX12_pour 162 = .ok (.if_icmp .ge 57, 3) := by decide +kernel
theorem dX12_pour_165 : decode cX12_pour 165 = .ok (.iload 6, 2) := by decide +kernel
theorem dX12_pour_167 : decode cX12_pour 167 = .ok (.ifCond .eq 13, 3) := by decide +kernel
theorem dX12_pour_170 : decode cX12_pour 170 = .ok (.iload 5, 2) := by decide +kernel
theorem dX12_pour_172 : decode cX12_pour 172 = .ok (.iconst 1, 1) := by decide +kernel
theorem dX12_pour_173 : decode cX12_pour 173 = .ok (.isub, 1) := by decide +kernel
theorem dX12_pour_174 : decode cX12_pour 174 = .ok (.iload 7, 2) := by decide +kernel
theorem dX12_pour_176 : decode cX12_pour 176 = .ok (.isub, 1) := by decide +kernel
theorem dX12_pour_177 : decode cX12_pour 177 = .ok (.goto 5, 3) := by decide +kernel
theorem dX12_pour_180 : decode cX12_pour 180 = .ok (.iload 7, 2) := by decide +kernel
theorem dX12_pour_182 : decode cX12_pour 182 = .ok (.istore 8, 2) := by decide +kernel
theorem dX12_pour_184 : decode cX12_pour 184 = .ok (.aload_n 0, 1) := by decide +kernel
theorem dX12_pour_185 : decode cX12_pour 185 = .ok (.getfield 20, 3) := by decide +kernel
theorem dX12_pour_188 : decode cX12_pour 188 = .ok (.bipush 60, 2) := by decide +kernel
theorem dX12_pour_190 : decode cX12_pour 190 = .ok (.iload_n 3, 1) := by decide +kernel
theorem dX12_pour_191 : decode cX12_pour 191 = .ok (.imul, 1) := by decide +kernel
theorem dX12_pour_192 : decode cX12_pour 192 = .ok (.iload 4, 2) := by decide +kernel
theorem dX12_pour_194 : decode cX12_pour 194 = .ok (.iadd, 1) := by decide +kernel
theorem dX12_pour_195 : decode cX12_pour 195 = .ok (.iload 8, 2) := by decide +kernel
theorem dX12_pour_197 : decode cX12_pour 197 = .ok (.iadd, 1) := by decide +kernel
theorem dX12_pour_198 : decode cX12_pour 198 = .ok (.aload_n 0, 1) := by decide +kernel
theorem dX12_pour_199 : decode cX12_pour 199 = .ok (.getfield 20, 3) := by decide +kernel
theorem dX12_pour_202 : decode cX12_pour 202 = .ok (.bipush 60, 2) := by decide +kernel
theorem dX12_pour_204 : decode cX12_pour 204 = .ok (.iload_n 1, 1) := by decide +kernel
theorem dX12_pour_205 : decode cX12_pour 205 = .ok (.imul, 1) := by decide +kernel
theorem dX12_pour_206 : decode cX12_pour 206 = .ok (.iload_n 2, 1) := by decide +kernel
theorem dX12_pour_207 : decode cX12_pour 207 = .ok (.iadd, 1) := by decide +kernel
theorem dX12_pour_208 : decode cX12_pour 208 = .ok (.iload 8, 2) := by decide +kernel
theorem dX12_pour_210 : decode cX12_pour 210 = .ok (.iadd, 1) := by decide +kernel
theorem dX12_pour_211 : decode cX12_pour 211 = .ok (.laload, 1) := by decide +kernel
theorem dX12_pour_212 : decode cX12_pour 212 = .ok (.lastore, 1) := by decide +kernel
theorem dX12_pour_213 : decode cX12_pour 213 = .ok (.iinc 7 1, 3) := by decide +kernel
theorem dX12_pour_216 : decode cX12_pour 216 = .ok (.goto (-58), 3) := by decide +kernel
theorem dX12_pour_219 : decode cX12_pour 219 = .ok (.iconst 1, 1) := by decide +kernel
theorem dX12_pour_220 : decode cX12_pour 220 = .ok (.ireturn, 1) := by decide +kernel
theorem dX12_numberOf_0 : decode cX12_numberOf 0 = .ok (.aload_n 0, 1) := by decide +kernel
theorem dX12_numberOf_1 : decode cX12_numberOf 1 = .ok (.getfield 20, 3) := by decide +kernel
theorem dX12_numberOf_4 : decode cX12_numberOf 4 = .ok (.bipush 60, 2) := by decide +kernel
theorem dX12_numberOf_6 : decode cX12_numberOf 6 = .ok (.iload_n 1, 1) := by decide +kernel
theorem dX12_numberOf_7 : decode cX12_numberOf 7 = .ok (.imul, 1) := by decide +kernel
theorem dX12_numberOf_8 : decode cX12_numberOf 8 = .ok (.iload_n 2, 1) := by decide +kernel
theorem dX12_numberOf_9 : decode cX12_numberOf 9 = .ok (.iadd, 1) := by decide +kernel
theorem dX12_numberOf_10 : decode cX12_numberOf 10 = .ok (.laload, 1) := by decide +kernel
theorem dX12_numberOf_11 : decode cX12_numberOf 11 = .ok (.lreturn, 1) := by decide +kernel
theorem dX12_isTray_0 : decode cX12_isTray 0 = .ok (.iload_n 1, 1) := by decide +kernel
theorem dX12_isTray_1 : decode cX12_isTray 1 = .ok (.i2l, 1) := by decide +kernel
theorem dX12_isTray_2 : decode cX12_isTray 2 = .ok (.lconst 0, 1) := by decide +kernel
theorem dX12_isTray_3 : decode cX12_isTray 3 = .ok (.ldc2_w 120, 3) := by decide +kernel
theorem dX12_isTray_6 : decode cX12_isTray 6 = .ok (.invokestatic 122, 3) := by decide +kernel
theorem dX12_isTray_9 : decode cX12_isTray 9 = .ok (.ireturn, 1) := by decide +kernel
theorem dX12_look2_0 : decode cX12_look2 0 = .ok (.iload_n 1, 1) := by decide +kernel
theorem dX12_look2_1 : decode cX12_look2 1 = .ok (.aload_n 0, 1) := by decide +kernel
theorem dX12_look2_2 : decode cX12_look2 2 = .ok (.getfield 126, 3) := by decide +kernel
theorem dX12_look2_5 : decode cX12_look2 5 = .ok (.if_icmp .ge 16, 3) := by decide +kernel
theorem dX12_look2_8 : decode cX12_look2 8 = .ok (.aload_n 0, 1) := by decide +kernel
theorem dX12_look2_9 : decode cX12_look2 9 = .ok (.getfield 24, 3) := by decide +kernel
theorem dX12_look2_12 : decode cX12_look2 12 = .ok (.iload_n 1, 1) := by decide +kernel
theorem dX12_look2_13 : decode cX12_look2 13 = .ok (.baload, 1) := by decide +kernel
theorem dX12_look2_14 : decode cX12_look2 14 = .ok (.sipush 255, 3) := by decide +kernel
theorem dX12_look2_17 : decode cX12_look2 17 = .ok (.iand, 1) := by decide +kernel
theorem dX12_look2_18 : decode cX12_look2 18 = .ok (.goto 4, 3) := by decide +kernel
theorem dX12_look2_21 : decode cX12_look2 21 = .ok (.iconst 0, 1) := by decide +kernel
theorem dX12_look2_22 : decode cX12_look2 22 = .ok (.ireturn, 1) := by decide +kernel
theorem dX12_isLetter_0 : decode cX12_isLetter 0 = .ok (.iload_n 0, 1) := by decide +kernel
theorem dX12_isLetter_1 : decode cX12_isLetter 1 = .ok (.bipush 97, 2) := by decide +kernel
theorem dX12_isLetter_3 : decode cX12_isLetter 3 = .ok (.if_icmp .lt 13, 3) := by decide +kernel
theorem dX12_isLetter_6 : decode cX12_isLetter 6 = .ok (.iload_n 0, 1) := by decide +kernel
theorem dX12_isLetter_7 : decode cX12_isLetter 7 = .ok (.bipush 122, 2) := by decide +kernel
theorem dX12_isLetter_9 : decode cX12_isLetter 9 = .ok (.if_icmp .gt 7, 3) := by decide +kernel
theorem dX12_isLetter_12 : decode cX12_isLetter 12 = .ok (.iconst 1, 1) := by decide +kernel
theorem dX12_isLetter_13 : decode cX12_isLetter 13 = .ok (.goto 4, 3) := by decide +kernel
theorem dX12_isLetter_16 : decode cX12_isLetter 16 = .ok (.iconst 0, 1) := by decide +kernel
theorem dX12_isLetter_17 : decode cX12_isLetter 17 = .ok (.ireturn, 1) := by decide +kernel
theorem dX12_isDigit_0 : decode cX12_isDigit 0 = .ok (.iload_n 0, 1) := by decide +kernel
theorem dX12_isDigit_1 : decode cX12_isDigit 1 = .ok (.bipush 48, 2) := by decide +kernel
theorem dX12_isDigit_3 : decode cX12_isDigit 3 = .ok (.if_icmp .lt 13, 3) := by decide +kernel
theorem dX12_isDigit_6 : decode cX12_isDigit 6 = .ok (.iload_n 0, 1) := by decide +kernel
theorem dX12_isDigit_7 : decode cX12_isDigit 7 = .ok (.bipush 57, 2) := by decide +kernel
theorem dX12_isDigit_9 : decode cX12_isDigit 9 = .ok (.if_icmp .gt 7, 3) := by decide +kernel
theorem dX12_isDigit_12 : decode cX12_isDigit 12 = .ok (.iconst 1, 1) := by decide +kernel
theorem dX12_isDigit_13 : decode cX12_isDigit 13 = .ok (.goto 4, 3) := by decide +kernel
theorem dX12_isDigit_16 : decode cX12_isDigit 16 = .ok (.iconst 0, 1) := by decide +kernel
theorem dX12_isDigit_17 : decode cX12_isDigit 17 = .ok (.ireturn, 1) := by decide +kernel
theorem dX12_isSignByte_0 : decode cX12_isSignByte 0 = .ok (.iload_n 1, 1) := by decide +kernel
theorem dX12_isSignByte_1 : decode cX12_isSignByte 1 = .ok (.bipush 59, 2) := by decide +kernel
theorem dX12_isSignByte_3 : decode cX12_isSignByte 3 = .ok (.if_icmp .eq 33, 3) := by decide +kernel
theorem dX12_isSignByte_6 : decode cX12_isSignByte 6 = .ok (.iload_n 1, 1) := by decide +kernel
theorem dX12_isSignByte_7 : decode cX12_isSignByte 7 = .ok (.bipush 60, 2) := by decide +kernel
theorem dX12_isSignByte_9 : decode cX12_isSignByte 9 = .ok (.if_icmp .eq 27, 3) := by decide +kernel
theorem dX12_isSignByte_12 : decode cX12_isSignByte 12 = .ok (.iload_n 1, 1) := by decide +kernel
theorem dX12_isSignByte_13 : decode cX12_isSignByte 13 = .ok (.bipush 62, 2) := by decide +kernel
theorem dX12_isSignByte_15 : decode cX12_isSignByte 15 = .ok (.if_icmp .eq 21, 3) := by decide +kernel
theorem dX12_isSignByte_18 : decode cX12_isSignByte 18 = .ok (.iload_n 1, 1) := by decide +kernel
theorem dX12_isSignByte_19 : decode cX12_isSignByte 19 = .ok (.bipush 61, 2) := by decide +kernel
theorem dX12_isSignByte_21 : decode cX12_isSignByte 21 = .ok (.if_icmp .eq 15, 3) := by decide +kernel
theorem dX12_isSignByte_24 : decode cX12_isSignByte 24 = .ok (.iload_n 1, 1) := by decide +kernel
theorem dX12_isSignByte_25 : decode cX12_isSignByte 25 = .ok (.bipush 40, 2) := by decide +kernel
theorem dX12_isSignByte_27 : decode cX12_isSignByte 27 = .ok (.if_icmp .eq 9, 3) := by decide +kernel
theorem dX12_isSignByte_30 : decode cX12_isSignByte 30 = .ok (.iload_n 1, 1) := by decide +kernel
theorem dX12_isSignByte_31 : decode cX12_isSignByte 31 = .ok (.bipush 41, 2) := by decide +kernel
theorem dX12_isSignByte_33 : decode cX12_isSignByte 33 = .ok (.if_icmp .ne 7, 3) := by decide +kernel
theorem dX12_isSignByte_36 : decode cX12_isSignByte 36 = .ok (.iconst 1, 1) := by decide +kernel
theorem dX12_isSignByte_37 : decode cX12_isSignByte 37 = .ok (.goto 4, 3) := by decide +kernel
theorem dX12_isSignByte_40 : decode cX12_isSignByte 40 = .ok (.iconst 0, 1) := by decide +kernel
theorem dX12_isSignByte_41 : decode cX12_isSignByte 41 = .ok (.ireturn, 1) := by decide +kernel
theorem dX12_next_0 : decode cX12_next 0 = .ok (.aload_n 0, 1) := by decide +kernel
theorem dX12_next_1 : decode cX12_next 1 = .ok (.aload_n 0, 1) := by decide +kernel
theorem dX12_next_2 : decode cX12_next 2 = .ok (.getfield 129, 3) := by decide +kernel
theorem dX12_next_5 : decode cX12_next 5 = .ok (.putfield 132, 3) := by decide +kernel
theorem dX12_next_8 : decode cX12_next 8 = .ok (.aload_n 0, 1) := by decide +kernel
theorem dX12_next_9 : decode cX12_next 9 = .ok (.getfield 132, 3) := by decide +kernel
theorem dX12_next_12 : decode cX12_next 12 = .ok (.aload_n 0, 1) := by decide +kernel
theorem dX12_next_13 : decode cX12_next 13 = .ok (.getfield 126, 3) := by decide +kernel
theorem dX12_next_16 : decode cX12_next 16 = .ok (.if_icmp .ge 42, 3) := by decide +kernel
theorem dX12_next_19 : decode cX12_next 19 = .ok (.aload_n 0, 1) := by decide +kernel
theorem dX12_next_20 : decode cX12_next 20 = .ok (.aload_n 0, 1) := by decide +kernel
theorem dX12_next_21 : decode cX12_next 21 = .ok (.getfield 132, 3) := by decide +kernel
theorem dX12_next_24 : decode cX12_next 24 = .ok (.invokevirtual 135, 3) := by decide +kernel
theorem dX12_next_27 : decode cX12_next 27 = .ok (.bipush 10, 2) := by decide +kernel
theorem dX12_next_29 : decode cX12_next 29 = .ok (.if_icmp .eq 16, 3) := by decide +kernel
theorem dX12_next_32 : decode cX12_next 32 = .ok (.aload_n 0, 1) := by decide +kernel
theorem dX12_next_33 : decode cX12_next 33 = .ok (.aload_n 0, 1) := by decide +kernel
theorem dX12_next_34 : decode cX12_next 34 = .ok (.getfield 132, 3) := by decide +kernel
theorem dX12_next_37 : decode cX12_next 37 = .ok (.invokevirtual 135, 3) := by decide +kernel
theorem dX12_next_40 : decode cX12_next 40 = .ok (.bipush 32, 2) := by decide +kernel
theorem dX12_next_42 : decode cX12_next 42 = .ok (.if_icmp .ne 16, 3) := by decide +kernel
theorem dX12_next_45 : decode cX12_next 45 = .ok (.aload_n 0, 1) := by decide +kernel
theorem dX12_next_46 : decode cX12_next 46 = .ok (.dup, 1) := by decide +kernel
theorem dX12_next_47 : decode cX12_next 47 = .ok (.getfield 132, 3) := by decide +kernel
theorem dX12_next_50 : decode cX12_next 50 = .ok (.iconst 1, 1) := by decide +kernel
theorem dX12_next_51 : decode cX12_next 51 = .ok (.iadd, 1) := by decide +kernel
theorem dX12_next_52 : decode cX12_next 52 = .ok (.putfield 132, 3) := by decide +kernel
theorem dX12_next_55 : decode cX12_next 55 = .ok (.goto (-47), 3) := by decide +kernel
theorem dX12_next_58 : decode cX12_next 58 = .ok (.aload_n 0, 1) := by decide +kernel
theorem dX12_next_59 : decode cX12_next 59 = .ok (.aload_n 0, 1) := by decide +kernel
theorem dX12_next_60 : decode cX12_next 60 = .ok (.getfield 132, 3) := by decide +kernel
theorem dX12_next_63 : decode cX12_next 63 = .ok (.putfield 129, 3) := by decide +kernel
theorem dX12_next_66 : decode cX12_next 66 = .ok (.aload_n 0, 1) := by decide +kernel
theorem dX12_next_67 : decode cX12_next 67 = .ok (.getfield 132, 3) := by decide +kernel
theorem dX12_next_70 : decode cX12_next 70 = .ok (.aload_n 0, 1) := by decide +kernel
theorem dX12_next_71 : decode cX12_next 71 = .ok (.getfield 126, 3) := by decide +kernel
theorem dX12_next_74 : decode cX12_next 74 = .ok (.if_icmp .lt 9, 3) := by decide +kernel
theorem dX12_next_77 : decode cX12_next 77 = .ok (.aload_n 0, 1) := by decide +kernel
theorem dX12_next_78 : decode cX12_next 78 = .ok (.iconst 0, 1) := by decide +kernel
theorem dX12_next_79 : decode cX12_next 79 = .ok (.putfield 138, 3) := by decide +kernel
theorem dX12_next_82 : decode cX12_next 82 = .ok (.return_, 1) := by decide +kernel
theorem dX12_next_83 : decode cX12_next 83 = .ok (.aload_n 0, 1) := by decide +kernel
theorem dX12_next_84 : decode cX12_next 84 = .ok (.aload_n 0, 1) := by decide +kernel
theorem dX12_next_85 : decode cX12_next 85 = .ok (.getfield 132, 3) := by decide +kernel
theorem dX12_next_88 : decode cX12_next 88 = .ok (.invokevirtual 135, 3) := by decide +kernel
theorem dX12_next_91 : decode cX12_next 91 = .ok (.istore_n 1, 1) := by decide +kernel
theorem dX12_next_92 : decode cX12_next 92 = .ok (.iload_n 1, 1) := by decide +kernel
theorem dX12_next_93 : decode cX12_next 93 = .ok (.invokestatic 141, 3) := by decide +kernel
theorem dX12_next_96 : decode cX12_next 96 = .ok (.ifCond .eq 102, 3) := by decide +kernel
theorem dX12_next_99 : decode cX12_next 99 = .ok (.aload_n 0, 1) := by decide +kernel
theorem dX12_next_100 : decode cX12_next 100 = .ok (.iconst 1, 1) := by decide +kernel
theorem dX12_next_101 : decode cX12_next 101 = .ok (.putfield 138, 3) := by decide +kernel
theorem dX12_next_104 : decode cX12_next 104 = .ok (.aload_n 0, 1) := by decide +kernel
theorem dX12_next_105 : decode cX12_next 105 = .ok (.lconst 0, 1) := by decide +kernel
theorem dX12_next_106 : decode cX12_next 106 = .ok (.putfield 144, 3) := by decide +kernel
theorem dX12_next_109 : decode cX12_next 109 = .ok (.aload_n 0, 1) := by decide +kernel
theorem dX12_next_110 : decode cX12_next 110 = .ok (.aload_n 0, 1) := by decide +kernel
theorem dX12_next_111 : decode cX12_next 111 = .ok (.getfield 129, 3) := by decide +kernel
theorem dX12_next_114 : decode cX12_next 114 = .ok (.invokevirtual 135, 3) := by decide +kernel
theorem dX12_next_117 : decode cX12_next 117 = .ok (.invokestatic 141, 3) := by decide +kernel
theorem dX12_next_120 : decode cX12_next 120 = .ok (.ifCond .eq 62, 3) := by decide +kernel
theorem dX12_next_123 : decode cX12_next 123 = .ok (.aload_n 0, 1) := by decide +kernel
theorem dX12_next_124 : decode cX12_next 124 = .ok (.aload_n 0, 1) := by decide +kernel
theorem dX12_next_125 : decode cX12_next 125 = .ok (.getfield 129, 3) := by decide +kernel
theorem dX12_next_128 : decode cX12_next 128 = .ok (.aload_n 0, 1) := by decide +kernel
theorem dX12_next_129 : decode cX12_next 129 = .ok (.getfield 132, 3) := by decide +kernel
theorem dX12_next_132 : decode cX12_next 132 = .ok (.isub, 1) := by decide +kernel
theorem dX12_next_133 : decode cX12_next 133 = .ok (.bipush 8, 2) := by decide +kernel
theorem dX12_next_135 : decode cX12_next 135 = .ok (.if_icmp .ge 28, 3) := by decide +kernel
theorem dX12_next_138 : decode cX12_next 138 = .ok (.aload_n 0, 1) := by decide +kernel
theorem dX12_next_139 : decode cX12_next 139 = .ok (.getfield 144, 3) := by decide +kernel
theorem dX12_next_142 : decode cX12_next 142 = .ok (.ldc2_w 147, 3) := by decide +kernel
theorem dX12_next_145 : decode cX12_next 145 = .ok (.lmul, 1) := by decide +kernel
theorem dX12_next_146 : decode cX12_next 146 = .ok (.aload_n 0, 1) := by decide +kernel
theorem dX12_next_147 : decode cX12_next 147 = .ok (.aload_n 0, 1) := by decide +kernel
theorem dX12_next_148 : decode cX12_next 148 = .ok (.getfield 129, 3) := by decide +kernel
theorem dX12_next_151 : decode cX12_next 151 = .ok (.invokevirtual 135, 3) := by decide +kernel
theorem dX12_next_154 : decode cX12_next 154 = .ok (.i2l, 1) := by decide +kernel
theorem dX12_next_155 : decode cX12_next 155 = .ok (.ladd, 1) := by decide +kernel
theorem dX12_next_156 : decode cX12_next 156 = .ok (.ldc2_w 149, 3) := by decide +kernel
theorem dX12_next_159 : decode cX12_next 159 = .ok (.lsub, 1) := by decide +kernel
theorem dX12_next_160 : decode cX12_next 160 = .ok (.goto 6, 3) := by decide +kernel
theorem dX12_next_163 : decode cX12_next 163 = .ok (.ldc2_w 118, 3) := by decide +kernel
theorem dX12_next_166 : decode cX12_next 166 = .ok (.putfield 144, 3) := by decide +kernel
theorem dX12_next_169 : decode cX12_next 169 = .ok (.aload_n 0, 1) := by decide +kernel
theorem dX12_next_170 : decode cX12_next 170 = .ok (.dup, 1) := by decide +kernel
theorem dX12_next_171 : decode cX12_next 171 = .ok (.getfield 129, 3) := by decide +kernel
theorem dX12_next_174 : decode cX12_next 174 = .ok (.iconst 1, 1) := by decide +kernel
theorem dX12_next_175 : decode cX12_next 175 = .ok (.iadd, 1) := by decide +kernel
theorem dX12_next_176 : decode cX12_next 176 = .ok (.putfield 129, 3) := by decide +kernel
theorem dX12_next_179 : decode cX12_next 179 = .ok (.goto (-70), 3) := by decide +kernel
theorem dX12_next_182 : decode cX12_next 182 = .ok (.aload_n 0, 1) := by decide +kernel
theorem dX12_next_183 : decode cX12_next 183 = .ok (.aload_n 0, 1) := by decide +kernel
theorem dX12_next_184 : decode cX12_next 184 = .ok (.getfield 129, 3) := by decide +kernel
theorem dX12_next_187 : decode cX12_next 187 = .ok (.aload_n 0, 1) := by decide +kernel
theorem dX12_next_188 : decode cX12_next 188 = .ok (.getfield 132, 3) := by decide +kernel
theorem dX12_next_191 : decode cX12_next 191 = .ok (.isub, 1) := by decide +kernel
theorem dX12_next_192 : decode cX12_next 192 = .ok (.putfield 151, 3) := by decide +kernel
theorem dX12_next_195 : decode cX12_next 195 = .ok (.goto 135, 3) := by decide +kernel
theorem dX12_next_198 : decode cX12_next 198 = .ok (.iload_n 1, 1) := by decide +kernel
theorem dX12_next_199 : decode cX12_next 199 = .ok (.invokestatic 154, 3) := by decide +kernel
theorem dX12_next_202 : decode cX12_next 202 = .ok (.ifCond .eq 96, 3) := by decide +kernel
theorem dX12_next_205 : decode cX12_next 205 = .ok (.aload_n 0, 1) := by decide +kernel
theorem dX12_next_206 : decode cX12_next 206 = .ok (.iconst 0, 1) := by decide +kernel
theorem dX12_next_207 : decode cX12_next 207 = .ok (.putfield 157, 3) := by decide +kernel
theorem dX12_next_210 : decode cX12_next 210 = .ok (.aload_n 0, 1) := by decide +kernel
theorem dX12_next_211 : decode cX12_next 211 = .ok (.aload_n 0, 1) := by decide +kernel
theorem dX12_next_212 : decode cX12_next 212 = .ok (.getfield 129, 3) := by decide +kernel
theorem dX12_next_215 : decode cX12_next 215 = .ok (.invokevirtual 135, 3) := by decide +kernel
theorem dX12_next_218 : decode cX12_next 218 = .ok (.invokestatic 154, 3) := by decide +kernel
theorem dX12_next_221 : decode cX12_next 221 = .ok (.ifCond .eq 52, 3) := by decide +kernel
theorem dX12_next_224 : decode cX12_next 224 = .ok (.aload_n 0, 1) := by decide +kernel
theorem dX12_next_225 : decode cX12_next 225 = .ok (.getfield 129, 3) := by decide +kernel
theorem dX12_next_228 : decode cX12_next 228 = .ok (.aload_n 0, 1) := by decide +kernel
theorem dX12_next_229 : decode cX12_next 229 = .ok (.getfield 132, 3) := by decide +kernel
theorem dX12_next_232 : decode cX12_next 232 = .ok (.isub, 1) := by decide +kernel
theorem dX12_next_233 : decode cX12_next 233 = .ok (.iconst 4, 1) := by decide +kernel
theorem dX12_next_234 : decode cX12_next 234 = .ok (.if_icmp .ge 26, 3) := by decide +kernel
theorem dX12_next_237 : decode cX12_next 237 = .ok (.aload_n 0, 1) := by decide +kernel
theorem dX12_next_238 : decode cX12_next 238 = .ok (.bipush 10, 2) := by decide +kernel
theorem dX12_next_240 : decode cX12_next 240 = .ok (.aload_n 0, 1) := by decide +kernel
theorem dX12_next_241 : decode cX12_next 241 = .ok (.getfield 157, 3) := by decide +kernel
theorem dX12_next_244 : decode cX12_next 244 = .ok (.imul, 1) := by decide +kernel
theorem dX12_next_245 : decode cX12_next 245 = .ok (.aload_n 0, 1) := by decide +kernel
theorem dX12_next_246 : decode cX12_next 246 = .ok (.aload_n 0, 1) := by decide +kernel
theorem dX12_next_247 : decode cX12_next 247 = .ok (.getfield 129, 3) := by decide +kernel
