theorem dX0_init_0 : decode cX0_init 0 = .ok (.aload_n 0, 1) := by decide +kernel
theorem dX0_init_1 : decode cX0_init 1 = .ok (.invokespecial 3, 3) := by decide +kernel
theorem dX0_init_4 : decode cX0_init 4 = .ok (.aload_n 0, 1) := by decide +kernel
theorem dX0_init_5 : decode cX0_init 5 = .ok (.bipush 7, 2) := by decide +kernel
theorem dX0_init_7 : decode cX0_init 7 = .ok (.newarray .int, 2) := by decide +kernel
theorem dX0_init_9 : decode cX0_init 9 = .ok (.putfield 9, 3) := by decide +kernel
theorem dX0_init_12 : decode cX0_init 12 = .ok (.aload_n 0, 1) := by decide +kernel
theorem dX0_init_13 : decode cX0_init 13 = .ok (.iconst 0, 1) := by decide +kernel
theorem dX0_init_14 : decode cX0_init 14 = .ok (.putfield 15, 3) := by decide +kernel
theorem dX0_init_17 : decode cX0_init 17 = .ok (.aload_n 0, 1) := by decide +kernel
theorem dX0_init_18 : decode cX0_init 18 = .ok (.iconst 0, 1) := by decide +kernel
theorem dX0_init_19 : decode cX0_init 19 = .ok (.putfield 19, 3) := by decide +kernel
theorem dX0_init_22 : decode cX0_init 22 = .ok (.aload_n 0, 1) := by decide +kernel
theorem dX0_init_23 : decode cX0_init 23 = .ok (.iconst 1, 1) := by decide +kernel
theorem dX0_init_24 : decode cX0_init 24 = .ok (.putfield 22, 3) := by decide +kernel
theorem dX0_init_27 : decode cX0_init 27 = .ok (.aload_n 0, 1) := by decide +kernel
theorem dX0_init_28 : decode cX0_init 28 = .ok (.aload_n 1, 1) := by decide +kernel
theorem dX0_init_29 : decode cX0_init 29 = .ok (.putfield 25, 3) := by decide +kernel
theorem dX0_init_32 : decode cX0_init 32 = .ok (.aload_n 0, 1) := by decide +kernel
theorem dX0_init_33 : decode cX0_init 33 = .ok (.new 29, 3) := by decide +kernel
theorem dX0_init_36 : decode cX0_init 36 = .ok (.dup, 1) := by decide +kernel
theorem dX0_init_37 : decode cX0_init 37 = .ok (.aload_n 1, 1) := by decide +kernel
theorem dX0_init_38 : decode cX0_init 38 = .ok (.invokespecial 31, 3) := by decide +kernel
theorem dX0_init_41 : decode cX0_init 41 = .ok (.putfield 34, 3) := by decide +kernel
theorem dX0_init_44 : decode cX0_init 44 = .ok (.aload_n 0, 1) := by decide +kernel
theorem dX0_init_45 : decode cX0_init 45 = .ok (.new 38, 3) := by decide +kernel
theorem dX0_init_48 : decode cX0_init 48 = .ok (.dup, 1) := by decide +kernel
theorem dX0_init_49 : decode cX0_init 49 = .ok (.aload_n 1, 1) := by decide +kernel
theorem dX0_init_50 : decode cX0_init 50 = .ok (.invokespecial 40, 3) := by decide +kernel
theorem dX0_init_53 : decode cX0_init 53 = .ok (.putfield 41, 3) := by decide +kernel
theorem dX0_init_56 : decode cX0_init 56 = .ok (.return_, 1) := by decide +kernel
theorem dX0_weigh_0 : decode cX0_weigh 0 = .ok (.aload_n 0, 1) := by decide +kernel
theorem dX0_weigh_1 : decode cX0_weigh 1 = .ok (.iconst 0, 1) := by decide +kernel
theorem dX0_weigh_2 : decode cX0_weigh 2 = .ok (.putfield 15, 3) := by decide +kernel
theorem dX0_weigh_5 : decode cX0_weigh 5 = .ok (.iconst 0, 1) := by decide +kernel
theorem dX0_weigh_6 : decode cX0_weigh 6 = .ok (.istore 4, 2) := by decide +kernel
theorem dX0_weigh_8 : decode cX0_weigh 8 = .ok (.iload 4, 2) := by decide +kernel
theorem dX0_weigh_10 : decode cX0_weigh 10 = .ok (.bipush 7, 2) := by decide +kernel
theorem dX0_weigh_12 : decode cX0_weigh 12 = .ok (.if_icmp .ge 61, 3) := by decide +kernel
theorem dX0_weigh_15 : decode cX0_weigh 15 = .ok (.iload 4, 2) := by decide +kernel
theorem dX0_weigh_17 : decode cX0_weigh 17 = .ok (.aload_n 0, 1) := by decide +kernel
theorem dX0_weigh_18 : decode cX0_weigh 18 = .ok (.getfield 25, 3) := by decide +kernel
theorem dX0_weigh_21 : decode cX0_weigh 21 = .ok (.getfield 45, 3) := by decide +kernel
theorem dX0_weigh_24 : decode cX0_weigh 24 = .ok (.if_icmp .ge 49, 3) := by decide +kernel
theorem dX0_weigh_27 : decode cX0_weigh 27 = .ok (.aload_n 1, 1) := by decide +kernel
theorem dX0_weigh_28 : decode cX0_weigh 28 = .ok (.getfield 50, 3) := by decide +kernel
theorem dX0_weigh_31 : decode cX0_weigh 31 = .ok (.iload 4, 2) := by decide +kernel
theorem dX0_weigh_33 : decode cX0_weigh 33 = .ok (.iaload, 1) := by decide +kernel
theorem dX0_weigh_34 : decode cX0_weigh 34 = .ok (.ifCond .ne 33, 3) := by decide +kernel
theorem dX0_weigh_37 : decode cX0_weigh 37 = .ok (.aload_n 0, 1) := by decide +kernel
theorem dX0_weigh_38 : decode cX0_weigh 38 = .ok (.getfield 15, 3) := by decide +kernel
theorem dX0_weigh_41 : decode cX0_weigh 41 = .ok (.bipush 7, 2) := by decide +kernel
theorem dX0_weigh_43 : decode cX0_weigh 43 = .ok (.if_icmp .ge 24, 3) := by decide +kernel
theorem dX0_weigh_46 : decode cX0_weigh 46 = .ok (.aload_n 0, 1) := by decide +kernel
theorem dX0_weigh_47 : decode cX0_weigh 47 = .ok (.getfield 9, 3) := by decide +kernel
theorem dX0_weigh_50 : decode cX0_weigh 50 = .ok (.aload_n 0, 1) := by decide +kernel
theorem dX0_weigh_51 : decode cX0_weigh 51 = .ok (.getfield 15, 3) := by decide +kernel
theorem dX0_weigh_54 : decode cX0_weigh 54 = .ok (.iload 4, 2) := by decide +kernel
theorem dX0_weigh_56 : decode cX0_weigh 56 = .ok (.iastore, 1) := by decide +kernel
theorem dX0_weigh_57 : decode cX0_weigh 57 = .ok (.aload_n 0, 1) := by decide +kernel
theorem dX0_weigh_58 : decode cX0_weigh 58 = .ok (.dup, 1) := by decide +kernel
theorem dX0_weigh_59 : decode cX0_weigh 59 = .ok (.getfield 15, 3) := by decide +kernel
theorem dX0_weigh_62 : decode cX0_weigh 62 = .ok (.iconst 1, 1) := by decide +kernel
theorem dX0_weigh_63 : decode cX0_weigh 63 = .ok (.iadd, 1) := by decide +kernel
theorem dX0_weigh_64 : decode cX0_weigh 64 = .ok (.putfield 15, 3) := by decide +kernel
theorem dX0_weigh_67 : decode cX0_weigh 67 = .ok (.iinc 4 1, 3) := by decide +kernel
theorem dX0_weigh_70 : decode cX0_weigh 70 = .ok (.goto (-62), 3) := by decide +kernel
theorem dX0_weigh_73 : decode cX0_weigh 73 = .ok (.aload_n 0, 1) := by decide +kernel
theorem dX0_weigh_74 : decode cX0_weigh 74 = .ok (.getfield 34, 3) := by decide +kernel
theorem dX0_weigh_77 : decode cX0_weigh 77 = .ok (.aload_n 1, 1) := by decide +kernel
theorem dX0_weigh_78 : decode cX0_weigh 78 = .ok (.invokevirtual 53, 3) := by decide +kernel
theorem dX0_weigh_81 : decode cX0_weigh 81 = .ok (.aload_n 0, 1) := by decide +kernel
theorem dX0_weigh_82 : decode cX0_weigh 82 = .ok (.iconst 0, 1) := by decide +kernel
theorem dX0_weigh_83 : decode cX0_weigh 83 = .ok (.putfield 19, 3) := by decide +kernel
theorem dX0_weigh_86 : decode cX0_weigh 86 = .ok (.iconst 0, 1) := by decide +kernel
theorem dX0_weigh_87 : decode cX0_weigh 87 = .ok (.istore 4, 2) := by decide +kernel
theorem dX0_weigh_89 : decode cX0_weigh 89 = .ok (.iload 4, 2) := by decide +kernel
theorem dX0_weigh_91 : decode cX0_weigh 91 = .ok (.iconst 1, 1) := by decide +kernel
theorem dX0_weigh_92 : decode cX0_weigh 92 = .ok (.aload_n 0, 1) := by decide +kernel
theorem dX0_weigh_93 : decode cX0_weigh 93 = .ok (.getfield 15, 3) := by decide +kernel
theorem dX0_weigh_96 : decode cX0_weigh 96 = .ok (.ishl, 1) := by decide +kernel
theorem dX0_weigh_97 : decode cX0_weigh 97 = .ok (.if_icmp .ge 44, 3) := by decide +kernel
theorem dX0_weigh_100 : decode cX0_weigh 100 = .ok (.aload_n 0, 1) := by decide +kernel
theorem dX0_weigh_101 : decode cX0_weigh 101 = .ok (.iload 4, 2) := by decide +kernel
theorem dX0_weigh_103 : decode cX0_weigh 103 = .ok (.iload_n 3, 1) := by decide +kernel
theorem dX0_weigh_104 : decode cX0_weigh 104 = .ok (.invokevirtual 57, 3) := by decide +kernel
theorem dX0_weigh_107 : decode cX0_weigh 107 = .ok (.istore 5, 2) := by decide +kernel
theorem dX0_weigh_109 : decode cX0_weigh 109 = .ok (.iload 5, 2) := by decide +kernel
theorem dX0_weigh_111 : decode cX0_weigh 111 = .ok (.ifCond .le 24, 3) := by decide +kernel
theorem dX0_weigh_114 : decode cX0_weigh 114 = .ok (.aload_n 0, 1) := by decide +kernel
theorem dX0_weigh_115 : decode cX0_weigh 115 = .ok (.iload 4, 2) := by decide +kernel
theorem dX0_weigh_117 : decode cX0_weigh 117 = .ok (.iload_n 2, 1) := by decide +kernel
theorem dX0_weigh_118 : decode cX0_weigh 118 = .ok (.invokevirtual 61, 3) := by decide +kernel
theorem dX0_weigh_121 : decode cX0_weigh 121 = .ok (.ifCond .eq 14, 3) := by decide +kernel
theorem dX0_weigh_124 : decode cX0_weigh 124 = .ok (.aload_n 0, 1) := by decide +kernel
theorem dX0_weigh_125 : decode cX0_weigh 125 = .ok (.dup, 1) := by decide +kernel
theorem dX0_weigh_126 : decode cX0_weigh 126 = .ok (.getfield 19, 3) := by decide +kernel
theorem dX0_weigh_129 : decode cX0_weigh 129 = .ok (.iload 5, 2) := by decide +kernel
theorem dX0_weigh_131 : decode cX0_weigh 131 = .ok (.iadd, 1) := by decide +kernel
theorem dX0_weigh_132 : decode cX0_weigh 132 = .ok (.putfield 19, 3) := by decide +kernel
theorem dX0_weigh_135 : decode cX0_weigh 135 = .ok (.iinc 4 1, 3) := by decide +kernel
theorem dX0_weigh_138 : decode cX0_weigh 138 = .ok (.goto (-49), 3) := by decide +kernel
theorem dX0_weigh_141 : decode cX0_weigh 141 = .ok (.aload_n 0, 1) := by decide +kernel
theorem dX0_weigh_142 : decode cX0_weigh 142 = .ok (.iconst 1, 1) := by decide +kernel
theorem dX0_weigh_143 : decode cX0_weigh 143 = .ok (.putfield 22, 3) := by decide +kernel
theorem dX0_weigh_146 : decode cX0_weigh 146 = .ok (.iconst 0, 1) := by decide +kernel
theorem dX0_weigh_147 : decode cX0_weigh 147 = .ok (.istore 4, 2) := by decide +kernel
theorem dX0_weigh_149 : decode cX0_weigh 149 = .ok (.iload 4, 2) := by decide +kernel
theorem dX0_weigh_151 : decode cX0_weigh 151 = .ok (.aload_n 0, 1) := by decide +kernel
theorem dX0_weigh_152 : decode cX0_weigh 152 = .ok (.getfield 15, 3) := by decide +kernel
theorem dX0_weigh_155 : decode cX0_weigh 155 = .ok (.if_icmp .ge 20, 3) := by decide +kernel
theorem dX0_weigh_158 : decode cX0_weigh 158 = .ok (.aload_n 0, 1) := by decide +kernel
theorem dX0_weigh_159 : decode cX0_weigh 159 = .ok (.dup, 1) := by decide +kernel
theorem dX0_weigh_160 : decode cX0_weigh 160 = .ok (.getfield 22, 3) := by decide +kernel
theorem dX0_weigh_163 : decode cX0_weigh 163 = .ok (.bipush 10, 2) := by decide +kernel
theorem dX0_weigh_165 : decode cX0_weigh 165 = .ok (.imul, 1) := by decide +kernel
theorem dX0_weigh_166 : decode cX0_weigh 166 = .ok (.putfield 22, 3) := by decide +kernel
theorem dX0_weigh_169 : decode cX0_weigh 169 = .ok (.iinc 4 1, 3) := by decide +kernel
theorem dX0_weigh_172 : decode cX0_weigh 172 = .ok (.goto (-23), 3) := by decide +kernel
theorem dX0_weigh_175 : decode cX0_weigh 175 = .ok (.aload_n 0, 1) := by decide +kernel
theorem dX0_weigh_176 : decode cX0_weigh 176 = .ok (.invokevirtual 65, 3) := by decide +kernel
theorem dX0_weigh_179 : decode cX0_weigh 179 = .ok (.return_, 1) := by decide +kernel
theorem dX0_weightOf_0 : decode cX0_weightOf 0 = .ok (.iconst 1, 1) := by decide +kernel
theorem dX0_weightOf_1 : decode cX0_weightOf 1 = .ok (.istore_n 3, 1) := by decide +kernel
theorem dX0_weightOf_2 : decode cX0_weightOf 2 = .ok (.iconst 0, 1) := by decide +kernel
theorem dX0_weightOf_3 : decode cX0_weightOf 3 = .ok (.istore 4, 2) := by decide +kernel
theorem dX0_weightOf_5 : decode cX0_weightOf 5 = .ok (.iload 4, 2) := by decide +kernel
theorem dX0_weightOf_7 : decode cX0_weightOf 7 = .ok (.aload_n 0, 1) := by decide +kernel
theorem dX0_weightOf_8 : decode cX0_weightOf 8 = .ok (.getfield 15, 3) := by decide +kernel
theorem dX0_weightOf_11 : decode cX0_weightOf 11 = .ok (.if_icmp .ge 30, 3) := by decide +kernel
theorem dX0_weightOf_14 : decode cX0_weightOf 14 = .ok (.iload_n 3, 1) := by decide +kernel
theorem dX0_weightOf_15 : decode cX0_weightOf 15 = .ok (.iload_n 1, 1) := by decide +kernel
theorem dX0_weightOf_16 : decode cX0_weightOf 16 = .ok (.iload 4, 2) := by decide +kernel
theorem dX0_weightOf_18 : decode cX0_weightOf 18 = .ok (.ishr, 1) := by decide +kernel
theorem dX0_weightOf_19 : decode cX0_weightOf 19 = .ok (.iconst 1, 1) := by decide +kernel
theorem dX0_weightOf_20 : decode cX0_weightOf 20 = .ok (.iand, 1) := by decide +kernel
theorem dX0_weightOf_21 : decode cX0_weightOf 21 = .ok (.iconst 1, 1) := by decide +kernel
theorem dX0_weightOf_22 : decode cX0_weightOf 22 = .ok (.if_icmp .ne 7, 3) := by decide +kernel
theorem dX0_weightOf_25 : decode cX0_weightOf 25 = .ok (.iload_n 2, 1) := by decide +kernel
theorem dX0_weightOf_26 : decode cX0_weightOf 26 = .ok (.goto 7, 3) := by decide +kernel
theorem dX0_weightOf_29 : decode cX0_weightOf 29 = .ok (.bipush 10, 2) := by decide +kernel
theorem dX0_weightOf_31 : decode cX0_weightOf 31 = .ok (.iload_n 2, 1) := by decide +kernel
theorem dX0_weightOf_32 : decode cX0_weightOf 32 = .ok (.isub, 1) := by decide +kernel
theorem dX0_weightOf_33 : decode cX0_weightOf 33 = .ok (.imul, 1) := by decide +kernel
theorem dX0_weightOf_34 : decode cX0_weightOf 34 = .ok (.istore_n 3, 1) := by decide +kernel
theorem dX0_weightOf_35 : decode cX0_weightOf 35 = .ok (.iinc 4 1, 3) := by decide +kernel
theorem dX0_weightOf_38 : decode cX0_weightOf 38 = .ok (.goto (-33), 3) := by decide +kernel
theorem dX0_weightOf_41 : decode cX0_weightOf 41 = .ok (.iload_n 3, 1) := by decide +kernel
theorem dX0_weightOf_42 : decode cX0_weightOf 42 = .ok (.ireturn, 1) := by decide +kernel
theorem dX0_isFreeWithout_0 : decode cX0_isFreeWithout 0 = .ok (.iconst 0, 1) := by decide +kernel
theorem dX0_isFreeWithout_1 : decode cX0_isFreeWithout 1 = .ok (.istore_n 3, 1) := by decide +kernel
theorem dX0_isFreeWithout_2 : decode cX0_isFreeWithout 2 = .ok (.iload_n 3, 1) := by decide +kernel
theorem dX0_isFreeWithout_3 : decode cX0_isFreeWithout 3 = .ok (.bipush 7, 2) := by decide +kernel
theorem dX0_isFreeWithout_5 : decode cX0_isFreeWithout 5 = .ok (.if_icmp .ge 61, 3) := by decide +kernel
theorem dX0_isFreeWithout_8 : decode cX0_isFreeWithout 8 = .ok (.iload_n 3, 1) := by decide +kernel
theorem dX0_isFreeWithout_9 : decode cX0_isFreeWithout 9 = .ok (.aload_n 0, 1) := by decide +kernel
theorem dX0_isFreeWithout_10 : decode cX0_isFreeWithout 10 = .ok (.getfield 15, 3) := by decide +kernel
theorem dX0_isFreeWithout_13 : decode cX0_isFreeWithout 13 = .ok (.if_icmp .ge 53, 3) := by decide +kernel
theorem dX0_isFreeWithout_16 : decode cX0_isFreeWithout 16 = .ok (.aload_n 0, 1) := by decide +kernel
theorem dX0_isFreeWithout_17 : decode cX0_isFreeWithout 17 = .ok (.getfield 25, 3) := by decide +kernel
theorem dX0_isFreeWithout_20 : decode cX0_isFreeWithout 20 = .ok (.aload_n 0, 1) := by decide +kernel
theorem dX0_isFreeWithout_21 : decode cX0_isFreeWithout 21 = .ok (.getfield 9, 3) := by decide +kernel
theorem dX0_isFreeWithout_24 : decode cX0_isFreeWithout 24 = .ok (.iload_n 3, 1) := by decide +kernel
theorem dX0_isFreeWithout_25 : decode cX0_isFreeWithout 25 = .ok (.iaload, 1) := by decide +kernel
theorem dX0_isFreeWithout_26 : decode cX0_isFreeWithout 26 = .ok (.invokevirtual 68, 3) := by decide +kernel
theorem dX0_isFreeWithout_29 : decode cX0_isFreeWithout 29 = .ok (.ifCond .eq 31, 3) := by decide +kernel
theorem dX0_isFreeWithout_32 : decode cX0_isFreeWithout 32 = .ok (.aload_n 0, 1) := by decide +kernel
theorem dX0_isFreeWithout_33 : decode cX0_isFreeWithout 33 = .ok (.getfield 34, 3) := by decide +kernel
theorem dX0_isFreeWithout_36 : decode cX0_isFreeWithout 36 = .ok (.getfield 50, 3) := by decide +kernel
theorem dX0_isFreeWithout_39 : decode cX0_isFreeWithout 39 = .ok (.aload_n 0, 1) := by decide +kernel
theorem dX0_isFreeWithout_40 : decode cX0_isFreeWithout 40 = .ok (.getfield 9, 3) := by decide +kernel
theorem dX0_isFreeWithout_43 : decode cX0_isFreeWithout 43 = .ok (.iload_n 3, 1) := by decide +kernel
theorem dX0_isFreeWithout_44 : decode cX0_isFreeWithout 44 = .ok (.iaload, 1) := by decide +kernel
theorem dX0_isFreeWithout_45 : decode cX0_isFreeWithout 45 = .ok (.iload_n 1, 1) := by decide +kernel
theorem dX0_isFreeWithout_46 : decode cX0_isFreeWithout 46 = .ok (.iload_n 3, 1) := by decide +kernel
theorem dX0_isFreeWithout_47 : decode cX0_isFreeWithout 47 = .ok (.ishr, 1) := by decide +kernel
theorem dX0_isFreeWithout_48 : decode cX0_isFreeWithout 48 = .ok (.iconst 1, 1) := by decide +kernel
theorem dX0_isFreeWithout_49 : decode cX0_isFreeWithout 49 = .ok (.iand, 1) := by decide +kernel
theorem dX0_isFreeWithout_50 : decode cX0_isFreeWithout 50 = .ok (.iconst 1, 1) := by decide +kernel
theorem dX0_isFreeWithout_51 : decode cX0_isFreeWithout 51 = .ok (.if_icmp .ne 7, 3) := by decide +kernel
theorem dX0_isFreeWithout_54 : decode cX0_isFreeWithout 54 = .ok (.iconst 3, 1) := by decide +kernel
theorem dX0_isFreeWithout_55 : decode cX0_isFreeWithout 55 = .ok (.goto 4, 3) := by decide +kernel
theorem dX0_isFreeWithout_58 : decode cX0_isFreeWithout 58 = .ok (.iconst 0, 1) := by decide +kernel
theorem dX0_isFreeWithout_59 : decode cX0_isFreeWithout 59 = .ok (.iastore, 1) := by decide +kernel
theorem dX0_isFreeWithout_60 : decode cX0_isFreeWithout 60 = .ok (.iinc 3 1, 3) := by decide +kernel
theorem dX0_isFreeWithout_63 : decode cX0_isFreeWithout 63 = .ok (.goto (-61), 3) := by decide +kernel
theorem dX0_isFreeWithout_66 : decode cX0_isFreeWithout 66 = .ok (.aload_n 0, 1) := by decide +kernel
theorem dX0_isFreeWithout_67 : decode cX0_isFreeWithout 67 = .ok (.getfield 41, 3) := by decide +kernel
theorem dX0_isFreeWithout_70 : decode cX0_isFreeWithout 70 = .ok (.aload_n 0, 1) := by decide +kernel
theorem dX0_isFreeWithout_71 : decode cX0_isFreeWithout 71 = .ok (.getfield 34, 3) := by decide +kernel
theorem dX0_isFreeWithout_74 : decode cX0_isFreeWithout 74 = .ok (.invokevirtual 72, 3) := by decide +kernel
theorem dX0_isFreeWithout_77 : decode cX0_isFreeWithout 77 = .ok (.aload_n 0, 1) := by decide +kernel
theorem dX0_isFreeWithout_78 : decode cX0_isFreeWithout 78 = .ok (.getfield 25, 3) := by decide +kernel
theorem dX0_isFreeWithout_81 : decode cX0_isFreeWithout 81 = .ok (.iload_n 2, 1) := by decide +kernel
theorem dX0_isFreeWithout_82 : decode cX0_isFreeWithout 82 = .ok (.invokevirtual 68, 3) := by decide +kernel
theorem dX0_isFreeWithout_85 : decode cX0_isFreeWithout 85 = .ok (.ifCond .eq 21, 3) := by decide +kernel
theorem dX0_isFreeWithout_88 : decode cX0_isFreeWithout 88 = .ok (.aload_n 0, 1) := by decide +kernel
theorem dX0_isFreeWithout_89 : decode cX0_isFreeWithout 89 = .ok (.getfield 41, 3) := by decide +kernel
theorem dX0_isFreeWithout_92 : decode cX0_isFreeWithout 92 = .ok (.getfield 75, 3) := by decide +kernel
theorem dX0_isFreeWithout_95 : decode cX0_isFreeWithout 95 = .ok (.iload_n 2, 1) := by decide +kernel
theorem dX0_isFreeWithout_96 : decode cX0_isFreeWithout 96 = .ok (.iaload, 1) := by decide +kernel
theorem dX0_isFreeWithout_97 : decode cX0_isFreeWithout 97 = .ok (.bipush 99, 2) := by decide +kernel
theorem dX0_isFreeWithout_99 : decode cX0_isFreeWithout 99 = .ok (.if_icmp .gt 7, 3) := by decide +kernel
theorem dX0_isFreeWithout_102 : decode cX0_isFreeWithout 102 = .ok (.iconst 1, 1) := by decide +kernel
theorem dX0_isFreeWithout_103 : decode cX0_isFreeWithout 103 = .ok (.goto 4, 3) := by decide +kernel
theorem dX0_isFreeWithout_106 : decode cX0_isFreeWithout 106 = .ok (.iconst 0, 1) := by decide +kernel
theorem dX0_isFreeWithout_107 : decode cX0_isFreeWithout 107 = .ok (.ireturn, 1) := by decide +kernel
theorem dX0_lower_0 : decode cX0_lower 0 = .ok (.aload_n 0, 1) := by decide +kernel
theorem dX0_lower_1 : decode cX0_lower 1 = .ok (.getfield 22, 3) := by decide +kernel
theorem dX0_lower_4 : decode cX0_lower 4 = .ok (.istore_n 1, 1) := by decide +kernel
theorem dX0_lower_5 : decode cX0_lower 5 = .ok (.aload_n 0, 1) := by decide +kernel
theorem dX0_lower_6 : decode cX0_lower 6 = .ok (.getfield 19, 3) := by decide +kernel
theorem dX0_lower_9 : decode cX0_lower 9 = .ok (.istore_n 2, 1) := by decide +kernel
theorem dX0_lower_10 : decode cX0_lower 10 = .ok (.iconst 0, 1) := by decide +kernel
theorem dX0_lower_11 : decode cX0_lower 11 = .ok (.istore_n 3, 1) := by decide +kernel
theorem dX0_lower_12 : decode cX0_lower 12 = .ok (.iload_n 3, 1) := by decide +kernel
theorem dX0_lower_13 : decode cX0_lower 13 = .ok (.bipush 100, 2) := by decide +kernel
theorem dX0_lower_15 : decode cX0_lower 15 = .ok (.if_icmp .ge 23, 3) := by decide +kernel
theorem dX0_lower_18 : decode cX0_lower 18 = .ok (.iload_n 2, 1) := by decide +kernel
theorem dX0_lower_19 : decode cX0_lower 19 = .ok (.ifCond .eq 19, 3) := by decide +kernel
theorem dX0_lower_22 : decode cX0_lower 22 = .ok (.iload_n 1, 1) := by decide +kernel
theorem dX0_lower_23 : decode cX0_lower 23 = .ok (.iload_n 2, 1) := by decide +kernel
theorem dX0_lower_24 : decode cX0_lower 24 = .ok (.irem, 1) := by decide +kernel
theorem dX0_lower_25 : decode cX0_lower 25 = .ok (.istore 4, 2) := by decide +kernel
theorem dX0_lower_27 : decode cX0_lower 27 = .ok (.iload_n 2, 1) := by decide +kernel
theorem dX0_lower_28 : decode cX0_lower 28 = .ok (.istore_n 1, 1) := by decide +kernel
theorem dX0_lower_29 : decode cX0_lower 29 = .ok (.iload 4, 2) := by decide +kernel
theorem dX0_lower_31 : decode cX0_lower 31 = .ok (.istore_n 2, 1) := by decide +kernel
theorem dX0_lower_32 : decode cX0_lower 32 = .ok (.iinc 3 1, 3) := by decide +kernel
theorem dX0_lower_35 : decode cX0_lower 35 = .ok (.goto (-23), 3) := by decide +kernel
theorem dX0_lower_38 : decode cX0_lower 38 = .ok (.iload_n 1, 1) := by decide +kernel
theorem dX0_lower_39 : decode cX0_lower 39 = .ok (.ifCond .le 23, 3) := by decide +kernel
theorem dX0_lower_42 : decode cX0_lower 42 = .ok (.aload_n 0, 1) := by decide +kernel
theorem dX0_lower_43 : decode cX0_lower 43 = .ok (.dup, 1) := by decide +kernel
theorem dX0_lower_44 : decode cX0_lower 44 = .ok (.getfield 19, 3) := by decide +kernel
theorem dX0_lower_47 : decode cX0_lower 47 = .ok (.iload_n 1, 1) := by decide +kernel
theorem dX0_lower_48 : decode cX0_lower 48 = .ok (.idiv, 1) := by decide +kernel
theorem dX0_lower_49 : decode cX0_lower 49 = .ok (.putfield 19, 3) := by decide +kernel
theorem dX0_lower_52 : decode cX0_lower 52 = .ok (.aload_n 0, 1) := by decide +kernel
theorem dX0_lower_53 : decode cX0_lower 53 = .ok (.dup, 1) := by decide +kernel
theorem dX0_lower_54 : decode cX0_lower 54 = .ok (.getfield 22, 3) := by decide +kernel
theorem dX0_lower_57 : decode cX0_lower 57 = .ok (.iload_n 1, 1) := by decide +kernel
theorem dX0_lower_58 : decode cX0_lower 58 = .ok (.idiv, 1) := by decide +kernel
theorem dX0_lower_59 : decode cX0_lower 59 = .ok (.putfield 22, 3) := by decide +kernel
theorem dX0_lower_62 : decode cX0_lower 62 = .ok (.return_, 1) := by decide +kernel
theorem dX1_init_0 : decode cX1_init 0 = .ok (.aload_n 0, 1) := by decide +kernel
theorem dX1_init_1 : decode cX1_init 1 = .ok (.invokespecial 3, 3) := by decide +kernel
theorem dX1_init_4 : decode cX1_init 4 = .ok (.aload_n 0, 1) := by decide +kernel
theorem dX1_init_5 : decode cX1_init 5 = .ok (.bipush 7, 2) := by decide +kernel
theorem dX1_init_7 : decode cX1_init 7 = .ok (.newarray .int, 2) := by decide +kernel
theorem dX1_init_9 : decode cX1_init 9 = .ok (.putfield 9, 3) := by decide +kernel
theorem dX1_init_12 : decode cX1_init 12 = .ok (.aload_n 0, 1) := by decide +kernel
theorem dX1_init_13 : decode cX1_init 13 = .ok (.bipush 7, 2) := by decide +kernel
theorem dX1_init_15 : decode cX1_init 15 = .ok (.newarray .int, 2) := by decide +kernel
theorem dX1_init_17 : decode cX1_init 17 = .ok (.putfield 15, 3) := by decide +kernel
theorem dX1_init_20 : decode cX1_init 20 = .ok (.aload_n 0, 1) := by decide +kernel
theorem dX1_init_21 : decode cX1_init 21 = .ok (.bipush 7, 2) := by decide +kernel
theorem dX1_init_23 : decode cX1_init 23 = .ok (.newarray .int, 2) := by decide +kernel
theorem dX1_init_25 : decode cX1_init 25 = .ok (.putfield 18, 3) := by decide +kernel
theorem dX1_init_28 : decode cX1_init 28 = .ok (.aload_n 0, 1) := by decide +kernel
theorem dX1_init_29 : decode cX1_init 29 = .ok (.iconst 0, 1) := by decide +kernel
theorem dX1_init_30 : decode cX1_init 30 = .ok (.putfield 21, 3) := by decide +kernel
theorem dX1_init_33 : decode cX1_init 33 = .ok (.aload_n 0, 1) := by decide +kernel
theorem dX1_init_34 : decode cX1_init 34 = .ok (.iconst 0, 1) := by decide +kernel
theorem dX1_init_35 : decode cX1_init 35 = .ok (.putfield 25, 3) := by decide +kernel
theorem dX1_init_38 : decode cX1_init 38 = .ok (.aload_n 0, 1) := by decide +kernel
theorem dX1_init_39 : decode cX1_init 39 = .ok (.iconst 0, 1) := by decide +kernel
theorem dX1_init_40 : decode cX1_init 40 = .ok (.putfield 28, 3) := by decide +kernel
theorem dX1_init_43 : decode cX1_init 43 = .ok (.aload_n 0, 1) := by decide +kernel
theorem dX1_init_44 : decode cX1_init 44 = .ok (.iconst 0, 1) := by decide +kernel
theorem dX1_init_45 : decode cX1_init 45 = .ok (.putfield 31, 3) := by decide +kernel
theorem dX1_init_48 : decode cX1_init 48 = .ok (.aload_n 0, 1) := by decide +kernel
theorem dX1_init_49 : decode cX1_init 49 = .ok (.iconst 1, 1) := by decide +kernel
theorem dX1_init_50 : decode cX1_init 50 = .ok (.putfield 34, 3) := by decide +kernel
theorem dX1_init_53 : decode cX1_init 53 = .ok (.aload_n 0, 1) := by decide +kernel
theorem dX1_init_54 : decode cX1_init 54 = .ok (.aload_n 1, 1) := by decide +kernel
theorem dX1_init_55 : decode cX1_init 55 = .ok (.putfield 38, 3) := by decide +kernel
theorem dX1_init_58 : decode cX1_init 58 = .ok (.aload_n 0, 1) := by decide +kernel
theorem dX1_init_59 : decode cX1_init 59 = .ok (.new 42, 3) := by decide +kernel
theorem dX1_init_62 : decode cX1_init 62 = .ok (.dup, 1) := by decide +kernel
theorem dX1_init_63 : decode cX1_init 63 = .ok (.aload_n 1, 1) := by decide +kernel
theorem dX1_init_64 : decode cX1_init 64 = .ok (.invokespecial 44, 3) := by decide +kernel
theorem dX1_init_67 : decode cX1_init 67 = .ok (.putfield 47, 3) := by decide +kernel
theorem dX1_init_70 : decode cX1_init 70 = .ok (.aload_n 0, 1) := by decide +kernel
theorem dX1_init_71 : decode cX1_init 71 = .ok (.new 51, 3) := by decide +kernel
theorem dX1_init_74 : decode cX1_init 74 = .ok (.dup, 1) := by decide +kernel
theorem dX1_init_75 : decode cX1_init 75 = .ok (.aload_n 1, 1) := by decide +kernel
theorem dX1_init_76 : decode cX1_init 76 = .ok (.invokespecial 53, 3) := by decide +kernel
theorem dX1_init_79 : decode cX1_init 79 = .ok (.putfield 54, 3) := by decide +kernel
theorem dX1_init_82 : decode cX1_init 82 = .ok (.return_, 1) := by decide +kernel
theorem dX1_goStale_0 : decode cX1_goStale 0 = .ok (.aload_n 0, 1) := by decide +kernel
theorem dX1_goStale_1 : decode cX1_goStale 1 = .ok (.iconst 1, 1) := by decide +kernel
theorem dX1_goStale_2 : decode cX1_goStale 2 = .ok (.putfield 34, 3) := by decide +kernel
theorem dX1_goStale_5 : decode cX1_goStale 5 = .ok (.return_, 1) := by decide +kernel
theorem dX1_ownerFor_0 : decode cX1_ownerFor 0 = .ok (.aload_n 0, 1) := by decide +kernel
theorem dX1_ownerFor_1 : decode cX1_ownerFor 1 = .ok (.getfield 38, 3) := by decide +kernel
theorem dX1_ownerFor_4 : decode cX1_ownerFor 4 = .ok (.iload_n 1, 1) := by decide +kernel
theorem dX1_ownerFor_5 : decode cX1_ownerFor 5 = .ok (.invokevirtual 58, 3) := by decide +kernel
theorem dX1_ownerFor_8 : decode cX1_ownerFor 8 = .ok (.ifCond .eq 12, 3) := by decide +kernel
theorem dX1_ownerFor_11 : decode cX1_ownerFor 11 = .ok (.aload_n 0, 1) := by decide +kernel
theorem dX1_ownerFor_12 : decode cX1_ownerFor 12 = .ok (.getfield 18, 3) := by decide +kernel
theorem dX1_ownerFor_15 : decode cX1_ownerFor 15 = .ok (.iload_n 1, 1) := by decide +kernel
theorem dX1_ownerFor_16 : decode cX1_ownerFor 16 = .ok (.iaload, 1) := by decide +kernel
theorem dX1_ownerFor_17 : decode cX1_ownerFor 17 = .ok (.goto 5, 3) := by decide +kernel
theorem dX1_ownerFor_20 : decode cX1_ownerFor 20 = .ok (.bipush (-4), 2) := by decide +kernel
theorem dX1_ownerFor_22 : decode cX1_ownerFor 22 = .ok (.ireturn, 1) := by decide +kernel
theorem dX1_refresh_0 : decode cX1_refresh 0 = .ok (.aload_n 0, 1) := by decide +kernel
theorem dX1_refresh_1 : decode cX1_refresh 1 = .ok (.getfield 34, 3) := by decide +kernel
theorem dX1_refresh_4 : decode cX1_refresh 4 = .ok (.ifCond .ne 4, 3) := by decide +kernel
theorem dX1_refresh_7 : decode cX1_refresh 7 = .ok (.return_, 1) := by decide +kernel
theorem dX1_refresh_8 : decode cX1_refresh 8 = .ok (.aload_n 0, 1) := by decide +kernel
theorem dX1_refresh_9 : decode cX1_refresh 9 = .ok (.iconst 0, 1) := by decide +kernel
theorem dX1_refresh_10 : decode cX1_refresh 10 = .ok (.putfield 34, 3) := by decide +kernel
theorem dX1_refresh_13 : decode cX1_refresh 13 = .ok (.aload_n 0, 1) := by decide +kernel
theorem dX1_refresh_14 : decode cX1_refresh 14 = .ok (.getfield 47, 3) := by decide +kernel
theorem dX1_refresh_17 : decode cX1_refresh 17 = .ok (.aload_n 1, 1) := by decide +kernel
theorem dX1_refresh_18 : decode cX1_refresh 18 = .ok (.invokevirtual 64, 3) := by decide +kernel
theorem dX1_refresh_21 : decode cX1_refresh 21 = .ok (.aload_n 0, 1) := by decide +kernel
theorem dX1_refresh_22 : decode cX1_refresh 22 = .ok (.invokevirtual 68, 3) := by decide +kernel
theorem dX1_refresh_25 : decode cX1_refresh 25 = .ok (.aload_n 0, 1) := by decide +kernel
theorem dX1_refresh_26 : decode cX1_refresh 26 = .ok (.getfield 21, 3) := by decide +kernel
theorem dX1_refresh_29 : decode cX1_refresh 29 = .ok (.ifCond .ne 28, 3) := by decide +kernel
theorem dX1_refresh_32 : decode cX1_refresh 32 = .ok (.aload_n 0, 1) := by decide +kernel
theorem dX1_refresh_33 : decode cX1_refresh 33 = .ok (.getfield 54, 3) := by decide +kernel
theorem dX1_refresh_36 : decode cX1_refresh 36 = .ok (.aload_n 0, 1) := by decide +kernel
theorem dX1_refresh_37 : decode cX1_refresh 37 = .ok (.getfield 47, 3) := by decide +kernel
theorem dX1_refresh_40 : decode cX1_refresh 40 = .ok (.invokevirtual 71, 3) := by decide +kernel
theorem dX1_refresh_43 : decode cX1_refresh 43 = .ok (.aload_n 0, 1) := by decide +kernel
theorem dX1_refresh_44 : decode cX1_refresh 44 = .ok (.aload_n 0, 1) := by decide +kernel
theorem dX1_refresh_45 : decode cX1_refresh 45 = .ok (.getfield 54, 3) := by decide +kernel
theorem dX1_refresh_48 : decode cX1_refresh 48 = .ok (.getfield 74, 3) := by decide +kernel
theorem dX1_refresh_51 : decode cX1_refresh 51 = .ok (.putfield 31, 3) := by decide +kernel
theorem dX1_refresh_54 : decode cX1_refresh 54 = .ok (.goto 14, 3) := by decide +kernel
theorem dX1_refresh_57 : decode cX1_refresh 57 = .ok (.aload_n 0, 1) := by decide +kernel
theorem dX1_refresh_58 : decode cX1_refresh 58 = .ok (.bipush 100, 2) := by decide +kernel
theorem dX1_refresh_60 : decode cX1_refresh 60 = .ok (.putfield 31, 3) := by decide +kernel
theorem dX1_refresh_63 : decode cX1_refresh 63 = .ok (.aload_n 0, 1) := by decide +kernel
theorem dX1_refresh_64 : decode cX1_refresh 64 = .ok (.aload_n 1, 1) := by decide +kernel
theorem dX1_refresh_65 : decode cX1_refresh 65 = .ok (.invokevirtual 77, 3) := by decide +kernel
theorem dX1_refresh_68 : decode cX1_refresh 68 = .ok (.return_, 1) := by decide +kernel
theorem dX1_begin_0 : decode cX1_begin 0 = .ok (.aload_n 0, 1) := by decide +kernel
theorem dX1_begin_1 : decode cX1_begin 1 = .ok (.iconst 0, 1) := by decide +kernel
theorem dX1_begin_2 : decode cX1_begin 2 = .ok (.putfield 21, 3) := by decide +kernel
theorem dX1_begin_5 : decode cX1_begin 5 = .ok (.aload_n 0, 1) := by decide +kernel
theorem dX1_begin_6 : decode cX1_begin 6 = .ok (.iconst 0, 1) := by decide +kernel
theorem dX1_begin_7 : decode cX1_begin 7 = .ok (.putfield 25, 3) := by decide +kernel
theorem dX1_begin_10 : decode cX1_begin 10 = .ok (.aload_n 0, 1) := by decide +kernel
theorem dX1_begin_11 : decode cX1_begin 11 = .ok (.ldc 80, 2) := by decide +kernel
theorem dX1_begin_13 : decode cX1_begin 13 = .ok (.putfield 28, 3) := by decide +kernel
theorem dX1_begin_16 : decode cX1_begin 16 = .ok (.iconst 0, 1) := by decide +kernel
theorem dX1_begin_17 : decode cX1_begin 17 = .ok (.istore_n 1, 1) := by decide +kernel
theorem dX1_begin_18 : decode cX1_begin 18 = .ok (.iload_n 1, 1) := by decide +kernel
theorem dX1_begin_19 : decode cX1_begin 19 = .ok (.bipush 7, 2) := by decide +kernel
theorem dX1_begin_21 : decode cX1_begin 21 = .ok (.if_icmp .ge 89, 3) := by decide +kernel
theorem dX1_begin_24 : decode cX1_begin 24 = .ok (.iload_n 1, 1) := by decide +kernel
theorem dX1_begin_25 : decode cX1_begin 25 = .ok (.aload_n 0, 1) := by decide +kernel
theorem dX1_begin_26 : decode cX1_begin 26 = .ok (.getfield 38, 3) := by decide +kernel
theorem dX1_begin_29 : decode cX1_begin 29 = .ok (.getfield 81, 3) := by decide +kernel
theorem dX1_begin_32 : decode cX1_begin 32 = .ok (.if_icmp .ge 78, 3) := by decide +kernel
theorem dX1_begin_35 : decode cX1_begin 35 = .ok (.aload_n 0, 1) := by decide +kernel
theorem dX1_begin_36 : decode cX1_begin 36 = .ok (.getfield 18, 3) := by decide +kernel
theorem dX1_begin_39 : decode cX1_begin 39 = .ok (.iload_n 1, 1) := by decide +kernel
theorem dX1_begin_40 : decode cX1_begin 40 = .ok (.bipush (-4), 2) := by decide +kernel
theorem dX1_begin_42 : decode cX1_begin 42 = .ok (.iastore, 1) := by decide +kernel
theorem dX1_begin_43 : decode cX1_begin 43 = .ok (.aload_n 0, 1) := by decide +kernel
theorem dX1_begin_44 : decode cX1_begin 44 = .ok (.getfield 47, 3) := by decide +kernel
theorem dX1_begin_47 : decode cX1_begin 47 = .ok (.getfield 84, 3) := by decide +kernel
theorem dX1_begin_50 : decode cX1_begin 50 = .ok (.iload_n 1, 1) := by decide +kernel
theorem dX1_begin_51 : decode cX1_begin 51 = .ok (.iaload, 1) := by decide +kernel
theorem dX1_begin_52 : decode cX1_begin 52 = .ok (.ifCond .ne 52, 3) := by decide +kernel
theorem dX1_begin_55 : decode cX1_begin 55 = .ok (.aload_n 0, 1) := by decide +kernel
theorem dX1_begin_56 : decode cX1_begin 56 = .ok (.getfield 21, 3) := by decide +kernel
theorem dX1_begin_59 : decode cX1_begin 59 = .ok (.bipush 7, 2) := by decide +kernel
theorem dX1_begin_61 : decode cX1_begin 61 = .ok (.if_icmp .ge 43, 3) := by decide +kernel
theorem dX1_begin_64 : decode cX1_begin 64 = .ok (.aload_n 0, 1) := by decide +kernel
theorem dX1_begin_65 : decode cX1_begin 65 = .ok (.getfield 9, 3) := by decide +kernel
theorem dX1_begin_68 : decode cX1_begin 68 = .ok (.aload_n 0, 1) := by decide +kernel
theorem dX1_begin_69 : decode cX1_begin 69 = .ok (.getfield 21, 3) := by decide +kernel
theorem dX1_begin_72 : decode cX1_begin 72 = .ok (.iload_n 1, 1) := by decide +kernel
theorem dX1_begin_73 : decode cX1_begin 73 = .ok (.iastore, 1) := by decide +kernel
theorem dX1_begin_74 : decode cX1_begin 74 = .ok (.aload_n 0, 1) := by decide +kernel
theorem dX1_begin_75 : decode cX1_begin 75 = .ok (.dup, 1) := by decide +kernel
theorem dX1_begin_76 : decode cX1_begin 76 = .ok (.getfield 21, 3) := by decide +kernel
theorem dX1_begin_79 : decode cX1_begin 79 = .ok (.iconst 1, 1) := by decide +kernel
theorem dX1_begin_80 : decode cX1_begin 80 = .ok (.iadd, 1) := by decide +kernel
theorem dX1_begin_81 : decode cX1_begin 81 = .ok (.putfield 21, 3) := by decide +kernel
theorem dX1_begin_84 : decode cX1_begin 84 = .ok (.aload_n 0, 1) := by decide +kernel
theorem dX1_begin_85 : decode cX1_begin 85 = .ok (.aload_n 0, 1) := by decide +kernel
theorem dX1_begin_86 : decode cX1_begin 86 = .ok (.getfield 28, 3) := by decide +kernel
theorem dX1_begin_89 : decode cX1_begin 89 = .ok (.aload_n 0, 1) := by decide +kernel
theorem dX1_begin_90 : decode cX1_begin 90 = .ok (.getfield 47, 3) := by decide +kernel
theorem dX1_begin_93 : decode cX1_begin 93 = .ok (.getfield 87, 3) := by decide +kernel
theorem dX1_begin_96 : decode cX1_begin 96 = .ok (.iload_n 1, 1) := by decide +kernel
theorem dX1_begin_97 : decode cX1_begin 97 = .ok (.iaload, 1) := by decide +kernel
theorem dX1_begin_98 : decode cX1_begin 98 = .ok (.invokestatic 90, 3) := by decide +kernel
theorem dX1_begin_101 : decode cX1_begin 101 = .ok (.putfield 28, 3) := by decide +kernel
theorem dX1_begin_104 : decode cX1_begin 104 = .ok (.iinc 1 1, 3) := by decide +kernel
theorem dX1_begin_107 : decode cX1_begin 107 = .ok (.goto (-89), 3) := by decide +kernel
theorem dX1_begin_110 : decode cX1_begin 110 = .ok (.iconst 0, 1) := by decide +kernel
theorem dX1_begin_111 : decode cX1_begin 111 = .ok (.istore_n 1, 1) := by decide +kernel
theorem dX1_begin_112 : decode cX1_begin 112 = .ok (.iload_n 1, 1) := by decide +kernel
theorem dX1_begin_113 : decode cX1_begin 113 = .ok (.bipush 7, 2) := by decide +kernel
theorem dX1_begin_115 : decode cX1_begin 115 = .ok (.if_icmp .ge 41, 3) := by decide +kernel
theorem dX1_begin_118 : decode cX1_begin 118 = .ok (.aload_n 0, 1) := by decide +kernel
theorem dX1_begin_119 : decode cX1_begin 119 = .ok (.getfield 15, 3) := by decide +kernel
theorem dX1_begin_122 : decode cX1_begin 122 = .ok (.iload_n 1, 1) := by decide +kernel
theorem dX1_begin_123 : decode cX1_begin 123 = .ok (.iconst (-1), 1) := by decide +kernel
theorem dX1_begin_124 : decode cX1_begin 124 = .ok (.iastore, 1) := by decide +kernel
theorem dX1_begin_125 : decode cX1_begin 125 = .ok (.aload_n 0, 1) := by decide +kernel
theorem dX1_begin_126 : decode cX1_begin 126 = .ok (.iload_n 1, 1) := by decide +kernel
theorem dX1_begin_127 : decode cX1_begin 127 = .ok (.invokevirtual 96, 3) := by decide +kernel
theorem dX1_begin_130 : decode cX1_begin 130 = .ok (.ifCond .eq 20, 3) := by decide +kernel
theorem dX1_begin_133 : decode cX1_begin 133 = .ok (.aload_n 0, 1) := by decide +kernel
theorem dX1_begin_134 : decode cX1_begin 134 = .ok (.getfield 47, 3) := by decide +kernel
theorem dX1_begin_137 : decode cX1_begin 137 = .ok (.aload_n 0, 1) := by decide +kernel
theorem dX1_begin_138 : decode cX1_begin 138 = .ok (.getfield 9, 3) := by decide +kernel
theorem dX1_begin_141 : decode cX1_begin 141 = .ok (.iload_n 1, 1) := by decide +kernel
theorem dX1_begin_142 : decode cX1_begin 142 = .ok (.iaload, 1) := by decide +kernel
theorem dX1_begin_143 : decode cX1_begin 143 = .ok (.aload_n 0, 1) := by decide +kernel
theorem dX1_begin_144 : decode cX1_begin 144 = .ok (.getfield 28, 3) := by decide +kernel
theorem dX1_begin_147 : decode cX1_begin 147 = .ok (.invokevirtual 99, 3) := by decide +kernel
theorem dX1_begin_150 : decode cX1_begin 150 = .ok (.iinc 1 1, 3) := by decide +kernel
theorem dX1_begin_153 : decode cX1_begin 153 = .ok (.goto (-41), 3) := by decide +kernel
theorem dX1_begin_156 : decode cX1_begin 156 = .ok (.return_, 1) := by decide +kernel
theorem dX1_isPlace_0 : decode cX1_isPlace 0 = .ok (.iload_n 1, 1) := by decide +kernel
theorem dX1_isPlace_1 : decode cX1_isPlace 1 = .ok (.ifCond .lt 21, 3) := by decide +kernel
theorem dX1_isPlace_4 : decode cX1_isPlace 4 = .ok (.iload_n 1, 1) := by decide +kernel
theorem dX1_isPlace_5 : decode cX1_isPlace 5 = .ok (.aload_n 0, 1) := by decide +kernel
theorem dX1_isPlace_6 : decode cX1_isPlace 6 = .ok (.getfield 21, 3) := by decide +kernel
theorem dX1_isPlace_9 : decode cX1_isPlace 9 = .ok (.if_icmp .ge 13, 3) := by decide +kernel
theorem dX1_isPlace_12 : decode cX1_isPlace 12 = .ok (.iload_n 1, 1) := by decide +kernel
theorem dX1_isPlace_13 : decode cX1_isPlace 13 = .ok (.bipush 7, 2) := by decide +kernel
theorem dX1_isPlace_15 : decode cX1_isPlace 15 = .ok (.if_icmp .ge 7, 3) := by decide +kernel
theorem dX1_isPlace_18 : decode cX1_isPlace 18 = .ok (.iconst 1, 1) := by decide +kernel
theorem dX1_isPlace_19 : decode cX1_isPlace 19 = .ok (.goto 4, 3) := by decide +kernel
theorem dX1_isPlace_22 : decode cX1_isPlace 22 = .ok (.iconst 0, 1) := by decide +kernel
theorem dX1_isPlace_23 : decode cX1_isPlace 23 = .ok (.ireturn, 1) := by decide +kernel
theorem dX1_search_0 : decode cX1_search 0 = .ok (.aload_n 0, 1) := by decide +kernel
theorem dX1_search_1 : decode cX1_search 1 = .ok (.getfield 54, 3) := by decide +kernel
theorem dX1_search_4 : decode cX1_search 4 = .ok (.aload_n 0, 1) := by decide +kernel
theorem dX1_search_5 : decode cX1_search 5 = .ok (.getfield 47, 3) := by decide +kernel
theorem dX1_search_8 : decode cX1_search 8 = .ok (.invokevirtual 103, 3) := by decide +kernel
theorem dX1_search_11 : decode cX1_search 11 = .ok (.iconst 0, 1) := by decide +kernel
theorem dX1_search_12 : decode cX1_search 12 = .ok (.istore_n 2, 1) := by decide +kernel
theorem dX1_search_13 : decode cX1_search 13 = .ok (.iconst 0, 1) := by decide +kernel
theorem dX1_search_14 : decode cX1_search 14 = .ok (.istore_n 3, 1) := by decide +kernel
theorem dX1_search_15 : decode cX1_search 15 = .ok (.iload_n 3, 1) := by decide +kernel
theorem dX1_search_16 : decode cX1_search 16 = .ok (.ldc 80, 2) := by decide +kernel
theorem dX1_search_18 : decode cX1_search 18 = .ok (.if_icmp .ge 91, 3) := by decide +kernel
theorem dX1_search_21 : decode cX1_search 21 = .ok (.aload_n 0, 1) := by decide +kernel
theorem dX1_search_22 : decode cX1_search 22 = .ok (.iload_n 2, 1) := by decide +kernel
theorem dX1_search_23 : decode cX1_search 23 = .ok (.invokevirtual 96, 3) := by decide +kernel
theorem dX1_search_26 : decode cX1_search 26 = .ok (.ifCond .eq 83, 3) := by decide +kernel
theorem dX1_search_29 : decode cX1_search 29 = .ok (.aload_n 0, 1) := by decide +kernel
theorem dX1_search_30 : decode cX1_search 30 = .ok (.iload_n 2, 1) := by decide +kernel
theorem dX1_search_31 : decode cX1_search 31 = .ok (.aload_n 1, 1) := by decide +kernel
theorem dX1_search_32 : decode cX1_search 32 = .ok (.invokevirtual 106, 3) := by decide +kernel
theorem dX1_search_35 : decode cX1_search 35 = .ok (.ifCond .ne 9, 3) := by decide +kernel
theorem dX1_search_38 : decode cX1_search 38 = .ok (.iinc 2 (-1), 3) := by decide +kernel
theorem dX1_search_41 : decode cX1_search 41 = .ok (.goto 62, 3) := by decide +kernel
theorem dX1_search_44 : decode cX1_search 44 = .ok (.aload_n 0, 1) := by decide +kernel
theorem dX1_search_45 : decode cX1_search 45 = .ok (.getfield 54, 3) := by decide +kernel
theorem dX1_search_48 : decode cX1_search 48 = .ok (.aload_n 0, 1) := by decide +kernel
theorem dX1_search_49 : decode cX1_search 49 = .ok (.getfield 47, 3) := by decide +kernel
theorem dX1_search_52 : decode cX1_search 52 = .ok (.invokevirtual 110, 3) := by decide +kernel
theorem dX1_search_55 : decode cX1_search 55 = .ok (.aload_n 0, 1) := by decide +kernel
theorem dX1_search_56 : decode cX1_search 56 = .ok (.getfield 54, 3) := by decide +kernel
theorem dX1_search_59 : decode cX1_search 59 = .ok (.getfield 74, 3) := by decide +kernel
theorem dX1_search_62 : decode cX1_search 62 = .ok (.aload_n 0, 1) := by decide +kernel
theorem dX1_search_63 : decode cX1_search 63 = .ok (.getfield 31, 3) := by decide +kernel
theorem dX1_search_66 : decode cX1_search 66 = .ok (.if_icmp .lt 6, 3) := by decide +kernel
theorem dX1_search_69 : decode cX1_search 69 = .ok (.goto 34, 3) := by decide +kernel
theorem dX1_search_72 : decode cX1_search 72 = .ok (.iload_n 2, 1) := by decide +kernel
theorem dX1_search_73 : decode cX1_search 73 = .ok (.aload_n 0, 1) := by decide +kernel
theorem dX1_search_74 : decode cX1_search 74 = .ok (.getfield 21, 3) := by decide +kernel
theorem dX1_search_77 : decode cX1_search 77 = .ok (.iconst 1, 1) := by decide +kernel
theorem dX1_search_78 : decode cX1_search 78 = .ok (.isub, 1) := by decide +kernel
theorem dX1_search_79 : decode cX1_search 79 = .ok (.if_icmp .ne 21, 3) := by decide +kernel
theorem dX1_search_82 : decode cX1_search 82 = .ok (.aload_n 0, 1) := by decide +kernel
theorem dX1_search_83 : decode cX1_search 83 = .ok (.aload_n 0, 1) := by decide +kernel
theorem dX1_search_84 : decode cX1_search 84 = .ok (.getfield 54, 3) := by decide +kernel
theorem dX1_search_87 : decode cX1_search 87 = .ok (.getfield 74, 3) := by decide +kernel
theorem dX1_search_90 : decode cX1_search 90 = .ok (.putfield 31, 3) := by decide +kernel
theorem dX1_search_93 : decode cX1_search 93 = .ok (.aload_n 0, 1) := by decide +kernel
theorem dX1_search_94 : decode cX1_search 94 = .ok (.invokevirtual 113, 3) := by decide +kernel
theorem dX1_search_97 : decode cX1_search 97 = .ok (.goto 6, 3) := by decide +kernel
theorem dX1_search_100 : decode cX1_search 100 = .ok (.iinc 2 1, 3) := by decide +kernel
theorem dX1_search_103 : decode cX1_search 103 = .ok (.iinc 3 1, 3) := by decide +kernel
theorem dX1_search_106 : decode cX1_search 106 = .ok (.goto (-91), 3) := by decide +kernel
theorem dX1_search_109 : decode cX1_search 109 = .ok (.return_, 1) := by decide +kernel
theorem dX1_pickNext_0 : decode cX1_pickNext 0 = .ok (.aload_n 0, 1) := by decide +kernel
theorem dX1_pickNext_1 : decode cX1_pickNext 1 = .ok (.iload_n 1, 1) := by decide +kernel
theorem dX1_pickNext_2 : decode cX1_pickNext 2 = .ok (.invokevirtual 96, 3) := by decide +kernel
theorem dX1_pickNext_5 : decode cX1_pickNext 5 = .ok (.ifCond .ne 5, 3) := by decide +kernel
theorem dX1_pickNext_8 : decode cX1_pickNext 8 = .ok (.iconst 0, 1) := by decide +kernel
theorem dX1_pickNext_9 : decode cX1_pickNext 9 = .ok (.ireturn, 1) := by decide +kernel
theorem dX1_pickNext_10 : decode cX1_pickNext 10 = .ok (.aload_n 0, 1) := by decide +kernel
theorem dX1_pickNext_11 : decode cX1_pickNext 11 = .ok (.getfield 15, 3) := by decide +kernel
theorem dX1_pickNext_14 : decode cX1_pickNext 14 = .ok (.iload_n 1, 1) := by decide +kernel
theorem dX1_pickNext_15 : decode cX1_pickNext 15 = .ok (.iaload, 1) := by decide +kernel
theorem dX1_pickNext_16 : decode cX1_pickNext 16 = .ok (.istore_n 3, 1) := by decide +kernel
theorem dX1_pickNext_17 : decode cX1_pickNext 17 = .ok (.aload_n 0, 1) := by decide +kernel
theorem dX1_pickNext_18 : decode cX1_pickNext 18 = .ok (.iload_n 3, 1) := by decide +kernel
theorem dX1_pickNext_19 : decode cX1_pickNext 19 = .ok (.invokevirtual 96, 3) := by decide +kernel
theorem dX1_pickNext_22 : decode cX1_pickNext 22 = .ok (.ifCond .eq 17, 3) := by decide +kernel
theorem dX1_pickNext_25 : decode cX1_pickNext 25 = .ok (.aload_n 0, 1) := by decide +kernel
theorem dX1_pickNext_26 : decode cX1_pickNext 26 = .ok (.dup, 1) := by decide +kernel
theorem dX1_pickNext_27 : decode cX1_pickNext 27 = .ok (.getfield 25, 3) := by decide +kernel
theorem dX1_pickNext_30 : decode cX1_pickNext 30 = .ok (.iconst 1, 1) := by decide +kernel
theorem dX1_pickNext_31 : decode cX1_pickNext 31 = .ok (.iload_n 3, 1) := by decide +kernel
theorem dX1_pickNext_32 : decode cX1_pickNext 32 = .ok (.ishl, 1) := by decide +kernel
theorem dX1_pickNext_33 : decode cX1_pickNext 33 = .ok (.iconst (-1), 1) := by decide +kernel
theorem dX1_pickNext_34 : decode cX1_pickNext 34 = .ok (.ixor, 1) := by decide +kernel
theorem dX1_pickNext_35 : decode cX1_pickNext 35 = .ok (.iand, 1) := by decide +kernel
theorem dX1_pickNext_36 : decode cX1_pickNext 36 = .ok (.putfield 25, 3) := by decide +kernel
theorem dX1_pickNext_39 : decode cX1_pickNext 39 = .ok (.iload_n 3, 1) := by decide +kernel
theorem dX1_pickNext_40 : decode cX1_pickNext 40 = .ok (.iconst 1, 1) := by decide +kernel
theorem dX1_pickNext_41 : decode cX1_pickNext 41 = .ok (.iadd, 1) := by decide +kernel
theorem dX1_pickNext_42 : decode cX1_pickNext 42 = .ok (.istore 4, 2) := by decide +kernel
theorem dX1_pickNext_44 : decode cX1_pickNext 44 = .ok (.iload 4, 2) := by decide +kernel
theorem dX1_pickNext_46 : decode cX1_pickNext 46 = .ok (.aload_n 0, 1) := by decide +kernel
theorem dX1_pickNext_47 : decode cX1_pickNext 47 = .ok (.getfield 21, 3) := by decide +kernel
theorem dX1_pickNext_50 : decode cX1_pickNext 50 = .ok (.if_icmp .ge 22, 3) := by decide +kernel
theorem dX1_pickNext_53 : decode cX1_pickNext 53 = .ok (.aload_n 0, 1) := by decide +kernel
theorem dX1_pickNext_54 : decode cX1_pickNext 54 = .ok (.getfield 25, 3) := by decide +kernel
theorem dX1_pickNext_57 : decode cX1_pickNext 57 = .ok (.iload 4, 2) := by decide +kernel
theorem dX1_pickNext_59 : decode cX1_pickNext 59 = .ok (.ishr, 1) := by decide +kernel
theorem dX1_pickNext_60 : decode cX1_pickNext 60 = .ok (.iconst 1, 1) := by decide +kernel
theorem dX1_pickNext_61 : decode cX1_pickNext 61 = .ok (.iand, 1) := by decide +kernel
theorem dX1_pickNext_62 : decode cX1_pickNext 62 = .ok (.iconst 1, 1) := by decide +kernel
theorem dX1_pickNext_63 : decode cX1_pickNext 63 = .ok (.if_icmp .ne 9, 3) := by decide +kernel
theorem dX1_pickNext_66 : decode cX1_pickNext 66 = .ok (.iinc 4 1, 3) := by decide +kernel
theorem dX1_pickNext_69 : decode cX1_pickNext 69 = .ok (.goto (-25), 3) := by decide +kernel
theorem dX1_pickNext_72 : decode cX1_pickNext 72 = .ok (.aload_n 0, 1) := by decide +kernel
theorem dX1_pickNext_73 : decode cX1_pickNext 73 = .ok (.iload 4, 2) := by decide +kernel
theorem dX1_pickNext_75 : decode cX1_pickNext 75 = .ok (.invokevirtual 96, 3) := by decide +kernel
theorem dX1_pickNext_78 : decode cX1_pickNext 78 = .ok (.ifCond .ne 29, 3) := by decide +kernel
theorem dX1_pickNext_81 : decode cX1_pickNext 81 = .ok (.aload_n 0, 1) := by decide +kernel
theorem dX1_pickNext_82 : decode cX1_pickNext 82 = .ok (.getfield 15, 3) := by decide +kernel
theorem dX1_pickNext_85 : decode cX1_pickNext 85 = .ok (.iload_n 1, 1) := by decide +kernel
theorem dX1_pickNext_86 : decode cX1_pickNext 86 = .ok (.iconst (-1), 1) := by decide +kernel
theorem dX1_pickNext_87 : decode cX1_pickNext 87 = .ok (.iastore, 1) := by decide +kernel
theorem dX1_pickNext_88 : decode cX1_pickNext 88 = .ok (.aload_n 0, 1) := by decide +kernel
theorem dX1_pickNext_89 : decode cX1_pickNext 89 = .ok (.getfield 47, 3) := by decide +kernel
theorem dX1_pickNext_92 : decode cX1_pickNext 92 = .ok (.aload_n 0, 1) := by decide +kernel
theorem dX1_pickNext_93 : decode cX1_pickNext 93 = .ok (.getfield 9, 3) := by decide +kernel
theorem dX1_pickNext_96 : decode cX1_pickNext 96 = .ok (.iload_n 1, 1) := by decide +kernel
theorem dX1_pickNext_97 : decode cX1_pickNext 97 = .ok (.iaload, 1) := by decide +kernel
theorem dX1_pickNext_98 : decode cX1_pickNext 98 = .ok (.aload_n 0, 1) := by decide +kernel
theorem dX1_pickNext_99 : decode cX1_pickNext 99 = .ok (.getfield 28, 3) := by decide +kernel
theorem dX1_pickNext_102 : decode cX1_pickNext 102 = .ok (.invokevirtual 99, 3) := by decide +kernel
theorem dX1_pickNext_105 : decode cX1_pickNext 105 = .ok (.iconst 0, 1) := by decide +kernel
theorem dX1_pickNext_106 : decode cX1_pickNext 106 = .ok (.ireturn, 1) := by decide +kernel
theorem dX1_pickNext_107 : decode cX1_pickNext 107 = .ok (.aload_n 0, 1) := by decide +kernel
theorem dX1_pickNext_108 : decode cX1_pickNext 108 = .ok (.getfield 15, 3) := by decide +kernel
theorem dX1_pickNext_111 : decode cX1_pickNext 111 = .ok (.iload_n 1, 1) := by decide +kernel
theorem dX1_pickNext_112 : decode cX1_pickNext 112 = .ok (.iload 4, 2) := by decide +kernel
theorem dX1_pickNext_114 : decode cX1_pickNext 114 = .ok (.iastore, 1) := by decide +kernel
theorem dX1_pickNext_115 : decode cX1_pickNext 115 = .ok (.aload_n 0, 1) := by decide +kernel
theorem dX1_pickNext_116 : decode cX1_pickNext 116 = .ok (.dup, 1) := by decide +kernel
theorem dX1_pickNext_117 : decode cX1_pickNext 117 = .ok (.getfield 25, 3) := by decide +kernel
theorem dX1_pickNext_120 : decode cX1_pickNext 120 = .ok (.iconst 1, 1) := by decide +kernel
theorem dX1_pickNext_121 : decode cX1_pickNext 121 = .ok (.iload 4, 2) := by decide +kernel
theorem dX1_pickNext_123 : decode cX1_pickNext 123 = .ok (.ishl, 1) := by decide +kernel
theorem dX1_pickNext_124 : decode cX1_pickNext 124 = .ok (.ior, 1) := by decide +kernel
theorem dX1_pickNext_125 : decode cX1_pickNext 125 = .ok (.putfield 25, 3) := by decide +kernel
theorem dX1_pickNext_128 : decode cX1_pickNext 128 = .ok (.aload_n 0, 1) := by decide +kernel
theorem dX1_pickNext_129 : decode cX1_pickNext 129 = .ok (.getfield 47, 3) := by decide +kernel
theorem dX1_pickNext_132 : decode cX1_pickNext 132 = .ok (.aload_n 0, 1) := by decide +kernel
theorem dX1_pickNext_133 : decode cX1_pickNext 133 = .ok (.getfield 9, 3) := by decide +kernel
theorem dX1_pickNext_136 : decode cX1_pickNext 136 = .ok (.iload_n 1, 1) := by decide +kernel
theorem dX1_pickNext_137 : decode cX1_pickNext 137 = .ok (.iaload, 1) := by decide +kernel
theorem dX1_pickNext_138 : decode cX1_pickNext 138 = .ok (.aload_n 2, 1) := by decide +kernel
theorem dX1_pickNext_139 : decode cX1_pickNext 139 = .ok (.aload_n 0, 1) := by decide +kernel
theorem dX1_pickNext_140 : decode cX1_pickNext 140 = .ok (.getfield 9, 3) := by decide +kernel
theorem dX1_pickNext_143 : decode cX1_pickNext 143 = .ok (.iload 4, 2) := by decide +kernel
theorem dX1_pickNext_145 : decode cX1_pickNext 145 = .ok (.iaload, 1) := by decide +kernel
theorem dX1_pickNext_146 : decode cX1_pickNext 146 = .ok (.invokevirtual 116, 3) := by decide +kernel
theorem dX1_pickNext_149 : decode cX1_pickNext 149 = .ok (.invokevirtual 99, 3) := by decide +kernel
theorem dX1_pickNext_152 : decode cX1_pickNext 152 = .ok (.iconst 1, 1) := by decide +kernel
theorem dX1_pickNext_153 : decode cX1_pickNext 153 = .ok (.ireturn, 1) := by decide +kernel
theorem dX1_writeDown_0 : decode cX1_writeDown 0 = .ok (.iconst 0, 1) := by decide +kernel
theorem dX1_writeDown_1 : decode cX1_writeDown 1 = .ok (.istore_n 1, 1) := by decide +kernel
theorem dX1_writeDown_2 : decode cX1_writeDown 2 = .ok (.iload_n 1, 1) := by decide +kernel
theorem dX1_writeDown_3 : decode cX1_writeDown 3 = .ok (.bipush 7, 2) := by decide +kernel
theorem dX1_writeDown_5 : decode cX1_writeDown 5 = .ok (.if_icmp .ge 68, 3) := by decide +kernel
theorem dX1_writeDown_8 : decode cX1_writeDown 8 = .ok (.iload_n 1, 1) := by decide +kernel
theorem dX1_writeDown_9 : decode cX1_writeDown 9 = .ok (.aload_n 0, 1) := by decide +kernel
theorem dX1_writeDown_10 : decode cX1_writeDown 10 = .ok (.getfield 21, 3) := by decide +kernel
theorem dX1_writeDown_13 : decode cX1_writeDown 13 = .ok (.if_icmp .ge 60, 3) := by decide +kernel
theorem dX1_writeDown_16 : decode cX1_writeDown 16 = .ok (.aload_n 0, 1) := by decide +kernel
theorem dX1_writeDown_17 : decode cX1_writeDown 17 = .ok (.getfield 38, 3) := by decide +kernel
theorem dX1_writeDown_20 : decode cX1_writeDown 20 = .ok (.aload_n 0, 1) := by decide +kernel
theorem dX1_writeDown_21 : decode cX1_writeDown 21 = .ok (.getfield 9, 3) := by decide +kernel
theorem dX1_writeDown_24 : decode cX1_writeDown 24 = .ok (.iload_n 1, 1) := by decide +kernel
theorem dX1_writeDown_25 : decode cX1_writeDown 25 = .ok (.iaload, 1) := by decide +kernel
theorem dX1_writeDown_26 : decode cX1_writeDown 26 = .ok (.invokevirtual 58, 3) := by decide +kernel
theorem dX1_writeDown_29 : decode cX1_writeDown 29 = .ok (.ifCond .eq 38, 3) := by decide +kernel
theorem dX1_writeDown_32 : decode cX1_writeDown 32 = .ok (.aload_n 0, 1) := by decide +kernel
theorem dX1_writeDown_33 : decode cX1_writeDown 33 = .ok (.aload_n 0, 1) := by decide +kernel
theorem dX1_writeDown_34 : decode cX1_writeDown 34 = .ok (.getfield 15, 3) := by decide +kernel
theorem dX1_writeDown_37 : decode cX1_writeDown 37 = .ok (.iload_n 1, 1) := by decide +kernel
theorem dX1_writeDown_38 : decode cX1_writeDown 38 = .ok (.iaload, 1) := by decide +kernel
theorem dX1_writeDown_39 : decode cX1_writeDown 39 = .ok (.invokevirtual 96, 3) := by decide +kernel
theorem dX1_writeDown_42 : decode cX1_writeDown 42 = .ok (.ifCond .eq 25, 3) := by decide +kernel
theorem dX1_writeDown_45 : decode cX1_writeDown 45 = .ok (.aload_n 0, 1) := by decide +kernel
theorem dX1_writeDown_46 : decode cX1_writeDown 46 = .ok (.getfield 18, 3) := by decide +kernel
theorem dX1_writeDown_49 : decode cX1_writeDown 49 = .ok (.aload_n 0, 1) := by decide +kernel
theorem dX1_writeDown_50 : decode cX1_writeDown 50 = .ok (.getfield 9, 3) := by decide +kernel
theorem dX1_writeDown_53 : decode cX1_writeDown 53 = .ok (.iload_n 1, 1) := by decide +kernel
theorem dX1_writeDown_54 : decode cX1_writeDown 54 = .ok (.iaload, 1) := by decide +kernel
theorem dX1_writeDown_55 : decode cX1_writeDown 55 = .ok (.aload_n 0, 1) := by decide +kernel
theorem dX1_writeDown_56 : decode cX1_writeDown 56 = .ok (.getfield 9, 3) := by decide +kernel
theorem dX1_writeDown_59 : decode cX1_writeDown 59 = .ok (.aload_n 0, 1) := by decide +kernel
theorem dX1_writeDown_60 : decode cX1_writeDown 60 = .ok (.getfield 15, 3) := by decide +kernel
theorem dX1_writeDown_63 : decode cX1_writeDown 63 = .ok (.iload_n 1, 1) := by decide +kernel
theorem dX1_writeDown_64 : decode cX1_writeDown 64 = .ok (.iaload, 1) := by decide +kernel
theorem dX1_writeDown_65 : decode cX1_writeDown 65 = .ok (.iaload, 1) := by decide +kernel
theorem dX1_writeDown_66 : decode cX1_writeDown 66 = .ok (.iastore, 1) := by decide +kernel
theorem dX1_writeDown_67 : decode cX1_writeDown 67 = .ok (.iinc 1 1, 3) := by decide +kernel
theorem dX1_writeDown_70 : decode cX1_writeDown 70 = .ok (.goto (-68), 3) := by decide +kernel
theorem dX1_writeDown_73 : decode cX1_writeDown 73 = .ok (.return_, 1) := by decide +kernel
theorem dX2_init_0 : decode cX2_init 0 = .ok (.aload_n 0, 1) := by decide +kernel
theorem dX2_init_1 : decode cX2_init 1 = .ok (.invokespecial 3, 3) := by decide +kernel
theorem dX2_init_4 : decode cX2_init 4 = .ok (.aload_n 0, 1) := by decide +kernel
theorem dX2_init_5 : decode cX2_init 5 = .ok (.bipush 7, 2) := by decide +kernel
theorem dX2_init_7 : decode cX2_init 7 = .ok (.newarray .int, 2) := by decide +kernel
theorem dX2_init_9 : decode cX2_init 9 = .ok (.putfield 9, 3) := by decide +kernel
theorem dX2_init_12 : decode cX2_init 12 = .ok (.aload_n 0, 1) := by decide +kernel
theorem dX2_init_13 : decode cX2_init 13 = .ok (.bipush 7, 2) := by decide +kernel
theorem dX2_init_15 : decode cX2_init 15 = .ok (.newarray .int, 2) := by decide +kernel
theorem dX2_init_17 : decode cX2_init 17 = .ok (.putfield 15, 3) := by decide +kernel
theorem dX2_init_20 : decode cX2_init 20 = .ok (.aload_n 0, 1) := by decide +kernel
theorem dX2_init_21 : decode cX2_init 21 = .ok (.bipush 7, 2) := by decide +kernel
theorem dX2_init_23 : decode cX2_init 23 = .ok (.newarray .int, 2) := by decide +kernel
theorem dX2_init_25 : decode cX2_init 25 = .ok (.putfield 18, 3) := by decide +kernel
theorem dX2_init_28 : decode cX2_init 28 = .ok (.aload_n 0, 1) := by decide +kernel
theorem dX2_init_29 : decode cX2_init 29 = .ok (.bipush 7, 2) := by decide +kernel
theorem dX2_init_31 : decode cX2_init 31 = .ok (.newarray .int, 2) := by decide +kernel
theorem dX2_init_33 : decode cX2_init 33 = .ok (.putfield 21, 3) := by decide +kernel
theorem dX2_init_36 : decode cX2_init 36 = .ok (.aload_n 0, 1) := by decide +kernel
theorem dX2_init_37 : decode cX2_init 37 = .ok (.bipush 7, 2) := by decide +kernel
theorem dX2_init_39 : decode cX2_init 39 = .ok (.newarray .int, 2) := by decide +kernel
theorem dX2_init_41 : decode cX2_init 41 = .ok (.putfield 24, 3) := by decide +kernel
theorem dX2_init_44 : decode cX2_init 44 = .ok (.aload_n 0, 1) := by decide +kernel
theorem dX2_init_45 : decode cX2_init 45 = .ok (.bipush 7, 2) := by decide +kernel
theorem dX2_init_47 : decode cX2_init 47 = .ok (.newarray .int, 2) := by decide +kernel
theorem dX2_init_49 : decode cX2_init 49 = .ok (.putfield 27, 3) := by decide +kernel
theorem dX2_init_52 : decode cX2_init 52 = .ok (.aload_n 0, 1) := by decide +kernel
theorem dX2_init_53 : decode cX2_init 53 = .ok (.bipush 7, 2) := by decide +kernel
theorem dX2_init_55 : decode cX2_init 55 = .ok (.newarray .int, 2) := by decide +kernel
theorem dX2_init_57 : decode cX2_init 57 = .ok (.putfield 30, 3) := by decide +kernel
theorem dX2_init_60 : decode cX2_init 60 = .ok (.aload_n 0, 1) := by decide +kernel
theorem dX2_init_61 : decode cX2_init 61 = .ok (.bipush (-4), 2) := by decide +kernel
theorem dX2_init_63 : decode cX2_init 63 = .ok (.putfield 33, 3) := by decide +kernel
theorem dX2_init_66 : decode cX2_init 66 = .ok (.aload_n 0, 1) := by decide +kernel
theorem dX2_init_67 : decode cX2_init 67 = .ok (.iconst 0, 1) := by decide +kernel
theorem dX2_init_68 : decode cX2_init 68 = .ok (.putfield 37, 3) := by decide +kernel
theorem dX2_init_71 : decode cX2_init 71 = .ok (.aload_n 0, 1) := by decide +kernel
theorem dX2_init_72 : decode cX2_init 72 = .ok (.aload_n 1, 1) := by decide +kernel
theorem dX2_init_73 : decode cX2_init 73 = .ok (.putfield 40, 3) := by decide +kernel
theorem dX2_init_76 : decode cX2_init 76 = .ok (.return_, 1) := by decide +kernel
theorem dX2_open_0 : decode cX2_open 0 = .ok (.aload_n 0, 1) := by decide +kernel
theorem dX2_open_1 : decode cX2_open 1 = .ok (.bipush (-4), 2) := by decide +kernel
theorem dX2_open_3 : decode cX2_open 3 = .ok (.putfield 33, 3) := by decide +kernel
theorem dX2_open_6 : decode cX2_open 6 = .ok (.aload_n 0, 1) := by decide +kernel
theorem dX2_open_7 : decode cX2_open 7 = .ok (.iconst 0, 1) := by decide +kernel
theorem dX2_open_8 : decode cX2_open 8 = .ok (.putfield 37, 3) := by decide +kernel
theorem dX2_open_11 : decode cX2_open 11 = .ok (.iconst 0, 1) := by decide +kernel
theorem dX2_open_12 : decode cX2_open 12 = .ok (.istore_n 1, 1) := by decide +kernel
theorem dX2_open_13 : decode cX2_open 13 = .ok (.iload_n 1, 1) := by decide +kernel
theorem dX2_open_14 : decode cX2_open 14 = .ok (.bipush 7, 2) := by decide +kernel
theorem dX2_open_16 : decode cX2_open 16 = .ok (.if_icmp .ge 75, 3) := by decide +kernel
theorem dX2_open_19 : decode cX2_open 19 = .ok (.aload_n 0, 1) := by decide +kernel
theorem dX2_open_20 : decode cX2_open 20 = .ok (.getfield 9, 3) := by decide +kernel
theorem dX2_open_23 : decode cX2_open 23 = .ok (.iload_n 1, 1) := by decide +kernel
theorem dX2_open_24 : decode cX2_open 24 = .ok (.iconst 0, 1) := by decide +kernel
theorem dX2_open_25 : decode cX2_open 25 = .ok (.iastore, 1) := by decide +kernel
theorem dX2_open_26 : decode cX2_open 26 = .ok (.aload_n 0, 1) := by decide +kernel
theorem dX2_open_27 : decode cX2_open 27 = .ok (.getfield 15, 3) := by decide +kernel
theorem dX2_open_30 : decode cX2_open 30 = .ok (.iload_n 1, 1) := by decide +kernel
theorem dX2_open_31 : decode cX2_open 31 = .ok (.aload_n 0, 1) := by decide +kernel
theorem dX2_open_32 : decode cX2_open 32 = .ok (.getfield 40, 3) := by decide +kernel
theorem dX2_open_35 : decode cX2_open 35 = .ok (.getfield 44, 3) := by decide +kernel
theorem dX2_open_38 : decode cX2_open 38 = .ok (.iload_n 1, 1) := by decide +kernel
theorem dX2_open_39 : decode cX2_open 39 = .ok (.iaload, 1) := by decide +kernel
theorem dX2_open_40 : decode cX2_open 40 = .ok (.iastore, 1) := by decide +kernel
theorem dX2_open_41 : decode cX2_open 41 = .ok (.aload_n 0, 1) := by decide +kernel
theorem dX2_open_42 : decode cX2_open 42 = .ok (.getfield 18, 3) := by decide +kernel
theorem dX2_open_45 : decode cX2_open 45 = .ok (.iload_n 1, 1) := by decide +kernel
theorem dX2_open_46 : decode cX2_open 46 = .ok (.aload_n 0, 1) := by decide +kernel
theorem dX2_open_47 : decode cX2_open 47 = .ok (.getfield 40, 3) := by decide +kernel
theorem dX2_open_50 : decode cX2_open 50 = .ok (.getfield 47, 3) := by decide +kernel
theorem dX2_open_53 : decode cX2_open 53 = .ok (.iload_n 1, 1) := by decide +kernel
theorem dX2_open_54 : decode cX2_open 54 = .ok (.iaload, 1) := by decide +kernel
theorem dX2_open_55 : decode cX2_open 55 = .ok (.iastore, 1) := by decide +kernel
theorem dX2_open_56 : decode cX2_open 56 = .ok (.aload_n 0, 1) := by decide +kernel
theorem dX2_open_57 : decode cX2_open 57 = .ok (.getfield 21, 3) := by decide +kernel
theorem dX2_open_60 : decode cX2_open 60 = .ok (.iload_n 1, 1) := by decide +kernel
theorem dX2_open_61 : decode cX2_open 61 = .ok (.iconst 0, 1) := by decide +kernel
theorem dX2_open_62 : decode cX2_open 62 = .ok (.iastore, 1) := by decide +kernel
theorem dX2_open_63 : decode cX2_open 63 = .ok (.aload_n 0, 1) := by decide +kernel
theorem dX2_open_64 : decode cX2_open 64 = .ok (.getfield 24, 3) := by decide +kernel
theorem dX2_open_67 : decode cX2_open 67 = .ok (.iload_n 1, 1) := by decide +kernel
theorem dX2_open_68 : decode cX2_open 68 = .ok (.bipush (-4), 2) := by decide +kernel
theorem dX2_open_70 : decode cX2_open 70 = .ok (.iastore, 1) := by decide +kernel
theorem dX2_open_71 : decode cX2_open 71 = .ok (.aload_n 0, 1) := by decide +kernel
theorem dX2_open_72 : decode cX2_open 72 = .ok (.getfield 27, 3) := by decide +kernel
theorem dX2_open_75 : decode cX2_open 75 = .ok (.iload_n 1, 1) := by decide +kernel
theorem dX2_open_76 : decode cX2_open 76 = .ok (.iconst 0, 1) := by decide +kernel
theorem dX2_open_77 : decode cX2_open 77 = .ok (.iastore, 1) := by decide +kernel
theorem dX2_open_78 : decode cX2_open 78 = .ok (.aload_n 0, 1) := by decide +kernel
theorem dX2_open_79 : decode cX2_open 79 = .ok (.getfield 30, 3) := by decide +kernel
theorem dX2_open_82 : decode cX2_open 82 = .ok (.iload_n 1, 1) := by decide +kernel
theorem dX2_open_83 : decode cX2_open 83 = .ok (.iconst 0, 1) := by decide +kernel
theorem dX2_open_84 : decode cX2_open 84 = .ok (.iastore, 1) := by decide +kernel
theorem dX2_open_85 : decode cX2_open 85 = .ok (.iinc 1 1, 3) := by decide +kernel
theorem dX2_open_88 : decode cX2_open 88 = .ok (.goto (-75), 3) := by decide +kernel
theorem dX2_open_91 : decode cX2_open 91 = .ok (.return_, 1) := by decide +kernel
theorem dX2_copyFrom_0 : decode cX2_copyFrom 0 = .ok (.aload_n 0, 1) := by decide +kernel
theorem dX2_copyFrom_1 : decode cX2_copyFrom 1 = .ok (.aload_n 1, 1) := by decide +kernel
theorem dX2_copyFrom_2 : decode cX2_copyFrom 2 = .ok (.getfield 33, 3) := by decide +kernel
theorem dX2_copyFrom_5 : decode cX2_copyFrom 5 = .ok (.putfield 33, 3) := by decide +kernel
theorem dX2_copyFrom_8 : decode cX2_copyFrom 8 = .ok (.aload_n 0, 1) := by decide +kernel
theorem dX2_copyFrom_9 : decode cX2_copyFrom 9 = .ok (.aload_n 1, 1) := by decide +kernel
theorem dX2_copyFrom_10 : decode cX2_copyFrom 10 = .ok (.getfield 37, 3) := by decide +kernel
theorem dX2_copyFrom_13 : decode cX2_copyFrom 13 = .ok (.putfield 37, 3) := by decide +kernel
theorem dX2_copyFrom_16 : decode cX2_copyFrom 16 = .ok (.iconst 0, 1) := by decide +kernel
theorem dX2_copyFrom_17 : decode cX2_copyFrom 17 = .ok (.istore_n 2, 1) := by decide +kernel
theorem dX2_copyFrom_18 : decode cX2_copyFrom 18 = .ok (.iload_n 2, 1) := by decide +kernel
theorem dX2_copyFrom_19 : decode cX2_copyFrom 19 = .ok (.bipush 7, 2) := by decide +kernel
theorem dX2_copyFrom_21 : decode cX2_copyFrom 21 = .ok (.if_icmp .ge 93, 3) := by decide +kernel
theorem dX2_copyFrom_24 : decode cX2_copyFrom 24 = .ok (.aload_n 0, 1) := by decide +kernel
theorem dX2_copyFrom_25 : decode cX2_copyFrom 25 = .ok (.getfield 9, 3) := by decide +kernel
theorem dX2_copyFrom_28 : decode cX2_copyFrom 28 = .ok (.iload_n 2, 1) := by decide +kernel
theorem dX2_copyFrom_29 : decode cX2_copyFrom 29 = .ok (.aload_n 1, 1) := by decide +kernel
theorem dX2_copyFrom_30 : decode cX2_copyFrom 30 = .ok (.getfield 9, 3) := by decide +kernel
theorem dX2_copyFrom_33 : decode cX2_copyFrom 33 = .ok (.iload_n 2, 1) := by decide +kernel
theorem dX2_copyFrom_34 : decode cX2_copyFrom 34 = .ok (.iaload, 1) := by decide +kernel
theorem dX2_copyFrom_35 : decode cX2_copyFrom 35 = .ok (.iastore, 1) := by decide +kernel
theorem dX2_copyFrom_36 : decode cX2_copyFrom 36 = .ok (.aload_n 0, 1) := by decide +kernel
theorem dX2_copyFrom_37 : decode cX2_copyFrom 37 = .ok (.getfield 15, 3) := by decide +kernel
theorem dX2_copyFrom_40 : decode cX2_copyFrom 40 = .ok (.iload_n 2, 1) := by decide +kernel
theorem dX2_copyFrom_41 : decode cX2_copyFrom 41 = .ok (.aload_n 1, 1) := by decide +kernel
theorem dX2_copyFrom_42 : decode cX2_copyFrom 42 = .ok (.getfield 15, 3) := by decide +kernel
theorem dX2_copyFrom_45 : decode cX2_copyFrom 45 = .ok (.iload_n 2, 1) := by decide +kernel
theorem dX2_copyFrom_46 : decode cX2_copyFrom 46 = .ok (.iaload, 1) := by decide +kernel
theorem dX2_copyFrom_47 : decode cX2_copyFrom 47 = .ok (.iastore, 1) := by decide +kernel
theorem dX2_copyFrom_48 : decode cX2_copyFrom 48 = .ok (.aload_n 0, 1) := by decide +kernel
theorem dX2_copyFrom_49 : decode cX2_copyFrom 49 = .ok (.getfield 18, 3) := by decide +kernel
theorem dX2_copyFrom_52 : decode cX2_copyFrom 52 = .ok (.iload_n 2, 1) := by decide +kernel
theorem dX2_copyFrom_53 : decode cX2_copyFrom 53 = .ok (.aload_n 1, 1) := by decide +kernel
theorem dX2_copyFrom_54 : decode cX2_copyFrom 54 = .ok (.getfield 18, 3) := by decide +kernel
theorem dX2_copyFrom_57 : decode cX2_copyFrom 57 = .ok (.iload_n 2, 1) := by decide +kernel
theorem dX2_copyFrom_58 : decode cX2_copyFrom 58 = .ok (.iaload, 1) := by decide +kernel
theorem dX2_copyFrom_59 : decode cX2_copyFrom 59 = .ok (.iastore, 1) := by decide +kernel
theorem dX2_copyFrom_60 : decode cX2_copyFrom 60 = .ok (.aload_n 0, 1) := by decide +kernel
theorem dX2_copyFrom_61 : decode cX2_copyFrom 61 = .ok (.getfield 21, 3) := by decide +kernel
theorem dX2_copyFrom_64 : decode cX2_copyFrom 64 = .ok (.iload_n 2, 1) := by decide +kernel
theorem dX2_copyFrom_65 : decode cX2_copyFrom 65 = .ok (.aload_n 1, 1) := by decide +kernel
theorem dX2_copyFrom_66 : decode cX2_copyFrom 66 = .ok (.getfield 21, 3) := by decide +kernel
theorem dX2_copyFrom_69 : decode cX2_copyFrom 69 = .ok (.iload_n 2, 1) := by decide +kernel
theorem dX2_copyFrom_70 : decode cX2_copyFrom 70 = .ok (.iaload, 1) := by decide +kernel
theorem dX2_copyFrom_71 : decode cX2_copyFrom 71 = .ok (.iastore, 1) := by decide +kernel
theorem dX2_copyFrom_72 : decode cX2_copyFrom 72 = .ok (.aload_n 0, 1) := by decide +kernel
theorem dX2_copyFrom_73 : decode cX2_copyFrom 73 = .ok (.getfield 24, 3) := by decide +kernel
theorem dX2_copyFrom_76 : decode cX2_copyFrom 76 = .ok (.iload_n 2, 1) := by decide +kernel
theorem dX2_copyFrom_77 : decode cX2_copyFrom 77 = .ok (.aload_n 1, 1) := by decide +kernel
theorem dX2_copyFrom_78 : decode cX2_copyFrom 78 = .ok (.getfield 24, 3) := by decide +kernel
theorem dX2_copyFrom_81 : decode cX2_copyFrom 81 = .ok (.iload_n 2, 1) := by decide +kernel
theorem dX2_copyFrom_82 : decode cX2_copyFrom 82 = .ok (.iaload, 1) := by decide +kernel
theorem dX2_copyFrom_83 : decode cX2_copyFrom 83 = .ok (.iastore, 1) := by decide +kernel
theorem dX2_copyFrom_84 : decode cX2_copyFrom 84 = .ok (.aload_n 0, 1) := by decide +kernel
theorem dX2_copyFrom_85 : decode cX2_copyFrom 85 = .ok (.getfield 27, 3) := by decide +kernel
theorem dX2_copyFrom_88 : decode cX2_copyFrom 88 = .ok (.iload_n 2, 1) := by decide +kernel
theorem dX2_copyFrom_89 : decode cX2_copyFrom 89 = .ok (.aload_n 1, 1) := by decide +kernel
theorem dX2_copyFrom_90 : decode cX2_copyFrom 90 = .ok (.getfield 27, 3) := by decide +kernel
theorem dX2_copyFrom_93 : decode cX2_copyFrom 93 = .ok (.iload_n 2, 1) := by decide +kernel
theorem dX2_copyFrom_94 : decode cX2_copyFrom 94 = .ok (.iaload, 1) := by decide +kernel
theorem dX2_copyFrom_95 : decode cX2_copyFrom 95 = .ok (.iastore, 1) := by decide +kernel
theorem dX2_copyFrom_96 : decode cX2_copyFrom 96 = .ok (.aload_n 0, 1) := by decide +kernel
theorem dX2_copyFrom_97 : decode cX2_copyFrom 97 = .ok (.getfield 30, 3) := by decide +kernel
theorem dX2_copyFrom_100 : decode cX2_copyFrom 100 = .ok (.iload_n 2, 1) := by decide +kernel
theorem dX2_copyFrom_101 : decode cX2_copyFrom 101 = .ok (.aload_n 1, 1) := by decide +kernel
theorem dX2_copyFrom_102 : decode cX2_copyFrom 102 = .ok (.getfield 30, 3) := by decide +kernel
theorem dX2_copyFrom_105 : decode cX2_copyFrom 105 = .ok (.iload_n 2, 1) := by decide +kernel
theorem dX2_copyFrom_106 : decode cX2_copyFrom 106 = .ok (.iaload, 1) := by decide +kernel
theorem dX2_copyFrom_107 : decode cX2_copyFrom 107 = .ok (.iastore, 1) := by decide +kernel
theorem dX2_copyFrom_108 : decode cX2_copyFrom 108 = .ok (.iinc 2 1, 3) := by decide +kernel
theorem dX2_copyFrom_111 : decode cX2_copyFrom 111 = .ok (.goto (-93), 3) := by decide +kernel
theorem dX2_copyFrom_114 : decode cX2_copyFrom 114 = .ok (.return_, 1) := by decide +kernel
theorem dX2_hourOf_0 : decode cX2_hourOf 0 = .ok (.aload_n 0, 1) := by decide +kernel
theorem dX2_hourOf_1 : decode cX2_hourOf 1 = .ok (.getfield 40, 3) := by decide +kernel
theorem dX2_hourOf_4 : decode cX2_hourOf 4 = .ok (.iload_n 1, 1) := by decide +kernel
theorem dX2_hourOf_5 : decode cX2_hourOf 5 = .ok (.invokevirtual 48, 3) := by decide +kernel
theorem dX2_hourOf_8 : decode cX2_hourOf 8 = .ok (.ifCond .eq 12, 3) := by decide +kernel
theorem dX2_hourOf_11 : decode cX2_hourOf 11 = .ok (.aload_n 0, 1) := by decide +kernel
theorem dX2_hourOf_12 : decode cX2_hourOf 12 = .ok (.getfield 15, 3) := by decide +kernel
theorem dX2_hourOf_15 : decode cX2_hourOf 15 = .ok (.iload_n 1, 1) := by decide +kernel
theorem dX2_hourOf_16 : decode cX2_hourOf 16 = .ok (.iaload, 1) := by decide +kernel
theorem dX2_hourOf_17 : decode cX2_hourOf 17 = .ok (.goto 5, 3) := by decide +kernel
theorem dX2_hourOf_20 : decode cX2_hourOf 20 = .ok (.ldc 52, 2) := by decide +kernel
theorem dX2_hourOf_22 : decode cX2_hourOf 22 = .ok (.ireturn, 1) := by decide +kernel
theorem dX2_roomOf_0 : decode cX2_roomOf 0 = .ok (.aload_n 0, 1) := by decide +kernel
theorem dX2_roomOf_1 : decode cX2_roomOf 1 = .ok (.getfield 40, 3) := by decide +kernel
theorem dX2_roomOf_4 : decode cX2_roomOf 4 = .ok (.iload_n 1, 1) := by decide +kernel
theorem dX2_roomOf_5 : decode cX2_roomOf 5 = .ok (.invokevirtual 48, 3) := by decide +kernel
theorem dX2_roomOf_8 : decode cX2_roomOf 8 = .ok (.ifCond .eq 12, 3) := by decide +kernel
theorem dX2_roomOf_11 : decode cX2_roomOf 11 = .ok (.aload_n 0, 1) := by decide +kernel
theorem dX2_roomOf_12 : decode cX2_roomOf 12 = .ok (.getfield 18, 3) := by decide +kernel
theorem dX2_roomOf_15 : decode cX2_roomOf 15 = .ok (.iload_n 1, 1) := by decide +kernel
theorem dX2_roomOf_16 : decode cX2_roomOf 16 = .ok (.iaload, 1) := by decide +kernel
theorem dX2_roomOf_17 : decode cX2_roomOf 17 = .ok (.goto 4, 3) := by decide +kernel
theorem dX2_roomOf_20 : decode cX2_roomOf 20 = .ok (.iconst 0, 1) := by decide +kernel
theorem dX2_roomOf_21 : decode cX2_roomOf 21 = .ok (.ireturn, 1) := by decide +kernel
theorem dX2_giveRoom_0 : decode cX2_giveRoom 0 = .ok (.aload_n 0, 1) := by decide +kernel
theorem dX2_giveRoom_1 : decode cX2_giveRoom 1 = .ok (.getfield 40, 3) := by decide +kernel
theorem dX2_giveRoom_4 : decode cX2_giveRoom 4 = .ok (.iload_n 1, 1) := by decide +kernel
theorem dX2_giveRoom_5 : decode cX2_giveRoom 5 = .ok (.invokevirtual 48, 3) := by decide +kernel
theorem dX2_giveRoom_8 : decode cX2_giveRoom 8 = .ok (.ifCond .eq 10, 3) := by decide +kernel
theorem dX2_giveRoom_11 : decode cX2_giveRoom 11 = .ok (.aload_n 0, 1) := by decide +kernel
theorem dX2_giveRoom_12 : decode cX2_giveRoom 12 = .ok (.getfield 18, 3) := by decide +kernel
theorem dX2_giveRoom_15 : decode cX2_giveRoom 15 = .ok (.iload_n 1, 1) := by decide +kernel
theorem dX2_giveRoom_16 : decode cX2_giveRoom 16 = .ok (.iload_n 2, 1) := by decide +kernel
theorem dX2_giveRoom_17 : decode cX2_giveRoom 17 = .ok (.iastore, 1) := by decide +kernel
theorem dX2_giveRoom_18 : decode cX2_giveRoom 18 = .ok (.return_, 1) := by decide +kernel
theorem dX2_isBooked_0 : decode cX2_isBooked 0 = .ok (.aload_n 0, 1) := by decide +kernel
theorem dX2_isBooked_1 : decode cX2_isBooked 1 = .ok (.getfield 40, 3) := by decide +kernel
theorem dX2_isBooked_4 : decode cX2_isBooked 4 = .ok (.iload_n 1, 1) := by decide +kernel
theorem dX2_isBooked_5 : decode cX2_isBooked 5 = .ok (.invokevirtual 48, 3) := by decide +kernel
theorem dX2_isBooked_8 : decode cX2_isBooked 8 = .ok (.ifCond .eq 16, 3) := by decide +kernel
theorem dX2_isBooked_11 : decode cX2_isBooked 11 = .ok (.aload_n 0, 1) := by decide +kernel
theorem dX2_isBooked_12 : decode cX2_isBooked 12 = .ok (.getfield 9, 3) := by decide +kernel
theorem dX2_isBooked_15 : decode cX2_isBooked 15 = .ok (.iload_n 1, 1) := by decide +kernel
theorem dX2_isBooked_16 : decode cX2_isBooked 16 = .ok (.iaload, 1) := by decide +kernel
theorem dX2_isBooked_17 : decode cX2_isBooked 17 = .ok (.ifCond .ne 7, 3) := by decide +kernel
theorem dX2_isBooked_20 : decode cX2_isBooked 20 = .ok (.iconst 1, 1) := by decide +kernel
theorem dX2_isBooked_21 : decode cX2_isBooked 21 = .ok (.goto 4, 3) := by decide +kernel
theorem dX2_isBooked_24 : decode cX2_isBooked 24 = .ok (.iconst 0, 1) := by decide +kernel
theorem dX2_isBooked_25 : decode cX2_isBooked 25 = .ok (.ireturn, 1) := by decide +kernel
theorem dX2_rebook_0 : decode cX2_rebook 0 = .ok (.aload_n 0, 1) := by decide +kernel
theorem dX2_rebook_1 : decode cX2_rebook 1 = .ok (.iload_n 1, 1) := by decide +kernel
theorem dX2_rebook_2 : decode cX2_rebook 2 = .ok (.invokevirtual 53, 3) := by decide +kernel
theorem dX2_rebook_5 : decode cX2_rebook 5 = .ok (.ifCond .eq 18, 3) := by decide +kernel
theorem dX2_rebook_8 : decode cX2_rebook 8 = .ok (.iload_n 2, 1) := by decide +kernel
theorem dX2_rebook_9 : decode cX2_rebook 9 = .ok (.aload_n 0, 1) := by decide +kernel
theorem dX2_rebook_10 : decode cX2_rebook 10 = .ok (.getfield 37, 3) := by decide +kernel
theorem dX2_rebook_13 : decode cX2_rebook 13 = .ok (.if_icmp .lt 10, 3) := by decide +kernel
theorem dX2_rebook_16 : decode cX2_rebook 16 = .ok (.aload_n 0, 1) := by decide +kernel
theorem dX2_rebook_17 : decode cX2_rebook 17 = .ok (.getfield 15, 3) := by decide +kernel
theorem dX2_rebook_20 : decode cX2_rebook 20 = .ok (.iload_n 1, 1) := by decide +kernel
theorem dX2_rebook_21 : decode cX2_rebook 21 = .ok (.iload_n 2, 1) := by decide +kernel
theorem dX2_rebook_22 : decode cX2_rebook 22 = .ok (.iastore, 1) := by decide +kernel
theorem dX2_rebook_23 : decode cX2_rebook 23 = .ok (.return_, 1) := by decide +kernel
theorem dX2_callOff_0 : decode cX2_callOff 0 = .ok (.aload_n 0, 1) := by decide +kernel
theorem dX2_callOff_1 : decode cX2_callOff 1 = .ok (.iload_n 1, 1) := by decide +kernel
theorem dX2_callOff_2 : decode cX2_callOff 2 = .ok (.invokevirtual 53, 3) := by decide +kernel
theorem dX2_callOff_5 : decode cX2_callOff 5 = .ok (.ifCond .eq 10, 3) := by decide +kernel
theorem dX2_callOff_8 : decode cX2_callOff 8 = .ok (.aload_n 0, 1) := by decide +kernel
theorem dX2_callOff_9 : decode cX2_callOff 9 = .ok (.getfield 9, 3) := by decide +kernel
theorem dX2_callOff_12 : decode cX2_callOff 12 = .ok (.iload_n 1, 1) := by decide +kernel
theorem dX2_callOff_13 : decode cX2_callOff 13 = .ok (.iconst 3, 1) := by decide +kernel
theorem dX2_callOff_14 : decode cX2_callOff 14 = .ok (.iastore, 1) := by decide +kernel
theorem dX2_callOff_15 : decode cX2_callOff 15 = .ok (.return_, 1) := by decide +kernel
theorem dX2_swapRooms_0 : decode cX2_swapRooms 0 = .ok (.aload_n 0, 1) := by decide +kernel
theorem dX2_swapRooms_1 : decode cX2_swapRooms 1 = .ok (.iload_n 1, 1) := by decide +kernel
theorem dX2_swapRooms_2 : decode cX2_swapRooms 2 = .ok (.invokevirtual 53, 3) := by decide +kernel
theorem dX2_swapRooms_5 : decode cX2_swapRooms 5 = .ok (.ifCond .eq 37, 3) := by decide +kernel
theorem dX2_swapRooms_8 : decode cX2_swapRooms 8 = .ok (.aload_n 0, 1) := by decide +kernel
theorem dX2_swapRooms_9 : decode cX2_swapRooms 9 = .ok (.iload_n 2, 1) := by decide +kernel
theorem dX2_swapRooms_10 : decode cX2_swapRooms 10 = .ok (.invokevirtual 53, 3) := by decide +kernel
theorem dX2_swapRooms_13 : decode cX2_swapRooms 13 = .ok (.ifCond .eq 29, 3) := by decide +kernel
theorem dX2_swapRooms_16 : decode cX2_swapRooms 16 = .ok (.aload_n 0, 1) := by decide +kernel
theorem dX2_swapRooms_17 : decode cX2_swapRooms 17 = .ok (.getfield 18, 3) := by decide +kernel
theorem dX2_swapRooms_20 : decode cX2_swapRooms 20 = .ok (.iload_n 1, 1) := by decide +kernel
theorem dX2_swapRooms_21 : decode cX2_swapRooms 21 = .ok (.iaload, 1) := by decide +kernel
theorem dX2_swapRooms_22 : decode cX2_swapRooms 22 = .ok (.istore_n 3, 1) := by decide +kernel
theorem dX2_swapRooms_23 : decode cX2_swapRooms 23 = .ok (.aload_n 0, 1) := by decide +kernel
theorem dX2_swapRooms_24 : decode cX2_swapRooms 24 = .ok (.getfield 18, 3) := by decide +kernel
theorem dX2_swapRooms_27 : decode cX2_swapRooms 27 = .ok (.iload_n 1, 1) := by decide +kernel
theorem dX2_swapRooms_28 : decode cX2_swapRooms 28 = .ok (.aload_n 0, 1) := by decide +kernel
theorem dX2_swapRooms_29 : decode cX2_swapRooms 29 = .ok (.getfield 18, 3) := by decide +kernel
theorem dX2_swapRooms_32 : decode cX2_swapRooms 32 = .ok (.iload_n 2, 1) := by decide +kernel
theorem dX2_swapRooms_33 : decode cX2_swapRooms 33 = .ok (.iaload, 1) := by decide +kernel
theorem dX2_swapRooms_34 : decode cX2_swapRooms 34 = .ok (.iastore, 1) := by decide +kernel
theorem dX2_swapRooms_35 : decode cX2_swapRooms 35 = .ok (.aload_n 0, 1) := by decide +kernel
theorem dX2_swapRooms_36 : decode cX2_swapRooms 36 = .ok (.getfield 18, 3) := by decide +kernel
theorem dX2_swapRooms_39 : decode cX2_swapRooms 39 = .ok (.iload_n 2, 1) := by decide +kernel
theorem dX2_swapRooms_40 : decode cX2_swapRooms 40 = .ok (.iload_n 3, 1) := by decide +kernel
theorem dX2_swapRooms_41 : decode cX2_swapRooms 41 = .ok (.iastore, 1) := by decide +kernel
theorem dX2_swapRooms_42 : decode cX2_swapRooms 42 = .ok (.return_, 1) := by decide +kernel
theorem dX2_brings_0 : decode cX2_brings 0 = .ok (.aload_n 0, 1) := by decide +kernel
theorem dX2_brings_1 : decode cX2_brings 1 = .ok (.getfield 40, 3) := by decide +kernel
theorem dX2_brings_4 : decode cX2_brings 4 = .ok (.iload_n 1, 1) := by decide +kernel
theorem dX2_brings_5 : decode cX2_brings 5 = .ok (.invokevirtual 48, 3) := by decide +kernel
theorem dX2_brings_8 : decode cX2_brings 8 = .ok (.ifCond .ne 5, 3) := by decide +kernel
theorem dX2_brings_11 : decode cX2_brings 11 = .ok (.iconst 0, 1) := by decide +kernel
theorem dX2_brings_12 : decode cX2_brings 12 = .ok (.ireturn, 1) := by decide +kernel
theorem dX2_brings_13 : decode cX2_brings 13 = .ok (.aload_n 0, 1) := by decide +kernel
theorem dX2_brings_14 : decode cX2_brings 14 = .ok (.getfield 40, 3) := by decide +kernel
theorem dX2_brings_17 : decode cX2_brings 17 = .ok (.getfield 56, 3) := by decide +kernel
theorem dX2_brings_20 : decode cX2_brings 20 = .ok (.iload_n 1, 1) := by decide +kernel
theorem dX2_brings_21 : decode cX2_brings 21 = .ok (.iaload, 1) := by decide +kernel
theorem dX2_brings_22 : decode cX2_brings 22 = .ok (.istore_n 2, 1) := by decide +kernel
theorem dX2_brings_23 : decode cX2_brings 23 = .ok (.aload_n 0, 1) := by decide +kernel
theorem dX2_brings_24 : decode cX2_brings 24 = .ok (.getfield 40, 3) := by decide +kernel
theorem dX2_brings_27 : decode cX2_brings 27 = .ok (.getfield 59, 3) := by decide +kernel
theorem dX2_brings_30 : decode cX2_brings 30 = .ok (.iload_n 1, 1) := by decide +kernel
theorem dX2_brings_31 : decode cX2_brings 31 = .ok (.iaload, 1) := by decide +kernel
theorem dX2_brings_32 : decode cX2_brings 32 = .ok (.iconst 1, 1) := by decide +kernel
theorem dX2_brings_33 : decode cX2_brings 33 = .ok (.if_icmp .ne 10, 3) := by decide +kernel
theorem dX2_brings_36 : decode cX2_brings 36 = .ok (.iconst 2, 1) := by decide +kernel
theorem dX2_brings_37 : decode cX2_brings 37 = .ok (.iload_n 2, 1) := by decide +kernel
theorem dX2_brings_38 : decode cX2_brings 38 = .ok (.imul, 1) := by decide +kernel
theorem dX2_brings_39 : decode cX2_brings 39 = .ok (.istore_n 2, 1) := by decide +kernel
theorem dX2_brings_40 : decode cX2_brings 40 = .ok (.goto 20, 3) := by decide +kernel
theorem dX2_brings_43 : decode cX2_brings 43 = .ok (.aload_n 0, 1) := by decide +kernel
theorem dX2_brings_44 : decode cX2_brings 44 = .ok (.getfield 40, 3) := by decide +kernel
theorem dX2_brings_47 : decode cX2_brings 47 = .ok (.getfield 59, 3) := by decide +kernel
theorem dX2_brings_50 : decode cX2_brings 50 = .ok (.iload_n 1, 1) := by decide +kernel
theorem dX2_brings_51 : decode cX2_brings 51 = .ok (.iaload, 1) := by decide +kernel
theorem dX2_brings_52 : decode cX2_brings 52 = .ok (.iconst 3, 1) := by decide +kernel
theorem dX2_brings_53 : decode cX2_brings 53 = .ok (.if_icmp .ne 7, 3) := by decide +kernel
theorem dX2_brings_56 : decode cX2_brings 56 = .ok (.iload_n 2, 1) := by decide +kernel
theorem dX2_brings_57 : decode cX2_brings 57 = .ok (.iconst 2, 1) := by decide +kernel
theorem dX2_brings_58 : decode cX2_brings 58 = .ok (.idiv, 1) := by decide +kernel
theorem dX2_brings_59 : decode cX2_brings 59 = .ok (.istore_n 2, 1) := by decide +kernel
theorem dX2_brings_60 : decode cX2_brings 60 = .ok (.iload_n 2, 1) := by decide +kernel
theorem dX2_brings_61 : decode cX2_brings 61 = .ok (.aload_n 0, 1) := by decide +kernel
theorem dX2_brings_62 : decode cX2_brings 62 = .ok (.getfield 18, 3) := by decide +kernel
theorem dX2_brings_65 : decode cX2_brings 65 = .ok (.iload_n 1, 1) := by decide +kernel
theorem dX2_brings_66 : decode cX2_brings 66 = .ok (.iaload, 1) := by decide +kernel
theorem dX2_brings_67 : decode cX2_brings 67 = .ok (.iadd, 1) := by decide +kernel
theorem dX2_brings_68 : decode cX2_brings 68 = .ok (.ireturn, 1) := by decide +kernel
theorem dX2_oneHour_0 : decode cX2_oneHour 0 = .ok (.iconst 0, 1) := by decide +kernel
theorem dX2_oneHour_1 : decode cX2_oneHour 1 = .ok (.istore_n 1, 1) := by decide +kernel
theorem dX2_oneHour_2 : decode cX2_oneHour 2 = .ok (.iload_n 1, 1) := by decide +kernel
theorem dX2_oneHour_3 : decode cX2_oneHour 3 = .ok (.bipush 7, 2) := by decide +kernel
theorem dX2_oneHour_5 : decode cX2_oneHour 5 = .ok (.if_icmp .ge 47, 3) := by decide +kernel
theorem dX2_oneHour_8 : decode cX2_oneHour 8 = .ok (.iload_n 1, 1) := by decide +kernel
theorem dX2_oneHour_9 : decode cX2_oneHour 9 = .ok (.aload_n 0, 1) := by decide +kernel
theorem dX2_oneHour_10 : decode cX2_oneHour 10 = .ok (.getfield 40, 3) := by decide +kernel
theorem dX2_oneHour_13 : decode cX2_oneHour 13 = .ok (.getfield 62, 3) := by decide +kernel
theorem dX2_oneHour_16 : decode cX2_oneHour 16 = .ok (.if_icmp .ge 36, 3) := by decide +kernel
theorem dX2_oneHour_19 : decode cX2_oneHour 19 = .ok (.aload_n 0, 1) := by decide +kernel
theorem dX2_oneHour_20 : decode cX2_oneHour 20 = .ok (.getfield 9, 3) := by decide +kernel
theorem dX2_oneHour_23 : decode cX2_oneHour 23 = .ok (.iload_n 1, 1) := by decide +kernel
theorem dX2_oneHour_24 : decode cX2_oneHour 24 = .ok (.iaload, 1) := by decide +kernel
theorem dX2_oneHour_25 : decode cX2_oneHour 25 = .ok (.ifCond .ne 21, 3) := by decide +kernel
theorem dX2_oneHour_28 : decode cX2_oneHour 28 = .ok (.aload_n 0, 1) := by decide +kernel
theorem dX2_oneHour_29 : decode cX2_oneHour 29 = .ok (.getfield 15, 3) := by decide +kernel
theorem dX2_oneHour_32 : decode cX2_oneHour 32 = .ok (.iload_n 1, 1) := by decide +kernel
theorem dX2_oneHour_33 : decode cX2_oneHour 33 = .ok (.iaload, 1) := by decide +kernel
theorem dX2_oneHour_34 : decode cX2_oneHour 34 = .ok (.aload_n 0, 1) := by decide +kernel
theorem dX2_oneHour_35 : decode cX2_oneHour 35 = .ok (.getfield 37, 3) := by decide +kernel
theorem dX2_oneHour_38 : decode cX2_oneHour 38 = .ok (.if_icmp .ne 8, 3) := by decide +kernel
theorem dX2_oneHour_41 : decode cX2_oneHour 41 = .ok (.aload_n 0, 1) := by decide +kernel
theorem dX2_oneHour_42 : decode cX2_oneHour 42 = .ok (.iload_n 1, 1) := by decide +kernel
theorem dX2_oneHour_43 : decode cX2_oneHour 43 = .ok (.invokevirtual 65, 3) := by decide +kernel
theorem dX2_oneHour_46 : decode cX2_oneHour 46 = .ok (.iinc 1 1, 3) := by decide +kernel
theorem dX2_oneHour_49 : decode cX2_oneHour 49 = .ok (.goto (-47), 3) := by decide +kernel
theorem dX2_oneHour_52 : decode cX2_oneHour 52 = .ok (.iconst 0, 1) := by decide +kernel
theorem dX2_oneHour_53 : decode cX2_oneHour 53 = .ok (.istore_n 1, 1) := by decide +kernel
theorem dX2_oneHour_54 : decode cX2_oneHour 54 = .ok (.iload_n 1, 1) := by decide +kernel
theorem dX2_oneHour_55 : decode cX2_oneHour 55 = .ok (.bipush 7, 2) := by decide +kernel
theorem dX2_oneHour_57 : decode cX2_oneHour 57 = .ok (.if_icmp .ge 56, 3) := by decide +kernel
theorem dX2_oneHour_60 : decode cX2_oneHour 60 = .ok (.iload_n 1, 1) := by decide +kernel
theorem dX2_oneHour_61 : decode cX2_oneHour 61 = .ok (.aload_n 0, 1) := by decide +kernel
theorem dX2_oneHour_62 : decode cX2_oneHour 62 = .ok (.getfield 40, 3) := by decide +kernel
theorem dX2_oneHour_65 : decode cX2_oneHour 65 = .ok (.getfield 62, 3) := by decide +kernel
theorem dX2_oneHour_68 : decode cX2_oneHour 68 = .ok (.if_icmp .ge 45, 3) := by decide +kernel
theorem dX2_oneHour_71 : decode cX2_oneHour 71 = .ok (.aload_n 0, 1) := by decide +kernel
theorem dX2_oneHour_72 : decode cX2_oneHour 72 = .ok (.getfield 9, 3) := by decide +kernel
theorem dX2_oneHour_75 : decode cX2_oneHour 75 = .ok (.iload_n 1, 1) := by decide +kernel
theorem dX2_oneHour_76 : decode cX2_oneHour 76 = .ok (.iaload, 1) := by decide +kernel
theorem dX2_oneHour_77 : decode cX2_oneHour 77 = .ok (.iconst 1, 1) := by decide +kernel
theorem dX2_oneHour_78 : decode cX2_oneHour 78 = .ok (.if_icmp .ne 29, 3) := by decide +kernel
theorem dX2_oneHour_81 : decode cX2_oneHour 81 = .ok (.aload_n 0, 1) := by decide +kernel
theorem dX2_oneHour_82 : decode cX2_oneHour 82 = .ok (.getfield 21, 3) := by decide +kernel
theorem dX2_oneHour_85 : decode cX2_oneHour 85 = .ok (.iload_n 1, 1) := by decide +kernel
theorem dX2_oneHour_86 : decode cX2_oneHour 86 = .ok (.iconst 0, 1) := by decide +kernel
theorem dX2_oneHour_87 : decode cX2_oneHour 87 = .ok (.aload_n 0, 1) := by decide +kernel
theorem dX2_oneHour_88 : decode cX2_oneHour 88 = .ok (.getfield 21, 3) := by decide +kernel
theorem dX2_oneHour_91 : decode cX2_oneHour 91 = .ok (.iload_n 1, 1) := by decide +kernel
theorem dX2_oneHour_92 : decode cX2_oneHour 92 = .ok (.iaload, 1) := by decide +kernel
theorem dX2_oneHour_93 : decode cX2_oneHour 93 = .ok (.aload_n 0, 1) := by decide +kernel
theorem dX2_oneHour_94 : decode cX2_oneHour 94 = .ok (.getfield 40, 3) := by decide +kernel
theorem dX2_oneHour_97 : decode cX2_oneHour 97 = .ok (.getfield 69, 3) := by decide +kernel
theorem dX2_oneHour_100 : decode cX2_oneHour 100 = .ok (.iload_n 1, 1) := by decide +kernel
theorem dX2_oneHour_101 : decode cX2_oneHour 101 = .ok (.iaload, 1) := by decide +kernel
theorem dX2_oneHour_102 : decode cX2_oneHour 102 = .ok (.isub, 1) := by decide +kernel
theorem dX2_oneHour_103 : decode cX2_oneHour 103 = .ok (.invokestatic 72, 3) := by decide +kernel
theorem dX2_oneHour_106 : decode cX2_oneHour 106 = .ok (.iastore, 1) := by decide +kernel
theorem dX2_oneHour_107 : decode cX2_oneHour 107 = .ok (.iinc 1 1, 3) := by decide +kernel
theorem dX2_oneHour_110 : decode cX2_oneHour 110 = .ok (.goto (-56), 3) := by decide +kernel
theorem dX2_oneHour_113 : decode cX2_oneHour 113 = .ok (.iconst 0, 1) := by decide +kernel
theorem dX2_oneHour_114 : decode cX2_oneHour 114 = .ok (.istore_n 1, 1) := by decide +kernel
theorem dX2_oneHour_115 : decode cX2_oneHour 115 = .ok (.iload_n 1, 1) := by decide +kernel
theorem dX2_oneHour_116 : decode cX2_oneHour 116 = .ok (.bipush 7, 2) := by decide +kernel
theorem dX2_oneHour_118 : decode cX2_oneHour 118 = .ok (.if_icmp .ge 52, 3) := by decide +kernel
theorem dX2_oneHour_121 : decode cX2_oneHour 121 = .ok (.iload_n 1, 1) := by decide +kernel
theorem dX2_oneHour_122 : decode cX2_oneHour 122 = .ok (.aload_n 0, 1) := by decide +kernel
theorem dX2_oneHour_123 : decode cX2_oneHour 123 = .ok (.getfield 40, 3) := by decide +kernel
theorem dX2_oneHour_126 : decode cX2_oneHour 126 = .ok (.getfield 62, 3) := by decide +kernel
theorem dX2_oneHour_129 : decode cX2_oneHour 129 = .ok (.if_icmp .ge 41, 3) := by decide +kernel
theorem dX2_oneHour_132 : decode cX2_oneHour 132 = .ok (.aload_n 0, 1) := by decide +kernel
theorem dX2_oneHour_133 : decode cX2_oneHour 133 = .ok (.getfield 9, 3) := by decide +kernel
theorem dX2_oneHour_136 : decode cX2_oneHour 136 = .ok (.iload_n 1, 1) := by decide +kernel
theorem dX2_oneHour_137 : decode cX2_oneHour 137 = .ok (.iaload, 1) := by decide +kernel
theorem dX2_oneHour_138 : decode cX2_oneHour 138 = .ok (.iconst 1, 1) := by decide +kernel
theorem dX2_oneHour_139 : decode cX2_oneHour 139 = .ok (.if_icmp .ne 25, 3) := by decide +kernel
theorem dX2_oneHour_142 : decode cX2_oneHour 142 = .ok (.iload_n 1, 1) := by decide +kernel
theorem dX2_oneHour_143 : decode cX2_oneHour 143 = .ok (.aload_n 0, 1) := by decide +kernel
theorem dX2_oneHour_144 : decode cX2_oneHour 144 = .ok (.getfield 33, 3) := by decide +kernel
theorem dX2_oneHour_147 : decode cX2_oneHour 147 = .ok (.if_icmp .eq 17, 3) := by decide +kernel
theorem dX2_oneHour_150 : decode cX2_oneHour 150 = .ok (.aload_n 0, 1) := by decide +kernel
theorem dX2_oneHour_151 : decode cX2_oneHour 151 = .ok (.getfield 21, 3) := by decide +kernel
theorem dX2_oneHour_154 : decode cX2_oneHour 154 = .ok (.iload_n 1, 1) := by decide +kernel
theorem dX2_oneHour_155 : decode cX2_oneHour 155 = .ok (.iaload, 1) := by decide +kernel
theorem dX2_oneHour_156 : decode cX2_oneHour 156 = .ok (.ifCond .ne 8, 3) := by decide +kernel
theorem dX2_oneHour_159 : decode cX2_oneHour 159 = .ok (.aload_n 0, 1) := by decide +kernel
theorem dX2_oneHour_160 : decode cX2_oneHour 160 = .ok (.iload_n 1, 1) := by decide +kernel
theorem dX2_oneHour_161 : decode cX2_oneHour 161 = .ok (.invokevirtual 78, 3) := by decide +kernel
theorem dX2_oneHour_164 : decode cX2_oneHour 164 = .ok (.iinc 1 1, 3) := by decide +kernel
theorem dX2_oneHour_167 : decode cX2_oneHour 167 = .ok (.goto (-52), 3) := by decide +kernel
theorem dX2_oneHour_170 : decode cX2_oneHour 170 = .ok (.aload_n 0, 1) := by decide +kernel
theorem dX2_oneHour_171 : decode cX2_oneHour 171 = .ok (.dup, 1) := by decide +kernel
theorem dX2_oneHour_172 : decode cX2_oneHour 172 = .ok (.getfield 37, 3) := by decide +kernel
theorem dX2_oneHour_175 : decode cX2_oneHour 175 = .ok (.iconst 1, 1) := by decide +kernel
theorem dX2_oneHour_176 : decode cX2_oneHour 176 = .ok (.iadd, 1) := by decide +kernel
theorem dX2_oneHour_177 : decode cX2_oneHour 177 = .ok (.putfield 37, 3) := by decide +kernel
theorem dX2_oneHour_180 : decode cX2_oneHour 180 = .ok (.return_, 1) := by decide +kernel
theorem dX2_comes_0 : decode cX2_comes 0 = .ok (.aload_n 0, 1) := by decide +kernel
theorem dX2_comes_1 : decode cX2_comes 1 = .ok (.getfield 40, 3) := by decide +kernel
theorem dX2_comes_4 : decode cX2_comes 4 = .ok (.iload_n 1, 1) := by decide +kernel
theorem dX2_comes_5 : decode cX2_comes 5 = .ok (.invokevirtual 48, 3) := by decide +kernel
theorem dX2_comes_8 : decode cX2_comes 8 = .ok (.ifCond .ne 4, 3) := by decide +kernel
theorem dX2_comes_11 : decode cX2_comes 11 = .ok (.return_, 1) := by decide +kernel
theorem dX2_comes_12 : decode cX2_comes 12 = .ok (.aload_n 0, 1) := by decide +kernel
theorem dX2_comes_13 : decode cX2_comes 13 = .ok (.getfield 40, 3) := by decide +kernel
theorem dX2_comes_16 : decode cX2_comes 16 = .ok (.aload_n 0, 1) := by decide +kernel
theorem dX2_comes_17 : decode cX2_comes 17 = .ok (.getfield 33, 3) := by decide +kernel
theorem dX2_comes_20 : decode cX2_comes 20 = .ok (.invokevirtual 48, 3) := by decide +kernel
theorem dX2_comes_23 : decode cX2_comes 23 = .ok (.ifCond .eq 45, 3) := by decide +kernel
theorem dX2_comes_26 : decode cX2_comes 26 = .ok (.aload_n 0, 1) := by decide +kernel
theorem dX2_comes_27 : decode cX2_comes 27 = .ok (.getfield 21, 3) := by decide +kernel
theorem dX2_comes_30 : decode cX2_comes 30 = .ok (.aload_n 0, 1) := by decide +kernel
theorem dX2_comes_31 : decode cX2_comes 31 = .ok (.getfield 33, 3) := by decide +kernel
theorem dX2_comes_34 : decode cX2_comes 34 = .ok (.dup2, 1) := by decide +kernel
theorem dX2_comes_35 : decode cX2_comes 35 = .ok (.iaload, 1) := by decide +kernel
theorem dX2_comes_36 : decode cX2_comes 36 = .ok (.aload_n 0, 1) := by decide +kernel
theorem dX2_comes_37 : decode cX2_comes 37 = .ok (.iload_n 1, 1) := by decide +kernel
theorem dX2_comes_38 : decode cX2_comes 38 = .ok (.invokevirtual 81, 3) := by decide +kernel
theorem dX2_comes_41 : decode cX2_comes 41 = .ok (.iadd, 1) := by decide +kernel
theorem dX2_comes_42 : decode cX2_comes 42 = .ok (.iastore, 1) := by decide +kernel
theorem dX2_comes_43 : decode cX2_comes 43 = .ok (.aload_n 0, 1) := by decide +kernel
theorem dX2_comes_44 : decode cX2_comes 44 = .ok (.getfield 27, 3) := by decide +kernel
theorem dX2_comes_47 : decode cX2_comes 47 = .ok (.aload_n 0, 1) := by decide +kernel
theorem dX2_comes_48 : decode cX2_comes 48 = .ok (.getfield 33, 3) := by decide +kernel
theorem dX2_comes_51 : decode cX2_comes 51 = .ok (.dup2, 1) := by decide +kernel
theorem dX2_comes_52 : decode cX2_comes 52 = .ok (.iaload, 1) := by decide +kernel
theorem dX2_comes_53 : decode cX2_comes 53 = .ok (.iconst 1, 1) := by decide +kernel
theorem dX2_comes_54 : decode cX2_comes 54 = .ok (.iload_n 1, 1) := by decide +kernel
theorem dX2_comes_55 : decode cX2_comes 55 = .ok (.ishl, 1) := by decide +kernel
theorem dX2_comes_56 : decode cX2_comes 56 = .ok (.ior, 1) := by decide +kernel
theorem dX2_comes_57 : decode cX2_comes 57 = .ok (.iastore, 1) := by decide +kernel
theorem dX2_comes_58 : decode cX2_comes 58 = .ok (.aload_n 0, 1) := by decide +kernel
theorem dX2_comes_59 : decode cX2_comes 59 = .ok (.getfield 24, 3) := by decide +kernel
theorem dX2_comes_62 : decode cX2_comes 62 = .ok (.iload_n 1, 1) := by decide +kernel
theorem dX2_comes_63 : decode cX2_comes 63 = .ok (.aload_n 0, 1) := by decide +kernel
theorem dX2_comes_64 : decode cX2_comes 64 = .ok (.getfield 33, 3) := by decide +kernel
theorem dX2_comes_67 : decode cX2_comes 67 = .ok (.iastore, 1) := by decide +kernel
theorem dX2_comes_68 : decode cX2_comes 68 = .ok (.aload_n 0, 1) := by decide +kernel
theorem dX2_comes_69 : decode cX2_comes 69 = .ok (.getfield 40, 3) := by decide +kernel
theorem dX2_comes_72 : decode cX2_comes 72 = .ok (.getfield 59, 3) := by decide +kernel
theorem dX2_comes_75 : decode cX2_comes 75 = .ok (.iload_n 1, 1) := by decide +kernel
theorem dX2_comes_76 : decode cX2_comes 76 = .ok (.iaload, 1) := by decide +kernel
theorem dX2_comes_77 : decode cX2_comes 77 = .ok (.iconst 2, 1) := by decide +kernel
theorem dX2_comes_78 : decode cX2_comes 78 = .ok (.if_icmp .ne 13, 3) := by decide +kernel
theorem dX2_comes_81 : decode cX2_comes 81 = .ok (.aload_n 0, 1) := by decide +kernel
theorem dX2_comes_82 : decode cX2_comes 82 = .ok (.getfield 9, 3) := by decide +kernel
theorem dX2_comes_85 : decode cX2_comes 85 = .ok (.iload_n 1, 1) := by decide +kernel
theorem dX2_comes_86 : decode cX2_comes 86 = .ok (.iconst 2, 1) := by decide +kernel
theorem dX2_comes_87 : decode cX2_comes 87 = .ok (.iastore, 1) := by decide +kernel
theorem dX2_comes_88 : decode cX2_comes 88 = .ok (.goto 15, 3) := by decide +kernel
theorem dX2_comes_91 : decode cX2_comes 91 = .ok (.aload_n 0, 1) := by decide +kernel
theorem dX2_comes_92 : decode cX2_comes 92 = .ok (.getfield 9, 3) := by decide +kernel
theorem dX2_comes_95 : decode cX2_comes 95 = .ok (.iload_n 1, 1) := by decide +kernel
theorem dX2_comes_96 : decode cX2_comes 96 = .ok (.iconst 1, 1) := by decide +kernel
theorem dX2_comes_97 : decode cX2_comes 97 = .ok (.iastore, 1) := by decide +kernel
theorem dX2_comes_98 : decode cX2_comes 98 = .ok (.aload_n 0, 1) := by decide +kernel
theorem dX2_comes_99 : decode cX2_comes 99 = .ok (.iload_n 1, 1) := by decide +kernel
theorem dX2_comes_100 : decode cX2_comes 100 = .ok (.putfield 33, 3) := by decide +kernel
theorem dX2_comes_103 : decode cX2_comes 103 = .ok (.return_, 1) := by decide +kernel
theorem dX2_setFree_0 : decode cX2_setFree 0 = .ok (.aload_n 0, 1) := by decide +kernel
theorem dX2_setFree_1 : decode cX2_setFree 1 = .ok (.getfield 40, 3) := by decide +kernel
theorem dX2_setFree_4 : decode cX2_setFree 4 = .ok (.iload_n 1, 1) := by decide +kernel
theorem dX2_setFree_5 : decode cX2_setFree 5 = .ok (.invokevirtual 48, 3) := by decide +kernel
theorem dX2_setFree_8 : decode cX2_setFree 8 = .ok (.ifCond .ne 4, 3) := by decide +kernel
theorem dX2_setFree_11 : decode cX2_setFree 11 = .ok (.return_, 1) := by decide +kernel
theorem dX2_setFree_12 : decode cX2_setFree 12 = .ok (.aload_n 0, 1) := by decide +kernel
theorem dX2_setFree_13 : decode cX2_setFree 13 = .ok (.getfield 9, 3) := by decide +kernel
theorem dX2_setFree_16 : decode cX2_setFree 16 = .ok (.iload_n 1, 1) := by decide +kernel
theorem dX2_setFree_17 : decode cX2_setFree 17 = .ok (.iconst 2, 1) := by decide +kernel
theorem dX2_setFree_18 : decode cX2_setFree 18 = .ok (.iastore, 1) := by decide +kernel
theorem dX2_setFree_19 : decode cX2_setFree 19 = .ok (.iconst 0, 1) := by decide +kernel
theorem dX2_setFree_20 : decode cX2_setFree 20 = .ok (.istore_n 2, 1) := by decide +kernel
theorem dX2_setFree_21 : decode cX2_setFree 21 = .ok (.iload_n 2, 1) := by decide +kernel
theorem dX2_setFree_22 : decode cX2_setFree 22 = .ok (.bipush 7, 2) := by decide +kernel
theorem dX2_setFree_24 : decode cX2_setFree 24 = .ok (.if_icmp .ge 52, 3) := by decide +kernel
theorem dX2_setFree_27 : decode cX2_setFree 27 = .ok (.iload_n 2, 1) := by decide +kernel
theorem dX2_setFree_28 : decode cX2_setFree 28 = .ok (.aload_n 0, 1) := by decide +kernel
theorem dX2_setFree_29 : decode cX2_setFree 29 = .ok (.getfield 40, 3) := by decide +kernel
theorem dX2_setFree_32 : decode cX2_setFree 32 = .ok (.getfield 62, 3) := by decide +kernel
theorem dX2_setFree_35 : decode cX2_setFree 35 = .ok (.if_icmp .ge 41, 3) := by decide +kernel
theorem dX2_setFree_38 : decode cX2_setFree 38 = .ok (.aload_n 0, 1) := by decide +kernel
theorem dX2_setFree_39 : decode cX2_setFree 39 = .ok (.getfield 27, 3) := by decide +kernel
theorem dX2_setFree_42 : decode cX2_setFree 42 = .ok (.iload_n 1, 1) := by decide +kernel
theorem dX2_setFree_43 : decode cX2_setFree 43 = .ok (.iaload, 1) := by decide +kernel
theorem dX2_setFree_44 : decode cX2_setFree 44 = .ok (.iload_n 2, 1) := by decide +kernel
theorem dX2_setFree_45 : decode cX2_setFree 45 = .ok (.ishr, 1) := by decide +kernel
theorem dX2_setFree_46 : decode cX2_setFree 46 = .ok (.iconst 1, 1) := by decide +kernel
theorem dX2_setFree_47 : decode cX2_setFree 47 = .ok (.iand, 1) := by decide +kernel
theorem dX2_setFree_48 : decode cX2_setFree 48 = .ok (.iconst 1, 1) := by decide +kernel
theorem dX2_setFree_49 : decode cX2_setFree 49 = .ok (.if_icmp .ne 21, 3) := by decide +kernel
theorem dX2_setFree_52 : decode cX2_setFree 52 = .ok (.aload_n 0, 1) := by decide +kernel
theorem dX2_setFree_53 : decode cX2_setFree 53 = .ok (.getfield 30, 3) := by decide +kernel
theorem dX2_setFree_56 : decode cX2_setFree 56 = .ok (.iload_n 1, 1) := by decide +kernel
theorem dX2_setFree_57 : decode cX2_setFree 57 = .ok (.dup2, 1) := by decide +kernel
theorem dX2_setFree_58 : decode cX2_setFree 58 = .ok (.iaload, 1) := by decide +kernel
theorem dX2_setFree_59 : decode cX2_setFree 59 = .ok (.aload_n 0, 1) := by decide +kernel
theorem dX2_setFree_60 : decode cX2_setFree 60 = .ok (.getfield 40, 3) := by decide +kernel
theorem dX2_setFree_63 : decode cX2_setFree 63 = .ok (.getfield 85, 3) := by decide +kernel
theorem dX2_setFree_66 : decode cX2_setFree 66 = .ok (.iload_n 2, 1) := by decide +kernel
theorem dX2_setFree_67 : decode cX2_setFree 67 = .ok (.iaload, 1) := by decide +kernel
theorem dX2_setFree_68 : decode cX2_setFree 68 = .ok (.iadd, 1) := by decide +kernel
theorem dX2_setFree_69 : decode cX2_setFree 69 = .ok (.iastore, 1) := by decide +kernel
theorem dX2_setFree_70 : decode cX2_setFree 70 = .ok (.iinc 2 1, 3) := by decide +kernel
theorem dX2_setFree_73 : decode cX2_setFree 73 = .ok (.goto (-52), 3) := by decide +kernel
theorem dX2_setFree_76 : decode cX2_setFree 76 = .ok (.aload_n 0, 1) := by decide +kernel
theorem dX2_setFree_77 : decode cX2_setFree 77 = .ok (.getfield 24, 3) := by decide +kernel
theorem dX2_setFree_80 : decode cX2_setFree 80 = .ok (.iload_n 1, 1) := by decide +kernel
theorem dX2_setFree_81 : decode cX2_setFree 81 = .ok (.iaload, 1) := by decide +kernel
theorem dX2_setFree_82 : decode cX2_setFree 82 = .ok (.istore_n 2, 1) := by decide +kernel
theorem dX2_setFree_83 : decode cX2_setFree 83 = .ok (.aload_n 0, 1) := by decide +kernel
theorem dX2_setFree_84 : decode cX2_setFree 84 = .ok (.getfield 40, 3) := by decide +kernel
theorem dX2_setFree_87 : decode cX2_setFree 87 = .ok (.iload_n 2, 1) := by decide +kernel
theorem dX2_setFree_88 : decode cX2_setFree 88 = .ok (.invokevirtual 48, 3) := by decide +kernel
theorem dX2_setFree_91 : decode cX2_setFree 91 = .ok (.ifCond .eq 32, 3) := by decide +kernel
theorem dX2_setFree_94 : decode cX2_setFree 94 = .ok (.aload_n 0, 1) := by decide +kernel
theorem dX2_setFree_95 : decode cX2_setFree 95 = .ok (.getfield 30, 3) := by decide +kernel
theorem dX2_setFree_98 : decode cX2_setFree 98 = .ok (.iload_n 1, 1) := by decide +kernel
theorem dX2_setFree_99 : decode cX2_setFree 99 = .ok (.iaload, 1) := by decide +kernel
theorem dX2_setFree_100 : decode cX2_setFree 100 = .ok (.iconst 2, 1) := by decide +kernel
theorem dX2_setFree_101 : decode cX2_setFree 101 = .ok (.idiv, 1) := by decide +kernel
theorem dX2_setFree_102 : decode cX2_setFree 102 = .ok (.istore_n 3, 1) := by decide +kernel
theorem dX2_setFree_103 : decode cX2_setFree 103 = .ok (.aload_n 0, 1) := by decide +kernel
theorem dX2_setFree_104 : decode cX2_setFree 104 = .ok (.getfield 30, 3) := by decide +kernel
theorem dX2_setFree_107 : decode cX2_setFree 107 = .ok (.iload_n 1, 1) := by decide +kernel
theorem dX2_setFree_108 : decode cX2_setFree 108 = .ok (.dup2, 1) := by decide +kernel
theorem dX2_setFree_109 : decode cX2_setFree 109 = .ok (.iaload, 1) := by decide +kernel
theorem dX2_setFree_110 : decode cX2_setFree 110 = .ok (.iload_n 3, 1) := by decide +kernel
theorem dX2_setFree_111 : decode cX2_setFree 111 = .ok (.isub, 1) := by decide +kernel
theorem dX2_setFree_112 : decode cX2_setFree 112 = .ok (.iastore, 1) := by decide +kernel
theorem dX2_setFree_113 : decode cX2_setFree 113 = .ok (.aload_n 0, 1) := by decide +kernel
theorem dX2_setFree_114 : decode cX2_setFree 114 = .ok (.getfield 30, 3) := by decide +kernel
theorem dX2_setFree_117 : decode cX2_setFree 117 = .ok (.iload_n 2, 1) := by decide +kernel
theorem dX2_setFree_118 : decode cX2_setFree 118 = .ok (.dup2, 1) := by decide +kernel
theorem dX2_setFree_119 : decode cX2_setFree 119 = .ok (.iaload, 1) := by decide +kernel
theorem dX2_setFree_120 : decode cX2_setFree 120 = .ok (.iload_n 3, 1) := by decide +kernel
theorem dX2_setFree_121 : decode cX2_setFree 121 = .ok (.iadd, 1) := by decide +kernel
theorem dX2_setFree_122 : decode cX2_setFree 122 = .ok (.iastore, 1) := by decide +kernel
theorem dX2_setFree_123 : decode cX2_setFree 123 = .ok (.return_, 1) := by decide +kernel
theorem dX2_disturb_0 : decode cX2_disturb 0 = .ok (.aload_n 0, 1) := by decide +kernel
theorem dX2_disturb_1 : decode cX2_disturb 1 = .ok (.getfield 40, 3) := by decide +kernel
theorem dX2_disturb_4 : decode cX2_disturb 4 = .ok (.getfield 62, 3) := by decide +kernel
theorem dX2_disturb_7 : decode cX2_disturb 7 = .ok (.istore_n 2, 1) := by decide +kernel
theorem dX2_disturb_8 : decode cX2_disturb 8 = .ok (.iload_n 2, 1) := by decide +kernel
theorem dX2_disturb_9 : decode cX2_disturb 9 = .ok (.iconst 1, 1) := by decide +kernel
theorem dX2_disturb_10 : decode cX2_disturb 10 = .ok (.if_icmp .ge 4, 3) := by decide +kernel
theorem dX2_disturb_13 : decode cX2_disturb 13 = .ok (.return_, 1) := by decide +kernel
theorem dX2_disturb_14 : decode cX2_disturb 14 = .ok (.iload_n 1, 1) := by decide +kernel
theorem dX2_disturb_15 : decode cX2_disturb 15 = .ok (.bipush 8, 2) := by decide +kernel
theorem dX2_disturb_17 : decode cX2_disturb 17 = .ok (.idiv, 1) := by decide +kernel
theorem dX2_disturb_18 : decode cX2_disturb 18 = .ok (.iload_n 2, 1) := by decide +kernel
theorem dX2_disturb_19 : decode cX2_disturb 19 = .ok (.irem, 1) := by decide +kernel
theorem dX2_disturb_20 : decode cX2_disturb 20 = .ok (.istore_n 3, 1) := by decide +kernel
theorem dX2_disturb_21 : decode cX2_disturb 21 = .ok (.iload_n 1, 1) := by decide +kernel
theorem dX2_disturb_22 : decode cX2_disturb 22 = .ok (.bipush 64, 2) := by decide +kernel
theorem dX2_disturb_24 : decode cX2_disturb 24 = .ok (.idiv, 1) := by decide +kernel
theorem dX2_disturb_25 : decode cX2_disturb 25 = .ok (.istore 4, 2) := by decide +kernel
theorem dX2_disturb_27 : decode cX2_disturb 27 = .ok (.iload_n 1, 1) := by decide +kernel
theorem dX2_disturb_28 : decode cX2_disturb 28 = .ok (.bipush 8, 2) := by decide +kernel
theorem dX2_disturb_30 : decode cX2_disturb 30 = .ok (.irem, 1) := by decide +kernel
theorem dX2_disturb_31 : decode cX2_disturb 31 = .ok (.tableswitch 68 0 2 #[25, 48, 56], 25) := by decide +kernel
theorem dX2_disturb_56 : decode cX2_disturb 56 = .ok (.aload_n 0, 1) := by decide +kernel
theorem dX2_disturb_57 : decode cX2_disturb 57 = .ok (.iload_n 3, 1) := by decide +kernel
theorem dX2_disturb_58 : decode cX2_disturb 58 = .ok (.bipush 40, 2) := by decide +kernel
theorem dX2_disturb_60 : decode cX2_disturb 60 = .ok (.aload_n 0, 1) := by decide +kernel
theorem dX2_disturb_61 : decode cX2_disturb 61 = .ok (.getfield 37, 3) := by decide +kernel
theorem dX2_disturb_64 : decode cX2_disturb 64 = .ok (.iload 4, 2) := by decide +kernel
theorem dX2_disturb_66 : decode cX2_disturb 66 = .ok (.bipush 8, 2) := by decide +kernel
theorem dX2_disturb_68 : decode cX2_disturb 68 = .ok (.irem, 1) := by decide +kernel
theorem dX2_disturb_69 : decode cX2_disturb 69 = .ok (.iadd, 1) := by decide +kernel
theorem dX2_disturb_70 : decode cX2_disturb 70 = .ok (.invokestatic 88, 3) := by decide +kernel
theorem dX2_disturb_73 : decode cX2_disturb 73 = .ok (.invokevirtual 91, 3) := by decide +kernel
theorem dX2_disturb_76 : decode cX2_disturb 76 = .ok (.goto 23, 3) := by decide +kernel
theorem dX2_disturb_79 : decode cX2_disturb 79 = .ok (.aload_n 0, 1) := by decide +kernel
theorem dX2_disturb_80 : decode cX2_disturb 80 = .ok (.iload_n 3, 1) := by decide +kernel
theorem dX2_disturb_81 : decode cX2_disturb 81 = .ok (.invokevirtual 95, 3) := by decide +kernel
theorem dX2_disturb_84 : decode cX2_disturb 84 = .ok (.goto 15, 3) := by decide +kernel
theorem dX2_disturb_87 : decode cX2_disturb 87 = .ok (.aload_n 0, 1) := by decide +kernel
theorem dX2_disturb_88 : decode cX2_disturb 88 = .ok (.iload_n 3, 1) := by decide +kernel
theorem dX2_disturb_89 : decode cX2_disturb 89 = .ok (.iload 4, 2) := by decide +kernel
theorem dX2_disturb_91 : decode cX2_disturb 91 = .ok (.iload_n 2, 1) := by decide +kernel
theorem dX2_disturb_92 : decode cX2_disturb 92 = .ok (.irem, 1) := by decide +kernel
theorem dX2_disturb_93 : decode cX2_disturb 93 = .ok (.invokevirtual 98, 3) := by decide +kernel
theorem dX2_disturb_96 : decode cX2_disturb 96 = .ok (.goto 3, 3) := by decide +kernel
theorem dX2_disturb_99 : decode cX2_disturb 99 = .ok (.return_, 1) := by decide +kernel
theorem dX2_loadSoFar_0 : decode cX2_loadSoFar 0 = .ok (.iconst 0, 1) := by decide +kernel
theorem dX2_loadSoFar_1 : decode cX2_loadSoFar 1 = .ok (.istore_n 2, 1) := by decide +kernel
theorem dX2_loadSoFar_2 : decode cX2_loadSoFar 2 = .ok (.iconst 0, 1) := by decide +kernel
theorem dX2_loadSoFar_3 : decode cX2_loadSoFar 3 = .ok (.istore_n 3, 1) := by decide +kernel
theorem dX2_loadSoFar_4 : decode cX2_loadSoFar 4 = .ok (.iload_n 3, 1) := by decide +kernel
theorem dX2_loadSoFar_5 : decode cX2_loadSoFar 5 = .ok (.bipush 7, 2) := by decide +kernel
theorem dX2_loadSoFar_7 : decode cX2_loadSoFar 7 = .ok (.if_icmp .ge 53, 3) := by decide +kernel
theorem dX2_loadSoFar_10 : decode cX2_loadSoFar 10 = .ok (.iload_n 3, 1) := by decide +kernel
theorem dX2_loadSoFar_11 : decode cX2_loadSoFar 11 = .ok (.aload_n 0, 1) := by decide +kernel
theorem dX2_loadSoFar_12 : decode cX2_loadSoFar 12 = .ok (.getfield 40, 3) := by decide +kernel
theorem dX2_loadSoFar_15 : decode cX2_loadSoFar 15 = .ok (.getfield 62, 3) := by decide +kernel
theorem dX2_loadSoFar_18 : decode cX2_loadSoFar 18 = .ok (.if_icmp .ge 42, 3) := by decide +kernel
theorem dX2_loadSoFar_21 : decode cX2_loadSoFar 21 = .ok (.aload_n 0, 1) := by decide +kernel
theorem dX2_loadSoFar_22 : decode cX2_loadSoFar 22 = .ok (.getfield 40, 3) := by decide +kernel
theorem dX2_loadSoFar_25 : decode cX2_loadSoFar 25 = .ok (.iload_n 1, 1) := by decide +kernel
theorem dX2_loadSoFar_26 : decode cX2_loadSoFar 26 = .ok (.invokevirtual 48, 3) := by decide +kernel
theorem dX2_loadSoFar_29 : decode cX2_loadSoFar 29 = .ok (.ifCond .eq 31, 3) := by decide +kernel
theorem dX2_loadSoFar_32 : decode cX2_loadSoFar 32 = .ok (.aload_n 0, 1) := by decide +kernel
theorem dX2_loadSoFar_33 : decode cX2_loadSoFar 33 = .ok (.getfield 27, 3) := by decide +kernel
theorem dX2_loadSoFar_36 : decode cX2_loadSoFar 36 = .ok (.iload_n 1, 1) := by decide +kernel
theorem dX2_loadSoFar_37 : decode cX2_loadSoFar 37 = .ok (.iaload, 1) := by decide +kernel
theorem dX2_loadSoFar_38 : decode cX2_loadSoFar 38 = .ok (.iload_n 3, 1) := by decide +kernel
theorem dX2_loadSoFar_39 : decode cX2_loadSoFar 39 = .ok (.ishr, 1) := by decide +kernel
theorem dX2_loadSoFar_40 : decode cX2_loadSoFar 40 = .ok (.iconst 1, 1) := by decide +kernel
theorem dX2_loadSoFar_41 : decode cX2_loadSoFar 41 = .ok (.iand, 1) := by decide +kernel
theorem dX2_loadSoFar_42 : decode cX2_loadSoFar 42 = .ok (.iconst 1, 1) := by decide +kernel
theorem dX2_loadSoFar_43 : decode cX2_loadSoFar 43 = .ok (.if_icmp .ne 11, 3) := by decide +kernel
theorem dX2_loadSoFar_46 : decode cX2_loadSoFar 46 = .ok (.iload_n 2, 1) := by decide +kernel
theorem dX2_loadSoFar_47 : decode cX2_loadSoFar 47 = .ok (.aload_n 0, 1) := by decide +kernel
theorem dX2_loadSoFar_48 : decode cX2_loadSoFar 48 = .ok (.iload_n 3, 1) := by decide +kernel
theorem dX2_loadSoFar_49 : decode cX2_loadSoFar 49 = .ok (.invokevirtual 81, 3) := by decide +kernel
theorem dX2_loadSoFar_52 : decode cX2_loadSoFar 52 = .ok (.iadd, 1) := by decide +kernel
theorem dX2_loadSoFar_53 : decode cX2_loadSoFar 53 = .ok (.istore_n 2, 1) := by decide +kernel
theorem dX2_loadSoFar_54 : decode cX2_loadSoFar 54 = .ok (.iinc 3 1, 3) := by decide +kernel
theorem dX2_loadSoFar_57 : decode cX2_loadSoFar 57 = .ok (.goto (-53), 3) := by decide +kernel
theorem dX2_loadSoFar_60 : decode cX2_loadSoFar 60 = .ok (.iload_n 2, 1) := by decide +kernel
theorem dX2_loadSoFar_61 : decode cX2_loadSoFar 61 = .ok (.ireturn, 1) := by decide +kernel
theorem dX2_howMany_0 : decode cX2_howMany 0 = .ok (.iconst 0, 1) := by decide +kernel
theorem dX2_howMany_1 : decode cX2_howMany 1 = .ok (.istore_n 2, 1) := by decide +kernel
theorem dX2_howMany_2 : decode cX2_howMany 2 = .ok (.iconst 0, 1) := by decide +kernel
theorem dX2_howMany_3 : decode cX2_howMany 3 = .ok (.istore_n 3, 1) := by decide +kernel
theorem dX2_howMany_4 : decode cX2_howMany 4 = .ok (.iload_n 3, 1) := by decide +kernel
theorem dX2_howMany_5 : decode cX2_howMany 5 = .ok (.bipush 7, 2) := by decide +kernel
theorem dX2_howMany_7 : decode cX2_howMany 7 = .ok (.if_icmp .ge 33, 3) := by decide +kernel
theorem dX2_howMany_10 : decode cX2_howMany 10 = .ok (.iload_n 3, 1) := by decide +kernel
theorem dX2_howMany_11 : decode cX2_howMany 11 = .ok (.aload_n 0, 1) := by decide +kernel
theorem dX2_howMany_12 : decode cX2_howMany 12 = .ok (.getfield 40, 3) := by decide +kernel
theorem dX2_howMany_15 : decode cX2_howMany 15 = .ok (.getfield 62, 3) := by decide +kernel
theorem dX2_howMany_18 : decode cX2_howMany 18 = .ok (.if_icmp .ge 22, 3) := by decide +kernel
theorem dX2_howMany_21 : decode cX2_howMany 21 = .ok (.aload_n 0, 1) := by decide +kernel
theorem dX2_howMany_22 : decode cX2_howMany 22 = .ok (.getfield 9, 3) := by decide +kernel
theorem dX2_howMany_25 : decode cX2_howMany 25 = .ok (.iload_n 3, 1) := by decide +kernel
theorem dX2_howMany_26 : decode cX2_howMany 26 = .ok (.iaload, 1) := by decide +kernel
theorem dX2_howMany_27 : decode cX2_howMany 27 = .ok (.iload_n 1, 1) := by decide +kernel
theorem dX2_howMany_28 : decode cX2_howMany 28 = .ok (.if_icmp .ne 6, 3) := by decide +kernel
theorem dX2_howMany_31 : decode cX2_howMany 31 = .ok (.iinc 2 1, 3) := by decide +kernel
theorem dX2_howMany_34 : decode cX2_howMany 34 = .ok (.iinc 3 1, 3) := by decide +kernel
theorem dX2_howMany_37 : decode cX2_howMany 37 = .ok (.goto (-33), 3) := by decide +kernel
theorem dX2_howMany_40 : decode cX2_howMany 40 = .ok (.iload_n 2, 1) := by decide +kernel
theorem dX2_howMany_41 : decode cX2_howMany 41 = .ok (.ireturn, 1) := by decide +kernel
theorem dX2_allCoins_0 : decode cX2_allCoins 0 = .ok (.iconst 0, 1) := by decide +kernel
theorem dX2_allCoins_1 : decode cX2_allCoins 1 = .ok (.istore_n 1, 1) := by decide +kernel
theorem dX2_allCoins_2 : decode cX2_allCoins 2 = .ok (.iconst 0, 1) := by decide +kernel
theorem dX2_allCoins_3 : decode cX2_allCoins 3 = .ok (.istore_n 2, 1) := by decide +kernel
theorem dX2_allCoins_4 : decode cX2_allCoins 4 = .ok (.iload_n 2, 1) := by decide +kernel
theorem dX2_allCoins_5 : decode cX2_allCoins 5 = .ok (.bipush 7, 2) := by decide +kernel
theorem dX2_allCoins_7 : decode cX2_allCoins 7 = .ok (.if_icmp .ge 29, 3) := by decide +kernel
theorem dX2_allCoins_10 : decode cX2_allCoins 10 = .ok (.iload_n 2, 1) := by decide +kernel
theorem dX2_allCoins_11 : decode cX2_allCoins 11 = .ok (.aload_n 0, 1) := by decide +kernel
theorem dX2_allCoins_12 : decode cX2_allCoins 12 = .ok (.getfield 40, 3) := by decide +kernel
theorem dX2_allCoins_15 : decode cX2_allCoins 15 = .ok (.getfield 62, 3) := by decide +kernel
theorem dX2_allCoins_18 : decode cX2_allCoins 18 = .ok (.if_icmp .ge 18, 3) := by decide +kernel
theorem dX2_allCoins_21 : decode cX2_allCoins 21 = .ok (.iload_n 1, 1) := by decide +kernel
theorem dX2_allCoins_22 : decode cX2_allCoins 22 = .ok (.aload_n 0, 1) := by decide +kernel
theorem dX2_allCoins_23 : decode cX2_allCoins 23 = .ok (.getfield 30, 3) := by decide +kernel
theorem dX2_allCoins_26 : decode cX2_allCoins 26 = .ok (.iload_n 2, 1) := by decide +kernel
theorem dX2_allCoins_27 : decode cX2_allCoins 27 = .ok (.iaload, 1) := by decide +kernel
theorem dX2_allCoins_28 : decode cX2_allCoins 28 = .ok (.iadd, 1) := by decide +kernel
theorem dX2_allCoins_29 : decode cX2_allCoins 29 = .ok (.istore_n 1, 1) := by decide +kernel
theorem dX2_allCoins_30 : decode cX2_allCoins 30 = .ok (.iinc 2 1, 3) := by decide +kernel
theorem dX2_allCoins_33 : decode cX2_allCoins 33 = .ok (.goto (-29), 3) := by decide +kernel
theorem dX2_allCoins_36 : decode cX2_allCoins 36 = .ok (.iload_n 1, 1) := by decide +kernel
theorem dX2_allCoins_37 : decode cX2_allCoins 37 = .ok (.ireturn, 1) := by decide +kernel
theorem dX2_allWork_0 : decode cX2_allWork 0 = .ok (.iconst 0, 1) := by decide +kernel
theorem dX2_allWork_1 : decode cX2_allWork 1 = .ok (.istore_n 1, 1) := by decide +kernel
theorem dX2_allWork_2 : decode cX2_allWork 2 = .ok (.iconst 0, 1) := by decide +kernel
theorem dX2_allWork_3 : decode cX2_allWork 3 = .ok (.istore_n 2, 1) := by decide +kernel
theorem dX2_allWork_4 : decode cX2_allWork 4 = .ok (.iload_n 2, 1) := by decide +kernel
theorem dX2_allWork_5 : decode cX2_allWork 5 = .ok (.bipush 7, 2) := by decide +kernel
theorem dX2_allWork_7 : decode cX2_allWork 7 = .ok (.if_icmp .ge 29, 3) := by decide +kernel
theorem dX2_allWork_10 : decode cX2_allWork 10 = .ok (.iload_n 2, 1) := by decide +kernel
theorem dX2_allWork_11 : decode cX2_allWork 11 = .ok (.aload_n 0, 1) := by decide +kernel
theorem dX2_allWork_12 : decode cX2_allWork 12 = .ok (.getfield 40, 3) := by decide +kernel
theorem dX2_allWork_15 : decode cX2_allWork 15 = .ok (.getfield 62, 3) := by decide +kernel
theorem dX2_allWork_18 : decode cX2_allWork 18 = .ok (.if_icmp .ge 18, 3) := by decide +kernel
theorem dX2_allWork_21 : decode cX2_allWork 21 = .ok (.iload_n 1, 1) := by decide +kernel
theorem dX2_allWork_22 : decode cX2_allWork 22 = .ok (.aload_n 0, 1) := by decide +kernel
theorem dX2_allWork_23 : decode cX2_allWork 23 = .ok (.getfield 21, 3) := by decide +kernel
theorem dX2_allWork_26 : decode cX2_allWork 26 = .ok (.iload_n 2, 1) := by decide +kernel
theorem dX2_allWork_27 : decode cX2_allWork 27 = .ok (.iaload, 1) := by decide +kernel
theorem dX2_allWork_28 : decode cX2_allWork 28 = .ok (.iadd, 1) := by decide +kernel
theorem dX2_allWork_29 : decode cX2_allWork 29 = .ok (.istore_n 1, 1) := by decide +kernel
theorem dX2_allWork_30 : decode cX2_allWork 30 = .ok (.iinc 2 1, 3) := by decide +kernel
theorem dX2_allWork_33 : decode cX2_allWork 33 = .ok (.goto (-29), 3) := by decide +kernel
theorem dX2_allWork_36 : decode cX2_allWork 36 = .ok (.iload_n 1, 1) := by decide +kernel
theorem dX2_allWork_37 : decode cX2_allWork 37 = .ok (.ireturn, 1) := by decide +kernel
theorem dX3_init_0 : decode cX3_init 0 = .ok (.aload_n 0, 1) := by decide +kernel
theorem dX3_init_1 : decode cX3_init 1 = .ok (.invokespecial 3, 3) := by decide +kernel
theorem dX3_init_4 : decode cX3_init 4 = .ok (.aload_n 0, 1) := by decide +kernel
theorem dX3_init_5 : decode cX3_init 5 = .ok (.bipush 7, 2) := by decide +kernel
theorem dX3_init_7 : decode cX3_init 7 = .ok (.newarray .int, 2) := by decide +kernel
theorem dX3_init_9 : decode cX3_init 9 = .ok (.putfield 9, 3) := by decide +kernel
theorem dX3_init_12 : decode cX3_init 12 = .ok (.aload_n 0, 1) := by decide +kernel
theorem dX3_init_13 : decode cX3_init 13 = .ok (.bipush 7, 2) := by decide +kernel
theorem dX3_init_15 : decode cX3_init 15 = .ok (.newarray .int, 2) := by decide +kernel
theorem dX3_init_17 : decode cX3_init 17 = .ok (.putfield 15, 3) := by decide +kernel
theorem dX3_init_20 : decode cX3_init 20 = .ok (.aload_n 0, 1) := by decide +kernel
theorem dX3_init_21 : decode cX3_init 21 = .ok (.bipush 7, 2) := by decide +kernel
theorem dX3_init_23 : decode cX3_init 23 = .ok (.newarray .int, 2) := by decide +kernel
theorem dX3_init_25 : decode cX3_init 25 = .ok (.putfield 18, 3) := by decide +kernel
theorem dX3_init_28 : decode cX3_init 28 = .ok (.aload_n 0, 1) := by decide +kernel
theorem dX3_init_29 : decode cX3_init 29 = .ok (.bipush 7, 2) := by decide +kernel
theorem dX3_init_31 : decode cX3_init 31 = .ok (.newarray .int, 2) := by decide +kernel
theorem dX3_init_33 : decode cX3_init 33 = .ok (.putfield 21, 3) := by decide +kernel
theorem dX3_init_36 : decode cX3_init 36 = .ok (.aload_n 0, 1) := by decide +kernel
theorem dX3_init_37 : decode cX3_init 37 = .ok (.bipush 7, 2) := by decide +kernel
theorem dX3_init_39 : decode cX3_init 39 = .ok (.newarray .int, 2) := by decide +kernel
theorem dX3_init_41 : decode cX3_init 41 = .ok (.putfield 24, 3) := by decide +kernel
theorem dX3_init_44 : decode cX3_init 44 = .ok (.aload_n 0, 1) := by decide +kernel
theorem dX3_init_45 : decode cX3_init 45 = .ok (.iconst 0, 1) := by decide +kernel
theorem dX3_init_46 : decode cX3_init 46 = .ok (.putfield 27, 3) := by decide +kernel
theorem dX3_init_49 : decode cX3_init 49 = .ok (.aload_n 0, 1) := by decide +kernel
theorem dX3_init_50 : decode cX3_init 50 = .ok (.bipush (-4), 2) := by decide +kernel
theorem dX3_init_52 : decode cX3_init 52 = .ok (.putfield 31, 3) := by decide +kernel
theorem dX3_init_55 : decode cX3_init 55 = .ok (.aload_n 0, 1) := by decide +kernel
theorem dX3_init_56 : decode cX3_init 56 = .ok (.iconst 0, 1) := by decide +kernel
theorem dX3_init_57 : decode cX3_init 57 = .ok (.putfield 34, 3) := by decide +kernel
theorem dX3_init_60 : decode cX3_init 60 = .ok (.aload_n 0, 1) := by decide +kernel
theorem dX3_init_61 : decode cX3_init 61 = .ok (.aload_n 1, 1) := by decide +kernel
theorem dX3_init_62 : decode cX3_init 62 = .ok (.putfield 37, 3) := by decide +kernel
theorem dX3_init_65 : decode cX3_init 65 = .ok (.return_, 1) := by decide +kernel
theorem dX3_look_0 : decode cX3_look 0 = .ok (.aload_n 0, 1) := by decide +kernel
theorem dX3_look_1 : decode cX3_look 1 = .ok (.aload_n 1, 1) := by decide +kernel
theorem dX3_look_2 : decode cX3_look 2 = .ok (.invokevirtual 41, 3) := by decide +kernel
theorem dX3_look_5 : decode cX3_look 5 = .ok (.aload_n 0, 1) := by decide +kernel
theorem dX3_look_6 : decode cX3_look 6 = .ok (.aload_n 1, 1) := by decide +kernel
theorem dX3_look_7 : decode cX3_look 7 = .ok (.invokevirtual 45, 3) := by decide +kernel
theorem dX3_look_10 : decode cX3_look 10 = .ok (.return_, 1) := by decide +kernel
theorem dX3_lineUp_0 : decode cX3_lineUp 0 = .ok (.aload_n 0, 1) := by decide +kernel
theorem dX3_lineUp_1 : decode cX3_lineUp 1 = .ok (.iconst 0, 1) := by decide +kernel
theorem dX3_lineUp_2 : decode cX3_lineUp 2 = .ok (.putfield 27, 3) := by decide +kernel
theorem dX3_lineUp_5 : decode cX3_lineUp 5 = .ok (.iconst 0, 1) := by decide +kernel
theorem dX3_lineUp_6 : decode cX3_lineUp 6 = .ok (.istore_n 2, 1) := by decide +kernel
theorem dX3_lineUp_7 : decode cX3_lineUp 7 = .ok (.iload_n 2, 1) := by decide +kernel
theorem dX3_lineUp_8 : decode cX3_lineUp 8 = .ok (.bipush 7, 2) := by decide +kernel
theorem dX3_lineUp_10 : decode cX3_lineUp 10 = .ok (.if_icmp .ge 104, 3) := by decide +kernel
theorem dX3_lineUp_13 : decode cX3_lineUp 13 = .ok (.iload_n 2, 1) := by decide +kernel
theorem dX3_lineUp_14 : decode cX3_lineUp 14 = .ok (.aload_n 0, 1) := by decide +kernel
theorem dX3_lineUp_15 : decode cX3_lineUp 15 = .ok (.getfield 37, 3) := by decide +kernel
theorem dX3_lineUp_18 : decode cX3_lineUp 18 = .ok (.getfield 48, 3) := by decide +kernel
theorem dX3_lineUp_21 : decode cX3_lineUp 21 = .ok (.if_icmp .ge 93, 3) := by decide +kernel
theorem dX3_lineUp_24 : decode cX3_lineUp 24 = .ok (.aload_n 1, 1) := by decide +kernel
theorem dX3_lineUp_25 : decode cX3_lineUp 25 = .ok (.getfield 53, 3) := by decide +kernel
theorem dX3_lineUp_28 : decode cX3_lineUp 28 = .ok (.iload_n 2, 1) := by decide +kernel
theorem dX3_lineUp_29 : decode cX3_lineUp 29 = .ok (.iaload, 1) := by decide +kernel
theorem dX3_lineUp_30 : decode cX3_lineUp 30 = .ok (.ifCond .ne 78, 3) := by decide +kernel
theorem dX3_lineUp_33 : decode cX3_lineUp 33 = .ok (.aload_n 0, 1) := by decide +kernel
theorem dX3_lineUp_34 : decode cX3_lineUp 34 = .ok (.getfield 27, 3) := by decide +kernel
theorem dX3_lineUp_37 : decode cX3_lineUp 37 = .ok (.bipush 7, 2) := by decide +kernel
theorem dX3_lineUp_39 : decode cX3_lineUp 39 = .ok (.if_icmp .ge 69, 3) := by decide +kernel
theorem dX3_lineUp_42 : decode cX3_lineUp 42 = .ok (.aload_n 0, 1) := by decide +kernel
theorem dX3_lineUp_43 : decode cX3_lineUp 43 = .ok (.getfield 27, 3) := by decide +kernel
theorem dX3_lineUp_46 : decode cX3_lineUp 46 = .ok (.istore_n 3, 1) := by decide +kernel
theorem dX3_lineUp_47 : decode cX3_lineUp 47 = .ok (.iload_n 3, 1) := by decide +kernel
theorem dX3_lineUp_48 : decode cX3_lineUp 48 = .ok (.ifCond .le 43, 3) := by decide +kernel
theorem dX3_lineUp_51 : decode cX3_lineUp 51 = .ok (.aload_n 1, 1) := by decide +kernel
theorem dX3_lineUp_52 : decode cX3_lineUp 52 = .ok (.aload_n 0, 1) := by decide +kernel
theorem dX3_lineUp_53 : decode cX3_lineUp 53 = .ok (.getfield 9, 3) := by decide +kernel
theorem dX3_lineUp_56 : decode cX3_lineUp 56 = .ok (.iload_n 3, 1) := by decide +kernel
theorem dX3_lineUp_57 : decode cX3_lineUp 57 = .ok (.iconst 1, 1) := by decide +kernel
theorem dX3_lineUp_58 : decode cX3_lineUp 58 = .ok (.isub, 1) := by decide +kernel
theorem dX3_lineUp_59 : decode cX3_lineUp 59 = .ok (.iaload, 1) := by decide +kernel
theorem dX3_lineUp_60 : decode cX3_lineUp 60 = .ok (.invokevirtual 58, 3) := by decide +kernel
theorem dX3_lineUp_63 : decode cX3_lineUp 63 = .ok (.aload_n 1, 1) := by decide +kernel
theorem dX3_lineUp_64 : decode cX3_lineUp 64 = .ok (.iload_n 2, 1) := by decide +kernel
theorem dX3_lineUp_65 : decode cX3_lineUp 65 = .ok (.invokevirtual 58, 3) := by decide +kernel
theorem dX3_lineUp_68 : decode cX3_lineUp 68 = .ok (.if_icmp .le 23, 3) := by decide +kernel
theorem dX3_lineUp_71 : decode cX3_lineUp 71 = .ok (.aload_n 0, 1) := by decide +kernel
theorem dX3_lineUp_72 : decode cX3_lineUp 72 = .ok (.getfield 9, 3) := by decide +kernel
theorem dX3_lineUp_75 : decode cX3_lineUp 75 = .ok (.iload_n 3, 1) := by decide +kernel
theorem dX3_lineUp_76 : decode cX3_lineUp 76 = .ok (.aload_n 0, 1) := by decide +kernel
theorem dX3_lineUp_77 : decode cX3_lineUp 77 = .ok (.getfield 9, 3) := by decide +kernel
theorem dX3_lineUp_80 : decode cX3_lineUp 80 = .ok (.iload_n 3, 1) := by decide +kernel
theorem dX3_lineUp_81 : decode cX3_lineUp 81 = .ok (.iconst 1, 1) := by decide +kernel
theorem dX3_lineUp_82 : decode cX3_lineUp 82 = .ok (.isub, 1) := by decide +kernel
theorem dX3_lineUp_83 : decode cX3_lineUp 83 = .ok (.iaload, 1) := by decide +kernel
theorem dX3_lineUp_84 : decode cX3_lineUp 84 = .ok (.iastore, 1) := by decide +kernel
theorem dX3_lineUp_85 : decode cX3_lineUp 85 = .ok (.iinc 3 (-1), 3) := by decide +kernel
theorem dX3_lineUp_88 : decode cX3_lineUp 88 = .ok (.goto (-41), 3) := by decide +kernel
theorem dX3_lineUp_91 : decode cX3_lineUp 91 = .ok (.aload_n 0, 1) := by decide +kernel
theorem dX3_lineUp_92 : decode cX3_lineUp 92 = .ok (.getfield 9, 3) := by decide +kernel
theorem dX3_lineUp_95 : decode cX3_lineUp 95 = .ok (.iload_n 3, 1) := by decide +kernel
theorem dX3_lineUp_96 : decode cX3_lineUp 96 = .ok (.iload_n 2, 1) := by decide +kernel
theorem dX3_lineUp_97 : decode cX3_lineUp 97 = .ok (.iastore, 1) := by decide +kernel
theorem dX3_lineUp_98 : decode cX3_lineUp 98 = .ok (.aload_n 0, 1) := by decide +kernel
theorem dX3_lineUp_99 : decode cX3_lineUp 99 = .ok (.dup, 1) := by decide +kernel
theorem dX3_lineUp_100 : decode cX3_lineUp 100 = .ok (.getfield 27, 3) := by decide +kernel
theorem dX3_lineUp_103 : decode cX3_lineUp 103 = .ok (.iconst 1, 1) := by decide +kernel
theorem dX3_lineUp_104 : decode cX3_lineUp 104 = .ok (.iadd, 1) := by decide +kernel
theorem dX3_lineUp_105 : decode cX3_lineUp 105 = .ok (.putfield 27, 3) := by decide +kernel
theorem dX3_lineUp_108 : decode cX3_lineUp 108 = .ok (.iinc 2 1, 3) := by decide +kernel
theorem dX3_lineUp_111 : decode cX3_lineUp 111 = .ok (.goto (-104), 3) := by decide +kernel
theorem dX3_lineUp_114 : decode cX3_lineUp 114 = .ok (.return_, 1) := by decide +kernel
theorem dX3_reckon_0 : decode cX3_reckon 0 = .ok (.aload_n 0, 1) := by decide +kernel
theorem dX3_reckon_1 : decode cX3_reckon 1 = .ok (.aload_n 1, 1) := by decide +kernel
theorem dX3_reckon_2 : decode cX3_reckon 2 = .ok (.invokevirtual 62, 3) := by decide +kernel
theorem dX3_reckon_5 : decode cX3_reckon 5 = .ok (.iconst 0, 1) := by decide +kernel
theorem dX3_reckon_6 : decode cX3_reckon 6 = .ok (.istore_n 2, 1) := by decide +kernel
theorem dX3_reckon_7 : decode cX3_reckon 7 = .ok (.iload_n 2, 1) := by decide +kernel
theorem dX3_reckon_8 : decode cX3_reckon 8 = .ok (.bipush 7, 2) := by decide +kernel
theorem dX3_reckon_10 : decode cX3_reckon 10 = .ok (.if_icmp .ge 41, 3) := by decide +kernel
theorem dX3_reckon_13 : decode cX3_reckon 13 = .ok (.iload_n 2, 1) := by decide +kernel
theorem dX3_reckon_14 : decode cX3_reckon 14 = .ok (.aload_n 0, 1) := by decide +kernel
theorem dX3_reckon_15 : decode cX3_reckon 15 = .ok (.getfield 27, 3) := by decide +kernel
theorem dX3_reckon_18 : decode cX3_reckon 18 = .ok (.if_icmp .ge 33, 3) := by decide +kernel
theorem dX3_reckon_21 : decode cX3_reckon 21 = .ok (.aload_n 0, 1) := by decide +kernel
theorem dX3_reckon_22 : decode cX3_reckon 22 = .ok (.getfield 9, 3) := by decide +kernel
theorem dX3_reckon_25 : decode cX3_reckon 25 = .ok (.iload_n 2, 1) := by decide +kernel
theorem dX3_reckon_26 : decode cX3_reckon 26 = .ok (.iaload, 1) := by decide +kernel
theorem dX3_reckon_27 : decode cX3_reckon 27 = .ok (.istore_n 3, 1) := by decide +kernel
theorem dX3_reckon_28 : decode cX3_reckon 28 = .ok (.aload_n 0, 1) := by decide +kernel
theorem dX3_reckon_29 : decode cX3_reckon 29 = .ok (.getfield 37, 3) := by decide +kernel
theorem dX3_reckon_32 : decode cX3_reckon 32 = .ok (.iload_n 3, 1) := by decide +kernel
theorem dX3_reckon_33 : decode cX3_reckon 33 = .ok (.invokevirtual 65, 3) := by decide +kernel
theorem dX3_reckon_36 : decode cX3_reckon 36 = .ok (.ifCond .eq 9, 3) := by decide +kernel
theorem dX3_reckon_39 : decode cX3_reckon 39 = .ok (.aload_n 0, 1) := by decide +kernel
theorem dX3_reckon_40 : decode cX3_reckon 40 = .ok (.iload_n 3, 1) := by decide +kernel
theorem dX3_reckon_41 : decode cX3_reckon 41 = .ok (.aload_n 1, 1) := by decide +kernel
theorem dX3_reckon_42 : decode cX3_reckon 42 = .ok (.invokevirtual 69, 3) := by decide +kernel
theorem dX3_reckon_45 : decode cX3_reckon 45 = .ok (.iinc 2 1, 3) := by decide +kernel
theorem dX3_reckon_48 : decode cX3_reckon 48 = .ok (.goto (-41), 3) := by decide +kernel
theorem dX3_reckon_51 : decode cX3_reckon 51 = .ok (.return_, 1) := by decide +kernel
theorem dX3_begin_0 : decode cX3_begin 0 = .ok (.aload_n 0, 1) := by decide +kernel
theorem dX3_begin_1 : decode cX3_begin 1 = .ok (.aload_n 1, 1) := by decide +kernel
theorem dX3_begin_2 : decode cX3_begin 2 = .ok (.getfield 73, 3) := by decide +kernel
theorem dX3_begin_5 : decode cX3_begin 5 = .ok (.putfield 31, 3) := by decide +kernel
theorem dX3_begin_8 : decode cX3_begin 8 = .ok (.aload_n 0, 1) := by decide +kernel
theorem dX3_begin_9 : decode cX3_begin 9 = .ok (.iconst 0, 1) := by decide +kernel
theorem dX3_begin_10 : decode cX3_begin 10 = .ok (.putfield 34, 3) := by decide +kernel
theorem dX3_begin_13 : decode cX3_begin 13 = .ok (.iconst 0, 1) := by decide +kernel
theorem dX3_begin_14 : decode cX3_begin 14 = .ok (.istore_n 2, 1) := by decide +kernel
theorem dX3_begin_15 : decode cX3_begin 15 = .ok (.iload_n 2, 1) := by decide +kernel
theorem dX3_begin_16 : decode cX3_begin 16 = .ok (.bipush 7, 2) := by decide +kernel
theorem dX3_begin_18 : decode cX3_begin 18 = .ok (.if_icmp .ge 101, 3) := by decide +kernel
theorem dX3_begin_21 : decode cX3_begin 21 = .ok (.iload_n 2, 1) := by decide +kernel
theorem dX3_begin_22 : decode cX3_begin 22 = .ok (.aload_n 0, 1) := by decide +kernel
theorem dX3_begin_23 : decode cX3_begin 23 = .ok (.getfield 37, 3) := by decide +kernel
theorem dX3_begin_26 : decode cX3_begin 26 = .ok (.getfield 48, 3) := by decide +kernel
theorem dX3_begin_29 : decode cX3_begin 29 = .ok (.if_icmp .ge 90, 3) := by decide +kernel
theorem dX3_begin_32 : decode cX3_begin 32 = .ok (.aload_n 0, 1) := by decide +kernel
theorem dX3_begin_33 : decode cX3_begin 33 = .ok (.getfield 24, 3) := by decide +kernel
theorem dX3_begin_36 : decode cX3_begin 36 = .ok (.iload_n 2, 1) := by decide +kernel
theorem dX3_begin_37 : decode cX3_begin 37 = .ok (.iconst 0, 1) := by decide +kernel
theorem dX3_begin_38 : decode cX3_begin 38 = .ok (.iastore, 1) := by decide +kernel
theorem dX3_begin_39 : decode cX3_begin 39 = .ok (.aload_n 0, 1) := by decide +kernel
theorem dX3_begin_40 : decode cX3_begin 40 = .ok (.getfield 15, 3) := by decide +kernel
theorem dX3_begin_43 : decode cX3_begin 43 = .ok (.iload_n 2, 1) := by decide +kernel
theorem dX3_begin_44 : decode cX3_begin 44 = .ok (.aload_n 1, 1) := by decide +kernel
theorem dX3_begin_45 : decode cX3_begin 45 = .ok (.getfield 74, 3) := by decide +kernel
theorem dX3_begin_48 : decode cX3_begin 48 = .ok (.iload_n 2, 1) := by decide +kernel
theorem dX3_begin_49 : decode cX3_begin 49 = .ok (.iaload, 1) := by decide +kernel
theorem dX3_begin_50 : decode cX3_begin 50 = .ok (.iastore, 1) := by decide +kernel
theorem dX3_begin_51 : decode cX3_begin 51 = .ok (.aload_n 0, 1) := by decide +kernel
theorem dX3_begin_52 : decode cX3_begin 52 = .ok (.getfield 18, 3) := by decide +kernel
theorem dX3_begin_55 : decode cX3_begin 55 = .ok (.iload_n 2, 1) := by decide +kernel
theorem dX3_begin_56 : decode cX3_begin 56 = .ok (.aload_n 1, 1) := by decide +kernel
theorem dX3_begin_57 : decode cX3_begin 57 = .ok (.getfield 75, 3) := by decide +kernel
theorem dX3_begin_60 : decode cX3_begin 60 = .ok (.iastore, 1) := by decide +kernel
theorem dX3_begin_61 : decode cX3_begin 61 = .ok (.aload_n 0, 1) := by decide +kernel
theorem dX3_begin_62 : decode cX3_begin 62 = .ok (.getfield 21, 3) := by decide +kernel
theorem dX3_begin_65 : decode cX3_begin 65 = .ok (.iload_n 2, 1) := by decide +kernel
theorem dX3_begin_66 : decode cX3_begin 66 = .ok (.ldc 78, 2) := by decide +kernel
theorem dX3_begin_68 : decode cX3_begin 68 = .ok (.iastore, 1) := by decide +kernel
theorem dX3_begin_69 : decode cX3_begin 69 = .ok (.aload_n 1, 1) := by decide +kernel
theorem dX3_begin_70 : decode cX3_begin 70 = .ok (.getfield 53, 3) := by decide +kernel
theorem dX3_begin_73 : decode cX3_begin 73 = .ok (.iload_n 2, 1) := by decide +kernel
theorem dX3_begin_74 : decode cX3_begin 74 = .ok (.iaload, 1) := by decide +kernel
theorem dX3_begin_75 : decode cX3_begin 75 = .ok (.iconst 2, 1) := by decide +kernel
theorem dX3_begin_76 : decode cX3_begin 76 = .ok (.if_icmp .ne 13, 3) := by decide +kernel
theorem dX3_begin_79 : decode cX3_begin 79 = .ok (.aload_n 0, 1) := by decide +kernel
theorem dX3_begin_80 : decode cX3_begin 80 = .ok (.getfield 21, 3) := by decide +kernel
theorem dX3_begin_83 : decode cX3_begin 83 = .ok (.iload_n 2, 1) := by decide +kernel
theorem dX3_begin_84 : decode cX3_begin 84 = .ok (.iconst 0, 1) := by decide +kernel
theorem dX3_begin_85 : decode cX3_begin 85 = .ok (.iastore, 1) := by decide +kernel
theorem dX3_begin_86 : decode cX3_begin 86 = .ok (.goto 27, 3) := by decide +kernel
theorem dX3_begin_89 : decode cX3_begin 89 = .ok (.aload_n 1, 1) := by decide +kernel
theorem dX3_begin_90 : decode cX3_begin 90 = .ok (.getfield 53, 3) := by decide +kernel
theorem dX3_begin_93 : decode cX3_begin 93 = .ok (.iload_n 2, 1) := by decide +kernel
theorem dX3_begin_94 : decode cX3_begin 94 = .ok (.iaload, 1) := by decide +kernel
theorem dX3_begin_95 : decode cX3_begin 95 = .ok (.iconst 1, 1) := by decide +kernel
theorem dX3_begin_96 : decode cX3_begin 96 = .ok (.if_icmp .ne 17, 3) := by decide +kernel
theorem dX3_begin_99 : decode cX3_begin 99 = .ok (.iload_n 2, 1) := by decide +kernel
theorem dX3_begin_100 : decode cX3_begin 100 = .ok (.aload_n 0, 1) := by decide +kernel
theorem dX3_begin_101 : decode cX3_begin 101 = .ok (.getfield 31, 3) := by decide +kernel
theorem dX3_begin_104 : decode cX3_begin 104 = .ok (.if_icmp .eq 9, 3) := by decide +kernel
theorem dX3_begin_107 : decode cX3_begin 107 = .ok (.aload_n 0, 1) := by decide +kernel
theorem dX3_begin_108 : decode cX3_begin 108 = .ok (.iload_n 2, 1) := by decide +kernel
theorem dX3_begin_109 : decode cX3_begin 109 = .ok (.iconst 0, 1) := by decide +kernel
theorem dX3_begin_110 : decode cX3_begin 110 = .ok (.invokevirtual 79, 3) := by decide +kernel
theorem dX3_begin_113 : decode cX3_begin 113 = .ok (.iinc 2 1, 3) := by decide +kernel
theorem dX3_begin_116 : decode cX3_begin 116 = .ok (.goto (-101), 3) := by decide +kernel
theorem dX3_begin_119 : decode cX3_begin 119 = .ok (.return_, 1) := by decide +kernel
theorem dX3_meets_0 : decode cX3_meets 0 = .ok (.aload_n 2, 1) := by decide +kernel
theorem dX3_meets_1 : decode cX3_meets 1 = .ok (.getfield 83, 3) := by decide +kernel
theorem dX3_meets_4 : decode cX3_meets 4 = .ok (.iload_n 1, 1) := by decide +kernel
theorem dX3_meets_5 : decode cX3_meets 5 = .ok (.iaload, 1) := by decide +kernel
theorem dX3_meets_6 : decode cX3_meets 6 = .ok (.istore_n 3, 1) := by decide +kernel
theorem dX3_meets_7 : decode cX3_meets 7 = .ok (.iload_n 3, 1) := by decide +kernel
theorem dX3_meets_8 : decode cX3_meets 8 = .ok (.aload_n 2, 1) := by decide +kernel
theorem dX3_meets_9 : decode cX3_meets 9 = .ok (.getfield 75, 3) := by decide +kernel
theorem dX3_meets_12 : decode cX3_meets 12 = .ok (.isub, 1) := by decide +kernel
theorem dX3_meets_13 : decode cX3_meets 13 = .ok (.istore 4, 2) := by decide +kernel
theorem dX3_meets_15 : decode cX3_meets 15 = .ok (.aload_n 0, 1) := by decide +kernel
theorem dX3_meets_16 : decode cX3_meets 16 = .ok (.aload_n 0, 1) := by decide +kernel
theorem dX3_meets_17 : decode cX3_meets 17 = .ok (.getfield 34, 3) := by decide +kernel
theorem dX3_meets_20 : decode cX3_meets 20 = .ok (.iload 4, 2) := by decide +kernel
theorem dX3_meets_22 : decode cX3_meets 22 = .ok (.iconst 1, 1) := by decide +kernel
theorem dX3_meets_23 : decode cX3_meets 23 = .ok (.iadd, 1) := by decide +kernel
theorem dX3_meets_24 : decode cX3_meets 24 = .ok (.invokestatic 86, 3) := by decide +kernel
theorem dX3_meets_27 : decode cX3_meets 27 = .ok (.putfield 34, 3) := by decide +kernel
theorem dX3_meets_30 : decode cX3_meets 30 = .ok (.aload_n 0, 1) := by decide +kernel
theorem dX3_meets_31 : decode cX3_meets 31 = .ok (.getfield 37, 3) := by decide +kernel
theorem dX3_meets_34 : decode cX3_meets 34 = .ok (.aload_n 0, 1) := by decide +kernel
theorem dX3_meets_35 : decode cX3_meets 35 = .ok (.getfield 31, 3) := by decide +kernel
theorem dX3_meets_38 : decode cX3_meets 38 = .ok (.invokevirtual 65, 3) := by decide +kernel
theorem dX3_meets_41 : decode cX3_meets 41 = .ok (.ifCond .eq 88, 3) := by decide +kernel
theorem dX3_meets_44 : decode cX3_meets 44 = .ok (.aload_n 2, 1) := by decide +kernel
theorem dX3_meets_45 : decode cX3_meets 45 = .ok (.iload_n 1, 1) := by decide +kernel
theorem dX3_meets_46 : decode cX3_meets 46 = .ok (.invokevirtual 92, 3) := by decide +kernel
theorem dX3_meets_49 : decode cX3_meets 49 = .ok (.istore 5, 2) := by decide +kernel
theorem dX3_meets_51 : decode cX3_meets 51 = .ok (.aload_n 0, 1) := by decide +kernel
theorem dX3_meets_52 : decode cX3_meets 52 = .ok (.getfield 15, 3) := by decide +kernel
theorem dX3_meets_55 : decode cX3_meets 55 = .ok (.aload_n 0, 1) := by decide +kernel
theorem dX3_meets_56 : decode cX3_meets 56 = .ok (.getfield 31, 3) := by decide +kernel
theorem dX3_meets_59 : decode cX3_meets 59 = .ok (.iaload, 1) := by decide +kernel
theorem dX3_meets_60 : decode cX3_meets 60 = .ok (.aload_n 0, 1) := by decide +kernel
theorem dX3_meets_61 : decode cX3_meets 61 = .ok (.getfield 37, 3) := by decide +kernel
theorem dX3_meets_64 : decode cX3_meets 64 = .ok (.getfield 95, 3) := by decide +kernel
theorem dX3_meets_67 : decode cX3_meets 67 = .ok (.aload_n 0, 1) := by decide +kernel
theorem dX3_meets_68 : decode cX3_meets 68 = .ok (.getfield 31, 3) := by decide +kernel
theorem dX3_meets_71 : decode cX3_meets 71 = .ok (.iaload, 1) := by decide +kernel
theorem dX3_meets_72 : decode cX3_meets 72 = .ok (.iload_n 3, 1) := by decide +kernel
theorem dX3_meets_73 : decode cX3_meets 73 = .ok (.aload_n 0, 1) := by decide +kernel
theorem dX3_meets_74 : decode cX3_meets 74 = .ok (.getfield 18, 3) := by decide +kernel
theorem dX3_meets_77 : decode cX3_meets 77 = .ok (.aload_n 0, 1) := by decide +kernel
theorem dX3_meets_78 : decode cX3_meets 78 = .ok (.getfield 31, 3) := by decide +kernel
theorem dX3_meets_81 : decode cX3_meets 81 = .ok (.iaload, 1) := by decide +kernel
theorem dX3_meets_82 : decode cX3_meets 82 = .ok (.isub, 1) := by decide +kernel
theorem dX3_meets_83 : decode cX3_meets 83 = .ok (.imul, 1) := by decide +kernel
theorem dX3_meets_84 : decode cX3_meets 84 = .ok (.isub, 1) := by decide +kernel
theorem dX3_meets_85 : decode cX3_meets 85 = .ok (.istore 6, 2) := by decide +kernel
theorem dX3_meets_87 : decode cX3_meets 87 = .ok (.aload_n 0, 1) := by decide +kernel
theorem dX3_meets_88 : decode cX3_meets 88 = .ok (.getfield 15, 3) := by decide +kernel
theorem dX3_meets_91 : decode cX3_meets 91 = .ok (.aload_n 0, 1) := by decide +kernel
theorem dX3_meets_92 : decode cX3_meets 92 = .ok (.getfield 31, 3) := by decide +kernel
theorem dX3_meets_95 : decode cX3_meets 95 = .ok (.iconst 0, 1) := by decide +kernel
theorem dX3_meets_96 : decode cX3_meets 96 = .ok (.iload 6, 2) := by decide +kernel
theorem dX3_meets_98 : decode cX3_meets 98 = .ok (.invokestatic 86, 3) := by decide +kernel
theorem dX3_meets_101 : decode cX3_meets 101 = .ok (.iload 5, 2) := by decide +kernel
theorem dX3_meets_103 : decode cX3_meets 103 = .ok (.iadd, 1) := by decide +kernel
theorem dX3_meets_104 : decode cX3_meets 104 = .ok (.iastore, 1) := by decide +kernel
theorem dX3_meets_105 : decode cX3_meets 105 = .ok (.aload_n 0, 1) := by decide +kernel
theorem dX3_meets_106 : decode cX3_meets 106 = .ok (.getfield 18, 3) := by decide +kernel
theorem dX3_meets_109 : decode cX3_meets 109 = .ok (.aload_n 0, 1) := by decide +kernel
theorem dX3_meets_110 : decode cX3_meets 110 = .ok (.getfield 31, 3) := by decide +kernel
theorem dX3_meets_113 : decode cX3_meets 113 = .ok (.iload_n 3, 1) := by decide +kernel
theorem dX3_meets_114 : decode cX3_meets 114 = .ok (.iastore, 1) := by decide +kernel
theorem dX3_meets_115 : decode cX3_meets 115 = .ok (.aload_n 0, 1) := by decide +kernel
theorem dX3_meets_116 : decode cX3_meets 116 = .ok (.getfield 24, 3) := by decide +kernel
theorem dX3_meets_119 : decode cX3_meets 119 = .ok (.aload_n 0, 1) := by decide +kernel
theorem dX3_meets_120 : decode cX3_meets 120 = .ok (.getfield 31, 3) := by decide +kernel
theorem dX3_meets_123 : decode cX3_meets 123 = .ok (.dup2, 1) := by decide +kernel
theorem dX3_meets_124 : decode cX3_meets 124 = .ok (.iaload, 1) := by decide +kernel
theorem dX3_meets_125 : decode cX3_meets 125 = .ok (.iload 5, 2) := by decide +kernel
theorem dX3_meets_127 : decode cX3_meets 127 = .ok (.iadd, 1) := by decide +kernel
theorem dX3_meets_128 : decode cX3_meets 128 = .ok (.iastore, 1) := by decide +kernel
theorem dX3_meets_129 : decode cX3_meets 129 = .ok (.aload_n 0, 1) := by decide +kernel
theorem dX3_meets_130 : decode cX3_meets 130 = .ok (.getfield 37, 3) := by decide +kernel
theorem dX3_meets_133 : decode cX3_meets 133 = .ok (.getfield 98, 3) := by decide +kernel
theorem dX3_meets_136 : decode cX3_meets 136 = .ok (.iload_n 1, 1) := by decide +kernel
theorem dX3_meets_137 : decode cX3_meets 137 = .ok (.iaload, 1) := by decide +kernel
theorem dX3_meets_138 : decode cX3_meets 138 = .ok (.iconst 2, 1) := by decide +kernel
theorem dX3_meets_139 : decode cX3_meets 139 = .ok (.if_icmp .ne 14, 3) := by decide +kernel
theorem dX3_meets_142 : decode cX3_meets 142 = .ok (.aload_n 0, 1) := by decide +kernel
theorem dX3_meets_143 : decode cX3_meets 143 = .ok (.getfield 21, 3) := by decide +kernel
theorem dX3_meets_146 : decode cX3_meets 146 = .ok (.iload_n 1, 1) := by decide +kernel
theorem dX3_meets_147 : decode cX3_meets 147 = .ok (.iload 4, 2) := by decide +kernel
theorem dX3_meets_149 : decode cX3_meets 149 = .ok (.iconst 1, 1) := by decide +kernel
theorem dX3_meets_150 : decode cX3_meets 150 = .ok (.iadd, 1) := by decide +kernel
theorem dX3_meets_151 : decode cX3_meets 151 = .ok (.iastore, 1) := by decide +kernel
theorem dX3_meets_152 : decode cX3_meets 152 = .ok (.return_, 1) := by decide +kernel
theorem dX3_meets_153 : decode cX3_meets 153 = .ok (.aload_n 0, 1) := by decide +kernel
theorem dX3_meets_154 : decode cX3_meets 154 = .ok (.getfield 37, 3) := by decide +kernel
theorem dX3_meets_157 : decode cX3_meets 157 = .ok (.aload_n 0, 1) := by decide +kernel
theorem dX3_meets_158 : decode cX3_meets 158 = .ok (.getfield 31, 3) := by decide +kernel
theorem dX3_meets_161 : decode cX3_meets 161 = .ok (.invokevirtual 65, 3) := by decide +kernel
theorem dX3_meets_164 : decode cX3_meets 164 = .ok (.ifCond .eq 13, 3) := by decide +kernel
theorem dX3_meets_167 : decode cX3_meets 167 = .ok (.aload_n 0, 1) := by decide +kernel
theorem dX3_meets_168 : decode cX3_meets 168 = .ok (.aload_n 0, 1) := by decide +kernel
theorem dX3_meets_169 : decode cX3_meets 169 = .ok (.getfield 31, 3) := by decide +kernel
theorem dX3_meets_172 : decode cX3_meets 172 = .ok (.iload 4, 2) := by decide +kernel
theorem dX3_meets_174 : decode cX3_meets 174 = .ok (.invokevirtual 79, 3) := by decide +kernel
theorem dX3_meets_177 : decode cX3_meets 177 = .ok (.aload_n 0, 1) := by decide +kernel
theorem dX3_meets_178 : decode cX3_meets 178 = .ok (.iload_n 1, 1) := by decide +kernel
theorem dX3_meets_179 : decode cX3_meets 179 = .ok (.putfield 31, 3) := by decide +kernel
theorem dX3_meets_182 : decode cX3_meets 182 = .ok (.return_, 1) := by decide +kernel
theorem dX3_leaves_0 : decode cX3_leaves 0 = .ok (.aload_n 0, 1) := by decide +kernel
theorem dX3_leaves_1 : decode cX3_leaves 1 = .ok (.getfield 37, 3) := by decide +kernel
theorem dX3_leaves_4 : decode cX3_leaves 4 = .ok (.getfield 95, 3) := by decide +kernel
theorem dX3_leaves_7 : decode cX3_leaves 7 = .ok (.iload_n 1, 1) := by decide +kernel
theorem dX3_leaves_8 : decode cX3_leaves 8 = .ok (.iaload, 1) := by decide +kernel
theorem dX3_leaves_9 : decode cX3_leaves 9 = .ok (.istore_n 3, 1) := by decide +kernel
theorem dX3_leaves_10 : decode cX3_leaves 10 = .ok (.iload_n 3, 1) := by decide +kernel
theorem dX3_leaves_11 : decode cX3_leaves 11 = .ok (.ifCond .le 44, 3) := by decide +kernel
theorem dX3_leaves_14 : decode cX3_leaves 14 = .ok (.aload_n 0, 1) := by decide +kernel
theorem dX3_leaves_15 : decode cX3_leaves 15 = .ok (.getfield 21, 3) := by decide +kernel
theorem dX3_leaves_18 : decode cX3_leaves 18 = .ok (.iload_n 1, 1) := by decide +kernel
theorem dX3_leaves_19 : decode cX3_leaves 19 = .ok (.iload_n 2, 1) := by decide +kernel
theorem dX3_leaves_20 : decode cX3_leaves 20 = .ok (.iconst 1, 1) := by decide +kernel
theorem dX3_leaves_21 : decode cX3_leaves 21 = .ok (.aload_n 0, 1) := by decide +kernel
theorem dX3_leaves_22 : decode cX3_leaves 22 = .ok (.getfield 15, 3) := by decide +kernel
theorem dX3_leaves_25 : decode cX3_leaves 25 = .ok (.iload_n 1, 1) := by decide +kernel
theorem dX3_leaves_26 : decode cX3_leaves 26 = .ok (.iaload, 1) := by decide +kernel
theorem dX3_leaves_27 : decode cX3_leaves 27 = .ok (.iload_n 3, 1) := by decide +kernel
theorem dX3_leaves_28 : decode cX3_leaves 28 = .ok (.iadd, 1) := by decide +kernel
theorem dX3_leaves_29 : decode cX3_leaves 29 = .ok (.iconst 1, 1) := by decide +kernel
theorem dX3_leaves_30 : decode cX3_leaves 30 = .ok (.isub, 1) := by decide +kernel
theorem dX3_leaves_31 : decode cX3_leaves 31 = .ok (.iload_n 3, 1) := by decide +kernel
theorem dX3_leaves_32 : decode cX3_leaves 32 = .ok (.idiv, 1) := by decide +kernel
theorem dX3_leaves_33 : decode cX3_leaves 33 = .ok (.invokestatic 86, 3) := by decide +kernel
theorem dX3_leaves_36 : decode cX3_leaves 36 = .ok (.iadd, 1) := by decide +kernel
theorem dX3_leaves_37 : decode cX3_leaves 37 = .ok (.iastore, 1) := by decide +kernel
theorem dX3_leaves_38 : decode cX3_leaves 38 = .ok (.aload_n 0, 1) := by decide +kernel
theorem dX3_leaves_39 : decode cX3_leaves 39 = .ok (.aload_n 0, 1) := by decide +kernel
theorem dX3_leaves_40 : decode cX3_leaves 40 = .ok (.getfield 34, 3) := by decide +kernel
theorem dX3_leaves_43 : decode cX3_leaves 43 = .ok (.aload_n 0, 1) := by decide +kernel
theorem dX3_leaves_44 : decode cX3_leaves 44 = .ok (.getfield 21, 3) := by decide +kernel
theorem dX3_leaves_47 : decode cX3_leaves 47 = .ok (.iload_n 1, 1) := by decide +kernel
theorem dX3_leaves_48 : decode cX3_leaves 48 = .ok (.iaload, 1) := by decide +kernel
theorem dX3_leaves_49 : decode cX3_leaves 49 = .ok (.invokestatic 86, 3) := by decide +kernel
theorem dX3_leaves_52 : decode cX3_leaves 52 = .ok (.putfield 34, 3) := by decide +kernel
theorem dX3_leaves_55 : decode cX3_leaves 55 = .ok (.return_, 1) := by decide +kernel
theorem dX4_init_0 : decode cX4_init 0 = .ok (.aload_n 0, 1) := by decide +kernel
theorem dX4_init_1 : decode cX4_init 1 = .ok (.invokespecial 3, 3) := by decide +kernel
theorem dX4_init_4 : decode cX4_init 4 = .ok (.aload_n 0, 1) := by decide +kernel
theorem dX4_init_5 : decode cX4_init 5 = .ok (.bipush 7, 2) := by decide +kernel
theorem dX4_init_7 : decode cX4_init 7 = .ok (.newarray .int, 2) := by decide +kernel
theorem dX4_init_9 : decode cX4_init 9 = .ok (.putfield 9, 3) := by decide +kernel
theorem dX4_init_12 : decode cX4_init 12 = .ok (.aload_n 0, 1) := by decide +kernel
theorem dX4_init_13 : decode cX4_init 13 = .ok (.bipush 7, 2) := by decide +kernel
theorem dX4_init_15 : decode cX4_init 15 = .ok (.newarray .int, 2) := by decide +kernel
theorem dX4_init_17 : decode cX4_init 17 = .ok (.putfield 15, 3) := by decide +kernel
theorem dX4_init_20 : decode cX4_init 20 = .ok (.aload_n 0, 1) := by decide +kernel
theorem dX4_init_21 : decode cX4_init 21 = .ok (.bipush 7, 2) := by decide +kernel
theorem dX4_init_23 : decode cX4_init 23 = .ok (.newarray .int, 2) := by decide +kernel
theorem dX4_init_25 : decode cX4_init 25 = .ok (.putfield 18, 3) := by decide +kernel
theorem dX4_init_28 : decode cX4_init 28 = .ok (.aload_n 0, 1) := by decide +kernel
theorem dX4_init_29 : decode cX4_init 29 = .ok (.bipush 7, 2) := by decide +kernel
theorem dX4_init_31 : decode cX4_init 31 = .ok (.newarray .int, 2) := by decide +kernel
theorem dX4_init_33 : decode cX4_init 33 = .ok (.putfield 21, 3) := by decide +kernel
theorem dX4_init_36 : decode cX4_init 36 = .ok (.aload_n 0, 1) := by decide +kernel
theorem dX4_init_37 : decode cX4_init 37 = .ok (.bipush 7, 2) := by decide +kernel
theorem dX4_init_39 : decode cX4_init 39 = .ok (.newarray .int, 2) := by decide +kernel
theorem dX4_init_41 : decode cX4_init 41 = .ok (.putfield 24, 3) := by decide +kernel
theorem dX4_init_44 : decode cX4_init 44 = .ok (.aload_n 0, 1) := by decide +kernel
theorem dX4_init_45 : decode cX4_init 45 = .ok (.bipush 7, 2) := by decide +kernel
theorem dX4_init_47 : decode cX4_init 47 = .ok (.newarray .int, 2) := by decide +kernel
theorem dX4_init_49 : decode cX4_init 49 = .ok (.putfield 27, 3) := by decide +kernel
theorem dX4_init_52 : decode cX4_init 52 = .ok (.aload_n 0, 1) := by decide +kernel
theorem dX4_init_53 : decode cX4_init 53 = .ok (.iconst 0, 1) := by decide +kernel
theorem dX4_init_54 : decode cX4_init 54 = .ok (.putfield 30, 3) := by decide +kernel
theorem dX4_init_57 : decode cX4_init 57 = .ok (.aload_n 0, 1) := by decide +kernel
theorem dX4_init_58 : decode cX4_init 58 = .ok (.iconst 0, 1) := by decide +kernel
theorem dX4_init_59 : decode cX4_init 59 = .ok (.putfield 34, 3) := by decide +kernel
theorem dX4_init_62 : decode cX4_init 62 = .ok (.return_, 1) := by decide +kernel
theorem dX4_has_0 : decode cX4_has 0 = .ok (.iload_n 1, 1) := by decide +kernel
theorem dX4_has_1 : decode cX4_has 1 = .ok (.ifCond .lt 21, 3) := by decide +kernel
theorem dX4_has_4 : decode cX4_has 4 = .ok (.iload_n 1, 1) := by decide +kernel
theorem dX4_has_5 : decode cX4_has 5 = .ok (.aload_n 0, 1) := by decide +kernel
theorem dX4_has_6 : decode cX4_has 6 = .ok (.getfield 30, 3) := by decide +kernel
theorem dX4_has_9 : decode cX4_has 9 = .ok (.if_icmp .ge 13, 3) := by decide +kernel
theorem dX4_has_12 : decode cX4_has 12 = .ok (.iload_n 1, 1) := by decide +kernel
theorem dX4_has_13 : decode cX4_has 13 = .ok (.bipush 7, 2) := by decide +kernel
theorem dX4_has_15 : decode cX4_has 15 = .ok (.if_icmp .ge 7, 3) := by decide +kernel
theorem dX4_has_18 : decode cX4_has 18 = .ok (.iconst 1, 1) := by decide +kernel
theorem dX4_has_19 : decode cX4_has 19 = .ok (.goto 4, 3) := by decide +kernel
theorem dX4_has_22 : decode cX4_has 22 = .ok (.iconst 0, 1) := by decide +kernel
theorem dX4_has_23 : decode cX4_has 23 = .ok (.ireturn, 1) := by decide +kernel
theorem dX4_clear_0 : decode cX4_clear 0 = .ok (.aload_n 0, 1) := by decide +kernel
theorem dX4_clear_1 : decode cX4_clear 1 = .ok (.iconst 0, 1) := by decide +kernel
theorem dX4_clear_2 : decode cX4_clear 2 = .ok (.putfield 30, 3) := by decide +kernel
theorem dX4_clear_5 : decode cX4_clear 5 = .ok (.aload_n 0, 1) := by decide +kernel
theorem dX4_clear_6 : decode cX4_clear 6 = .ok (.iconst 0, 1) := by decide +kernel
theorem dX4_clear_7 : decode cX4_clear 7 = .ok (.putfield 34, 3) := by decide +kernel
theorem dX4_clear_10 : decode cX4_clear 10 = .ok (.iconst 0, 1) := by decide +kernel
theorem dX4_clear_11 : decode cX4_clear 11 = .ok (.istore_n 1, 1) := by decide +kernel
theorem dX4_clear_12 : decode cX4_clear 12 = .ok (.iload_n 1, 1) := by decide +kernel
theorem dX4_clear_13 : decode cX4_clear 13 = .ok (.bipush 7, 2) := by decide +kernel
theorem dX4_clear_15 : decode cX4_clear 15 = .ok (.if_icmp .ge 16, 3) := by decide +kernel
theorem dX4_clear_18 : decode cX4_clear 18 = .ok (.aload_n 0, 1) := by decide +kernel
theorem dX4_clear_19 : decode cX4_clear 19 = .ok (.getfield 27, 3) := by decide +kernel
theorem dX4_clear_22 : decode cX4_clear 22 = .ok (.iload_n 1, 1) := by decide +kernel
theorem dX4_clear_23 : decode cX4_clear 23 = .ok (.iconst 0, 1) := by decide +kernel
theorem dX4_clear_24 : decode cX4_clear 24 = .ok (.iastore, 1) := by decide +kernel
theorem dX4_clear_25 : decode cX4_clear 25 = .ok (.iinc 1 1, 3) := by decide +kernel
theorem dX4_clear_28 : decode cX4_clear 28 = .ok (.goto (-16), 3) := by decide +kernel
theorem dX4_clear_31 : decode cX4_clear 31 = .ok (.return_, 1) := by decide +kernel
theorem dX4_addGuest_0 : decode cX4_addGuest 0 = .ok (.aload_n 0, 1) := by decide +kernel
theorem dX4_addGuest_1 : decode cX4_addGuest 1 = .ok (.getfield 30, 3) := by decide +kernel
theorem dX4_addGuest_4 : decode cX4_addGuest 4 = .ok (.ifCond .lt 18, 3) := by decide +kernel
theorem dX4_addGuest_7 : decode cX4_addGuest 7 = .ok (.aload_n 0, 1) := by decide +kernel
theorem dX4_addGuest_8 : decode cX4_addGuest 8 = .ok (.getfield 30, 3) := by decide +kernel
theorem dX4_addGuest_11 : decode cX4_addGuest 11 = .ok (.bipush 7, 2) := by decide +kernel
theorem dX4_addGuest_13 : decode cX4_addGuest 13 = .ok (.if_icmp .ge 9, 3) := by decide +kernel
theorem dX4_addGuest_16 : decode cX4_addGuest 16 = .ok (.aload_n 1, 1) := by decide +kernel
theorem dX4_addGuest_17 : decode cX4_addGuest 17 = .ok (.arraylength, 1) := by decide +kernel
theorem dX4_addGuest_18 : decode cX4_addGuest 18 = .ok (.iconst 5, 1) := by decide +kernel
theorem dX4_addGuest_19 : decode cX4_addGuest 19 = .ok (.if_icmp .ge 5, 3) := by decide +kernel
theorem dX4_addGuest_22 : decode cX4_addGuest 22 = .ok (.iconst 0, 1) := by decide +kernel
theorem dX4_addGuest_23 : decode cX4_addGuest 23 = .ok (.ireturn, 1) := by decide +kernel
theorem dX4_addGuest_24 : decode cX4_addGuest 24 = .ok (.aload_n 0, 1) := by decide +kernel
theorem dX4_addGuest_25 : decode cX4_addGuest 25 = .ok (.getfield 9, 3) := by decide +kernel
theorem dX4_addGuest_28 : decode cX4_addGuest 28 = .ok (.aload_n 0, 1) := by decide +kernel
theorem dX4_addGuest_29 : decode cX4_addGuest 29 = .ok (.getfield 30, 3) := by decide +kernel
theorem dX4_addGuest_32 : decode cX4_addGuest 32 = .ok (.aload_n 1, 1) := by decide +kernel
theorem dX4_addGuest_33 : decode cX4_addGuest 33 = .ok (.iconst 0, 1) := by decide +kernel
theorem dX4_addGuest_34 : decode cX4_addGuest 34 = .ok (.iaload, 1) := by decide +kernel
theorem dX4_addGuest_35 : decode cX4_addGuest 35 = .ok (.iastore, 1) := by decide +kernel
theorem dX4_addGuest_36 : decode cX4_addGuest 36 = .ok (.aload_n 0, 1) := by decide +kernel
theorem dX4_addGuest_37 : decode cX4_addGuest 37 = .ok (.getfield 15, 3) := by decide +kernel
theorem dX4_addGuest_40 : decode cX4_addGuest 40 = .ok (.aload_n 0, 1) := by decide +kernel
theorem dX4_addGuest_41 : decode cX4_addGuest 41 = .ok (.getfield 30, 3) := by decide +kernel
theorem dX4_addGuest_44 : decode cX4_addGuest 44 = .ok (.aload_n 1, 1) := by decide +kernel
theorem dX4_addGuest_45 : decode cX4_addGuest 45 = .ok (.iconst 1, 1) := by decide +kernel
theorem dX4_addGuest_46 : decode cX4_addGuest 46 = .ok (.iaload, 1) := by decide +kernel
theorem dX4_addGuest_47 : decode cX4_addGuest 47 = .ok (.iastore, 1) := by decide +kernel
theorem dX4_addGuest_48 : decode cX4_addGuest 48 = .ok (.aload_n 0, 1) := by decide +kernel
theorem dX4_addGuest_49 : decode cX4_addGuest 49 = .ok (.getfield 18, 3) := by decide +kernel
theorem dX4_addGuest_52 : decode cX4_addGuest 52 = .ok (.aload_n 0, 1) := by decide +kernel
theorem dX4_addGuest_53 : decode cX4_addGuest 53 = .ok (.getfield 30, 3) := by decide +kernel
theorem dX4_addGuest_56 : decode cX4_addGuest 56 = .ok (.aload_n 1, 1) := by decide +kernel
theorem dX4_addGuest_57 : decode cX4_addGuest 57 = .ok (.iconst 2, 1) := by decide +kernel
theorem dX4_addGuest_58 : decode cX4_addGuest 58 = .ok (.iaload, 1) := by decide +kernel
theorem dX4_addGuest_59 : decode cX4_addGuest 59 = .ok (.iastore, 1) := by decide +kernel
theorem dX4_addGuest_60 : decode cX4_addGuest 60 = .ok (.aload_n 0, 1) := by decide +kernel
theorem dX4_addGuest_61 : decode cX4_addGuest 61 = .ok (.getfield 21, 3) := by decide +kernel
theorem dX4_addGuest_64 : decode cX4_addGuest 64 = .ok (.aload_n 0, 1) := by decide +kernel
theorem dX4_addGuest_65 : decode cX4_addGuest 65 = .ok (.getfield 30, 3) := by decide +kernel
theorem dX4_addGuest_68 : decode cX4_addGuest 68 = .ok (.aload_n 1, 1) := by decide +kernel
theorem dX4_addGuest_69 : decode cX4_addGuest 69 = .ok (.iconst 3, 1) := by decide +kernel
theorem dX4_addGuest_70 : decode cX4_addGuest 70 = .ok (.iaload, 1) := by decide +kernel
theorem dX4_addGuest_71 : decode cX4_addGuest 71 = .ok (.iastore, 1) := by decide +kernel
theorem dX4_addGuest_72 : decode cX4_addGuest 72 = .ok (.aload_n 0, 1) := by decide +kernel
theorem dX4_addGuest_73 : decode cX4_addGuest 73 = .ok (.getfield 24, 3) := by decide +kernel
theorem dX4_addGuest_76 : decode cX4_addGuest 76 = .ok (.aload_n 0, 1) := by decide +kernel
theorem dX4_addGuest_77 : decode cX4_addGuest 77 = .ok (.getfield 30, 3) := by decide +kernel
theorem dX4_addGuest_80 : decode cX4_addGuest 80 = .ok (.aload_n 1, 1) := by decide +kernel
theorem dX4_addGuest_81 : decode cX4_addGuest 81 = .ok (.iconst 4, 1) := by decide +kernel
theorem dX4_addGuest_82 : decode cX4_addGuest 82 = .ok (.iaload, 1) := by decide +kernel
theorem dX4_addGuest_83 : decode cX4_addGuest 83 = .ok (.iastore, 1) := by decide +kernel
theorem dX4_addGuest_84 : decode cX4_addGuest 84 = .ok (.aload_n 0, 1) := by decide +kernel
theorem dX4_addGuest_85 : decode cX4_addGuest 85 = .ok (.dup, 1) := by decide +kernel
theorem dX4_addGuest_86 : decode cX4_addGuest 86 = .ok (.getfield 30, 3) := by decide +kernel
theorem dX4_addGuest_89 : decode cX4_addGuest 89 = .ok (.iconst 1, 1) := by decide +kernel
theorem dX4_addGuest_90 : decode cX4_addGuest 90 = .ok (.iadd, 1) := by decide +kernel
theorem dX4_addGuest_91 : decode cX4_addGuest 91 = .ok (.putfield 30, 3) := by decide +kernel
theorem dX4_addGuest_94 : decode cX4_addGuest 94 = .ok (.iconst 1, 1) := by decide +kernel
theorem dX4_addGuest_95 : decode cX4_addGuest 95 = .ok (.ireturn, 1) := by decide +kernel
theorem dX4_addRoom_0 : decode cX4_addRoom 0 = .ok (.aload_n 0, 1) := by decide +kernel
theorem dX4_addRoom_1 : decode cX4_addRoom 1 = .ok (.getfield 34, 3) := by decide +kernel
theorem dX4_addRoom_4 : decode cX4_addRoom 4 = .ok (.ifCond .lt 12, 3) := by decide +kernel
