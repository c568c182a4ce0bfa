theorem dX9_off_2 : decode cX9_off 2 = .ok (.lconst 0, 1) := by decide +kernel
theorem dX9_off_3 : decode cX9_off 3 = .ok (.lconst 1, 1) := by decide +kernel
theorem dX9_off_4 : decode cX9_off 4 = .ok (.invokestatic 73, 3) := by decide +kernel
theorem dX9_off_7 : decode cX9_off 7 = .ok (.ifCond .ne 5, 3) := by decide +kernel
theorem dX9_off_10 : decode cX9_off 10 = .ok (.iconst (-1), 1) := by decide +kernel
theorem dX9_off_11 : decode cX9_off 11 = .ok (.ireturn, 1) := by decide +kernel
theorem dX9_off_12 : decode cX9_off 12 = .ok (.bipush (-4), 2) := by decide +kernel
theorem dX9_off_14 : decode cX9_off 14 = .ok (.istore_n 2, 1) := by decide +kernel
theorem dX9_off_15 : decode cX9_off 15 = .ok (.ldc 187, 2) := by decide +kernel
theorem dX9_off_17 : decode cX9_off 17 = .ok (.istore_n 3, 1) := by decide +kernel
theorem dX9_off_18 : decode cX9_off 18 = .ok (.iconst 0, 1) := by decide +kernel
theorem dX9_off_19 : decode cX9_off 19 = .ok (.istore 4, 2) := by decide +kernel
theorem dX9_off_21 : decode cX9_off 21 = .ok (.iload 4, 2) := by decide +kernel
theorem dX9_off_23 : decode cX9_off 23 = .ok (.aload_n 0, 1) := by decide +kernel
theorem dX9_off_24 : decode cX9_off 24 = .ok (.getfield 69, 3) := by decide +kernel
theorem dX9_off_27 : decode cX9_off 27 = .ok (.if_icmp .ge 68, 3) := by decide +kernel
theorem dX9_off_30 : decode cX9_off 30 = .ok (.aload_n 0, 1) := by decide +kernel
theorem dX9_off_31 : decode cX9_off 31 = .ok (.getfield 7, 3) := by decide +kernel
theorem dX9_off_34 : decode cX9_off 34 = .ok (.iconst 2, 1) := by decide +kernel
theorem dX9_off_35 : decode cX9_off 35 = .ok (.iload 4, 2) := by decide +kernel
theorem dX9_off_37 : decode cX9_off 37 = .ok (.iadd, 1) := by decide +kernel
theorem dX9_off_38 : decode cX9_off 38 = .ok (.iaload, 1) := by decide +kernel
theorem dX9_off_39 : decode cX9_off 39 = .ok (.ifCond .ne 50, 3) := by decide +kernel
theorem dX9_off_42 : decode cX9_off 42 = .ok (.aload_n 0, 1) := by decide +kernel
theorem dX9_off_43 : decode cX9_off 43 = .ok (.invokevirtual 181, 3) := by decide +kernel
theorem dX9_off_46 : decode cX9_off 46 = .ok (.aload_n 0, 1) := by decide +kernel
theorem dX9_off_47 : decode cX9_off 47 = .ok (.getfield 7, 3) := by decide +kernel
theorem dX9_off_50 : decode cX9_off 50 = .ok (.bipush 53, 2) := by decide +kernel
theorem dX9_off_52 : decode cX9_off 52 = .ok (.iload 4, 2) := by decide +kernel
theorem dX9_off_54 : decode cX9_off 54 = .ok (.iadd, 1) := by decide +kernel
theorem dX9_off_55 : decode cX9_off 55 = .ok (.iconst 3, 1) := by decide +kernel
theorem dX9_off_56 : decode cX9_off 56 = .ok (.iastore, 1) := by decide +kernel
theorem dX9_off_57 : decode cX9_off 57 = .ok (.aload_n 0, 1) := by decide +kernel
theorem dX9_off_58 : decode cX9_off 58 = .ok (.invokevirtual 191, 3) := by decide +kernel
theorem dX9_off_61 : decode cX9_off 61 = .ok (.istore 5, 2) := by decide +kernel
theorem dX9_off_63 : decode cX9_off 63 = .ok (.iload 5, 2) := by decide +kernel
theorem dX9_off_65 : decode cX9_off 65 = .ok (.iload_n 3, 1) := by decide +kernel
theorem dX9_off_66 : decode cX9_off 66 = .ok (.if_icmp .ge 8, 3) := by decide +kernel
theorem dX9_off_69 : decode cX9_off 69 = .ok (.iload 4, 2) := by decide +kernel
theorem dX9_off_71 : decode cX9_off 71 = .ok (.goto 4, 3) := by decide +kernel
theorem dX9_off_74 : decode cX9_off 74 = .ok (.iload_n 2, 1) := by decide +kernel
theorem dX9_off_75 : decode cX9_off 75 = .ok (.istore_n 2, 1) := by decide +kernel
theorem dX9_off_76 : decode cX9_off 76 = .ok (.iload 5, 2) := by decide +kernel
theorem dX9_off_78 : decode cX9_off 78 = .ok (.iload_n 3, 1) := by decide +kernel
theorem dX9_off_79 : decode cX9_off 79 = .ok (.if_icmp .ge 8, 3) := by decide +kernel
theorem dX9_off_82 : decode cX9_off 82 = .ok (.iload 5, 2) := by decide +kernel
theorem dX9_off_84 : decode cX9_off 84 = .ok (.goto 4, 3) := by decide +kernel
theorem dX9_off_87 : decode cX9_off 87 = .ok (.iload_n 3, 1) := by decide +kernel
theorem dX9_off_88 : decode cX9_off 88 = .ok (.istore_n 3, 1) := by decide +kernel
theorem dX9_off_89 : decode cX9_off 89 = .ok (.iinc 4 1, 3) := by decide +kernel
theorem dX9_off_92 : decode cX9_off 92 = .ok (.goto (-71), 3) := by decide +kernel
theorem dX9_off_95 : decode cX9_off 95 = .ok (.iload_n 2, 1) := by decide +kernel
theorem dX9_off_96 : decode cX9_off 96 = .ok (.bipush (-4), 2) := by decide +kernel
theorem dX9_off_98 : decode cX9_off 98 = .ok (.if_icmp .ne 8, 3) := by decide +kernel
theorem dX9_off_101 : decode cX9_off 101 = .ok (.bipush (-4), 2) := by decide +kernel
theorem dX9_off_103 : decode cX9_off 103 = .ok (.goto 12, 3) := by decide +kernel
theorem dX9_off_106 : decode cX9_off 106 = .ok (.iload_n 1, 1) := by decide +kernel
theorem dX9_off_107 : decode cX9_off 107 = .ok (.ifCond .ne 7, 3) := by decide +kernel
theorem dX9_off_110 : decode cX9_off 110 = .ok (.iload_n 2, 1) := by decide +kernel
theorem dX9_off_111 : decode cX9_off 111 = .ok (.goto 4, 3) := by decide +kernel
theorem dX9_off_114 : decode cX9_off 114 = .ok (.iload_n 3, 1) := by decide +kernel
theorem dX9_off_115 : decode cX9_off 115 = .ok (.ireturn, 1) := by decide +kernel
theorem dX9_see_0 : decode cX9_see 0 = .ok (.aload_n 0, 1) := by decide +kernel
theorem dX9_see_1 : decode cX9_see 1 = .ok (.iload_n 1, 1) := by decide +kernel
theorem dX9_see_2 : decode cX9_see 2 = .ok (.invokevirtual 131, 3) := by decide +kernel
theorem dX9_see_5 : decode cX9_see 5 = .ok (.ifCond .eq 15, 3) := by decide +kernel
theorem dX9_see_8 : decode cX9_see 8 = .ok (.iload_n 2, 1) := by decide +kernel
theorem dX9_see_9 : decode cX9_see 9 = .ok (.i2l, 1) := by decide +kernel
theorem dX9_see_10 : decode cX9_see 10 = .ok (.lconst 0, 1) := by decide +kernel
theorem dX9_see_11 : decode cX9_see 11 = .ok (.ldc2_w 197, 3) := by decide +kernel
theorem dX9_see_14 : decode cX9_see 14 = .ok (.invokestatic 73, 3) := by decide +kernel
theorem dX9_see_17 : decode cX9_see 17 = .ok (.ifCond .ne 5, 3) := by decide +kernel
theorem dX9_see_20 : decode cX9_see 20 = .ok (.iconst (-1), 1) := by decide +kernel
theorem dX9_see_21 : decode cX9_see 21 = .ok (.ireturn, 1) := by decide +kernel
theorem dX9_see_22 : decode cX9_see 22 = .ok (.aload_n 0, 1) := by decide +kernel
theorem dX9_see_23 : decode cX9_see 23 = .ok (.getfield 89, 3) := by decide +kernel
theorem dX9_see_26 : decode cX9_see 26 = .ok (.bipush 7, 2) := by decide +kernel
theorem dX9_see_28 : decode cX9_see 28 = .ok (.if_icmp .ne 6, 3) := by decide +kernel
theorem dX9_see_31 : decode cX9_see 31 = .ok (.bipush (-3), 2) := by decide +kernel
theorem dX9_see_33 : decode cX9_see 33 = .ok (.ireturn, 1) := by decide +kernel
theorem dX9_see_34 : decode cX9_see 34 = .ok (.aload_n 0, 1) := by decide +kernel
theorem dX9_see_35 : decode cX9_see 35 = .ok (.getfield 25, 3) := by decide +kernel
theorem dX9_see_38 : decode cX9_see 38 = .ok (.aload_n 0, 1) := by decide +kernel
theorem dX9_see_39 : decode cX9_see 39 = .ok (.getfield 89, 3) := by decide +kernel
theorem dX9_see_42 : decode cX9_see 42 = .ok (.iload_n 1, 1) := by decide +kernel
theorem dX9_see_43 : decode cX9_see 43 = .ok (.iastore, 1) := by decide +kernel
theorem dX9_see_44 : decode cX9_see 44 = .ok (.aload_n 0, 1) := by decide +kernel
theorem dX9_see_45 : decode cX9_see 45 = .ok (.getfield 28, 3) := by decide +kernel
theorem dX9_see_48 : decode cX9_see 48 = .ok (.aload_n 0, 1) := by decide +kernel
theorem dX9_see_49 : decode cX9_see 49 = .ok (.getfield 89, 3) := by decide +kernel
theorem dX9_see_52 : decode cX9_see 52 = .ok (.iload_n 2, 1) := by decide +kernel
theorem dX9_see_53 : decode cX9_see 53 = .ok (.iastore, 1) := by decide +kernel
theorem dX9_see_54 : decode cX9_see 54 = .ok (.aload_n 0, 1) := by decide +kernel
theorem dX9_see_55 : decode cX9_see 55 = .ok (.dup, 1) := by decide +kernel
theorem dX9_see_56 : decode cX9_see 56 = .ok (.getfield 89, 3) := by decide +kernel
theorem dX9_see_59 : decode cX9_see 59 = .ok (.iconst 1, 1) := by decide +kernel
theorem dX9_see_60 : decode cX9_see 60 = .ok (.iadd, 1) := by decide +kernel
theorem dX9_see_61 : decode cX9_see 61 = .ok (.putfield 89, 3) := by decide +kernel
theorem dX9_see_64 : decode cX9_see 64 = .ok (.aload_n 0, 1) := by decide +kernel
theorem dX9_see_65 : decode cX9_see 65 = .ok (.getfield 89, 3) := by decide +kernel
theorem dX9_see_68 : decode cX9_see 68 = .ok (.ireturn, 1) := by decide +kernel
theorem dX9_forget_0 : decode cX9_forget 0 = .ok (.aload_n 0, 1) := by decide +kernel
theorem dX9_forget_1 : decode cX9_forget 1 = .ok (.getfield 89, 3) := by decide +kernel
theorem dX9_forget_4 : decode cX9_forget 4 = .ok (.istore_n 1, 1) := by decide +kernel
theorem dX9_forget_5 : decode cX9_forget 5 = .ok (.aload_n 0, 1) := by decide +kernel
theorem dX9_forget_6 : decode cX9_forget 6 = .ok (.iconst 0, 1) := by decide +kernel
theorem dX9_forget_7 : decode cX9_forget 7 = .ok (.putfield 89, 3) := by decide +kernel
theorem dX9_forget_10 : decode cX9_forget 10 = .ok (.iload_n 1, 1) := by decide +kernel
theorem dX9_forget_11 : decode cX9_forget 11 = .ok (.ireturn, 1) := by decide +kernel
theorem dX9_areSo_0 : decode cX9_areSo 0 = .ok (.aload_n 0, 1) := by decide +kernel
theorem dX9_areSo_1 : decode cX9_areSo 1 = .ok (.invokevirtual 181, 3) := by decide +kernel
theorem dX9_areSo_4 : decode cX9_areSo 4 = .ok (.aload_n 0, 1) := by decide +kernel
theorem dX9_areSo_5 : decode cX9_areSo 5 = .ok (.getfield 7, 3) := by decide +kernel
theorem dX9_areSo_8 : decode cX9_areSo 8 = .ok (.bipush 52, 2) := by decide +kernel
theorem dX9_areSo_10 : decode cX9_areSo 10 = .ok (.bipush (-4), 2) := by decide +kernel
theorem dX9_areSo_12 : decode cX9_areSo 12 = .ok (.iastore, 1) := by decide +kernel
theorem dX9_areSo_13 : decode cX9_areSo 13 = .ok (.iconst 0, 1) := by decide +kernel
theorem dX9_areSo_14 : decode cX9_areSo 14 = .ok (.istore_n 1, 1) := by decide +kernel
theorem dX9_areSo_15 : decode cX9_areSo 15 = .ok (.iload_n 1, 1) := by decide +kernel
theorem dX9_areSo_16 : decode cX9_areSo 16 = .ok (.aload_n 0, 1) := by decide +kernel
theorem dX9_areSo_17 : decode cX9_areSo 17 = .ok (.getfield 69, 3) := by decide +kernel
theorem dX9_areSo_20 : decode cX9_areSo 20 = .ok (.if_icmp .ge 60, 3) := by decide +kernel
theorem dX9_areSo_23 : decode cX9_areSo 23 = .ok (.aload_n 0, 1) := by decide +kernel
theorem dX9_areSo_24 : decode cX9_areSo 24 = .ok (.getfield 7, 3) := by decide +kernel
theorem dX9_areSo_27 : decode cX9_areSo 27 = .ok (.bipush 53, 2) := by decide +kernel
theorem dX9_areSo_29 : decode cX9_areSo 29 = .ok (.iload_n 1, 1) := by decide +kernel
theorem dX9_areSo_30 : decode cX9_areSo 30 = .ok (.iadd, 1) := by decide +kernel
theorem dX9_areSo_31 : decode cX9_areSo 31 = .ok (.iconst 0, 1) := by decide +kernel
theorem dX9_areSo_32 : decode cX9_areSo 32 = .ok (.iastore, 1) := by decide +kernel
theorem dX9_areSo_33 : decode cX9_areSo 33 = .ok (.aload_n 0, 1) := by decide +kernel
theorem dX9_areSo_34 : decode cX9_areSo 34 = .ok (.getfield 7, 3) := by decide +kernel
theorem dX9_areSo_37 : decode cX9_areSo 37 = .ok (.bipush 74, 2) := by decide +kernel
theorem dX9_areSo_39 : decode cX9_areSo 39 = .ok (.iload_n 1, 1) := by decide +kernel
theorem dX9_areSo_40 : decode cX9_areSo 40 = .ok (.iadd, 1) := by decide +kernel
theorem dX9_areSo_41 : decode cX9_areSo 41 = .ok (.iconst 0, 1) := by decide +kernel
theorem dX9_areSo_42 : decode cX9_areSo 42 = .ok (.iastore, 1) := by decide +kernel
theorem dX9_areSo_43 : decode cX9_areSo 43 = .ok (.aload_n 0, 1) := by decide +kernel
theorem dX9_areSo_44 : decode cX9_areSo 44 = .ok (.getfield 7, 3) := by decide +kernel
theorem dX9_areSo_47 : decode cX9_areSo 47 = .ok (.bipush 81, 2) := by decide +kernel
theorem dX9_areSo_49 : decode cX9_areSo 49 = .ok (.iload_n 1, 1) := by decide +kernel
theorem dX9_areSo_50 : decode cX9_areSo 50 = .ok (.iadd, 1) := by decide +kernel
theorem dX9_areSo_51 : decode cX9_areSo 51 = .ok (.bipush (-4), 2) := by decide +kernel
theorem dX9_areSo_53 : decode cX9_areSo 53 = .ok (.iastore, 1) := by decide +kernel
theorem dX9_areSo_54 : decode cX9_areSo 54 = .ok (.aload_n 0, 1) := by decide +kernel
theorem dX9_areSo_55 : decode cX9_areSo 55 = .ok (.getfield 7, 3) := by decide +kernel
theorem dX9_areSo_58 : decode cX9_areSo 58 = .ok (.bipush 88, 2) := by decide +kernel
theorem dX9_areSo_60 : decode cX9_areSo 60 = .ok (.iload_n 1, 1) := by decide +kernel
theorem dX9_areSo_61 : decode cX9_areSo 61 = .ok (.iadd, 1) := by decide +kernel
theorem dX9_areSo_62 : decode cX9_areSo 62 = .ok (.iconst 0, 1) := by decide +kernel
theorem dX9_areSo_63 : decode cX9_areSo 63 = .ok (.iastore, 1) := by decide +kernel
theorem dX9_areSo_64 : decode cX9_areSo 64 = .ok (.aload_n 0, 1) := by decide +kernel
theorem dX9_areSo_65 : decode cX9_areSo 65 = .ok (.getfield 7, 3) := by decide +kernel
theorem dX9_areSo_68 : decode cX9_areSo 68 = .ok (.bipush 95, 2) := by decide +kernel
theorem dX9_areSo_70 : decode cX9_areSo 70 = .ok (.iload_n 1, 1) := by decide +kernel
theorem dX9_areSo_71 : decode cX9_areSo 71 = .ok (.iadd, 1) := by decide +kernel
theorem dX9_areSo_72 : decode cX9_areSo 72 = .ok (.iconst 0, 1) := by decide +kernel
theorem dX9_areSo_73 : decode cX9_areSo 73 = .ok (.iastore, 1) := by decide +kernel
theorem dX9_areSo_74 : decode cX9_areSo 74 = .ok (.iinc 1 1, 3) := by decide +kernel
theorem dX9_areSo_77 : decode cX9_areSo 77 = .ok (.goto (-62), 3) := by decide +kernel
theorem dX9_areSo_80 : decode cX9_areSo 80 = .ok (.iconst 0, 1) := by decide +kernel
theorem dX9_areSo_81 : decode cX9_areSo 81 = .ok (.istore_n 1, 1) := by decide +kernel
theorem dX9_areSo_82 : decode cX9_areSo 82 = .ok (.iload_n 1, 1) := by decide +kernel
theorem dX9_areSo_83 : decode cX9_areSo 83 = .ok (.aload_n 0, 1) := by decide +kernel
theorem dX9_areSo_84 : decode cX9_areSo 84 = .ok (.getfield 69, 3) := by decide +kernel
theorem dX9_areSo_87 : decode cX9_areSo 87 = .ok (.if_icmp .ge 53, 3) := by decide +kernel
theorem dX9_areSo_90 : decode cX9_areSo 90 = .ok (.aload_n 0, 1) := by decide +kernel
theorem dX9_areSo_91 : decode cX9_areSo 91 = .ok (.bipush 51, 2) := by decide +kernel
theorem dX9_areSo_93 : decode cX9_areSo 93 = .ok (.aload_n 0, 1) := by decide +kernel
theorem dX9_areSo_94 : decode cX9_areSo 94 = .ok (.getfield 49, 3) := by decide +kernel
theorem dX9_areSo_97 : decode cX9_areSo 97 = .ok (.iload_n 1, 1) := by decide +kernel
theorem dX9_areSo_98 : decode cX9_areSo 98 = .ok (.iaload, 1) := by decide +kernel
theorem dX9_areSo_99 : decode cX9_areSo 99 = .ok (.invokevirtual 149, 3) := by decide +kernel
theorem dX9_areSo_102 : decode cX9_areSo 102 = .ok (.iconst 0, 1) := by decide +kernel
theorem dX9_areSo_103 : decode cX9_areSo 103 = .ok (.istore_n 2, 1) := by decide +kernel
theorem dX9_areSo_104 : decode cX9_areSo 104 = .ok (.iload_n 2, 1) := by decide +kernel
theorem dX9_areSo_105 : decode cX9_areSo 105 = .ok (.aload_n 0, 1) := by decide +kernel
theorem dX9_areSo_106 : decode cX9_areSo 106 = .ok (.getfield 69, 3) := by decide +kernel
theorem dX9_areSo_109 : decode cX9_areSo 109 = .ok (.if_icmp .ge 19, 3) := by decide +kernel
theorem dX9_areSo_112 : decode cX9_areSo 112 = .ok (.aload_n 0, 1) := by decide +kernel
theorem dX9_areSo_113 : decode cX9_areSo 113 = .ok (.getfield 7, 3) := by decide +kernel
theorem dX9_areSo_116 : decode cX9_areSo 116 = .ok (.bipush 74, 2) := by decide +kernel
theorem dX9_areSo_118 : decode cX9_areSo 118 = .ok (.iload_n 2, 1) := by decide +kernel
theorem dX9_areSo_119 : decode cX9_areSo 119 = .ok (.iadd, 1) := by decide +kernel
theorem dX9_areSo_120 : decode cX9_areSo 120 = .ok (.iconst 0, 1) := by decide +kernel
theorem dX9_areSo_121 : decode cX9_areSo 121 = .ok (.iastore, 1) := by decide +kernel
theorem dX9_areSo_122 : decode cX9_areSo 122 = .ok (.iinc 2 1, 3) := by decide +kernel
theorem dX9_areSo_125 : decode cX9_areSo 125 = .ok (.goto (-21), 3) := by decide +kernel
theorem dX9_areSo_128 : decode cX9_areSo 128 = .ok (.aload_n 0, 1) := by decide +kernel
theorem dX9_areSo_129 : decode cX9_areSo 129 = .ok (.bipush 51, 2) := by decide +kernel
theorem dX9_areSo_131 : decode cX9_areSo 131 = .ok (.invokevirtual 152, 3) := by decide +kernel
theorem dX9_areSo_134 : decode cX9_areSo 134 = .ok (.iinc 1 1, 3) := by decide +kernel
theorem dX9_areSo_137 : decode cX9_areSo 137 = .ok (.goto (-55), 3) := by decide +kernel
theorem dX9_areSo_140 : decode cX9_areSo 140 = .ok (.iconst 1, 1) := by decide +kernel
theorem dX9_areSo_141 : decode cX9_areSo 141 = .ok (.istore_n 1, 1) := by decide +kernel
theorem dX9_areSo_142 : decode cX9_areSo 142 = .ok (.iconst 0, 1) := by decide +kernel
theorem dX9_areSo_143 : decode cX9_areSo 143 = .ok (.istore_n 2, 1) := by decide +kernel
theorem dX9_areSo_144 : decode cX9_areSo 144 = .ok (.iload_n 2, 1) := by decide +kernel
theorem dX9_areSo_145 : decode cX9_areSo 145 = .ok (.aload_n 0, 1) := by decide +kernel
theorem dX9_areSo_146 : decode cX9_areSo 146 = .ok (.getfield 89, 3) := by decide +kernel
theorem dX9_areSo_149 : decode cX9_areSo 149 = .ok (.if_icmp .ge 42, 3) := by decide +kernel
theorem dX9_areSo_152 : decode cX9_areSo 152 = .ok (.iload_n 1, 1) := by decide +kernel
theorem dX9_areSo_153 : decode cX9_areSo 153 = .ok (.ifCond .eq 30, 3) := by decide +kernel
theorem dX9_areSo_156 : decode cX9_areSo 156 = .ok (.aload_n 0, 1) := by decide +kernel
theorem dX9_areSo_157 : decode cX9_areSo 157 = .ok (.getfield 7, 3) := by decide +kernel
theorem dX9_areSo_160 : decode cX9_areSo 160 = .ok (.bipush 95, 2) := by decide +kernel
theorem dX9_areSo_162 : decode cX9_areSo 162 = .ok (.aload_n 0, 1) := by decide +kernel
theorem dX9_areSo_163 : decode cX9_areSo 163 = .ok (.getfield 25, 3) := by decide +kernel
theorem dX9_areSo_166 : decode cX9_areSo 166 = .ok (.iload_n 2, 1) := by decide +kernel
theorem dX9_areSo_167 : decode cX9_areSo 167 = .ok (.iaload, 1) := by decide +kernel
theorem dX9_areSo_168 : decode cX9_areSo 168 = .ok (.iadd, 1) := by decide +kernel
theorem dX9_areSo_169 : decode cX9_areSo 169 = .ok (.iaload, 1) := by decide +kernel
theorem dX9_areSo_170 : decode cX9_areSo 170 = .ok (.aload_n 0, 1) := by decide +kernel
theorem dX9_areSo_171 : decode cX9_areSo 171 = .ok (.getfield 28, 3) := by decide +kernel
theorem dX9_areSo_174 : decode cX9_areSo 174 = .ok (.iload_n 2, 1) := by decide +kernel
theorem dX9_areSo_175 : decode cX9_areSo 175 = .ok (.iaload, 1) := by decide +kernel
theorem dX9_areSo_176 : decode cX9_areSo 176 = .ok (.if_icmp .ne 7, 3) := by decide +kernel
theorem dX9_areSo_179 : decode cX9_areSo 179 = .ok (.iconst 1, 1) := by decide +kernel
theorem dX9_areSo_180 : decode cX9_areSo 180 = .ok (.goto 4, 3) := by decide +kernel
theorem dX9_areSo_183 : decode cX9_areSo 183 = .ok (.iconst 0, 1) := by decide +kernel
theorem dX9_areSo_184 : decode cX9_areSo 184 = .ok (.istore_n 1, 1) := by decide +kernel
theorem dX9_areSo_185 : decode cX9_areSo 185 = .ok (.iinc 2 1, 3) := by decide +kernel
theorem dX9_areSo_188 : decode cX9_areSo 188 = .ok (.goto (-44), 3) := by decide +kernel
theorem dX9_areSo_191 : decode cX9_areSo 191 = .ok (.iload_n 1, 1) := by decide +kernel
theorem dX9_areSo_192 : decode cX9_areSo 192 = .ok (.ireturn, 1) := by decide +kernel
theorem dX9_manyOrders_0 : decode cX9_manyOrders 0 = .ok (.iconst 0, 1) := by decide +kernel
theorem dX9_manyOrders_1 : decode cX9_manyOrders 1 = .ok (.istore_n 1, 1) := by decide +kernel
theorem dX9_manyOrders_2 : decode cX9_manyOrders 2 = .ok (.iconst 0, 1) := by decide +kernel
theorem dX9_manyOrders_3 : decode cX9_manyOrders 3 = .ok (.istore_n 2, 1) := by decide +kernel
theorem dX9_manyOrders_4 : decode cX9_manyOrders 4 = .ok (.aload_n 0, 1) := by decide +kernel
theorem dX9_manyOrders_5 : decode cX9_manyOrders 5 = .ok (.getfield 49, 3) := by decide +kernel
theorem dX9_manyOrders_8 : decode cX9_manyOrders 8 = .ok (.iconst 0, 1) := by decide +kernel
theorem dX9_manyOrders_9 : decode cX9_manyOrders 9 = .ok (.iconst (-1), 1) := by decide +kernel
theorem dX9_manyOrders_10 : decode cX9_manyOrders 10 = .ok (.iastore, 1) := by decide +kernel
theorem dX9_manyOrders_11 : decode cX9_manyOrders 11 = .ok (.iload_n 2, 1) := by decide +kernel
theorem dX9_manyOrders_12 : decode cX9_manyOrders 12 = .ok (.ifCond .lt 162, 3) := by decide +kernel
theorem dX9_manyOrders_15 : decode cX9_manyOrders 15 = .ok (.iconst 0, 1) := by decide +kernel
theorem dX9_manyOrders_16 : decode cX9_manyOrders 16 = .ok (.istore_n 3, 1) := by decide +kernel
theorem dX9_manyOrders_17 : decode cX9_manyOrders 17 = .ok (.iconst 0, 1) := by decide +kernel
theorem dX9_manyOrders_18 : decode cX9_manyOrders 18 = .ok (.istore 4, 2) := by decide +kernel
theorem dX9_manyOrders_20 : decode cX9_manyOrders 20 = .ok (.iload 4, 2) := by decide +kernel
theorem dX9_manyOrders_22 : decode cX9_manyOrders 22 = .ok (.iload_n 2, 1) := by decide +kernel
theorem dX9_manyOrders_23 : decode cX9_manyOrders 23 = .ok (.if_icmp .ge 21, 3) := by decide +kernel
theorem dX9_manyOrders_26 : decode cX9_manyOrders 26 = .ok (.iload_n 3, 1) := by decide +kernel
theorem dX9_manyOrders_27 : decode cX9_manyOrders 27 = .ok (.iconst 1, 1) := by decide +kernel
theorem dX9_manyOrders_28 : decode cX9_manyOrders 28 = .ok (.aload_n 0, 1) := by decide +kernel
theorem dX9_manyOrders_29 : decode cX9_manyOrders 29 = .ok (.getfield 49, 3) := by decide +kernel
theorem dX9_manyOrders_32 : decode cX9_manyOrders 32 = .ok (.iload 4, 2) := by decide +kernel
theorem dX9_manyOrders_34 : decode cX9_manyOrders 34 = .ok (.iaload, 1) := by decide +kernel
theorem dX9_manyOrders_35 : decode cX9_manyOrders 35 = .ok (.ishl, 1) := by decide +kernel
theorem dX9_manyOrders_36 : decode cX9_manyOrders 36 = .ok (.ior, 1) := by decide +kernel
theorem dX9_manyOrders_37 : decode cX9_manyOrders 37 = .ok (.istore_n 3, 1) := by decide +kernel
theorem dX9_manyOrders_38 : decode cX9_manyOrders 38 = .ok (.iinc 4 1, 3) := by decide +kernel
theorem dX9_manyOrders_41 : decode cX9_manyOrders 41 = .ok (.goto (-21), 3) := by decide +kernel
theorem dX9_manyOrders_44 : decode cX9_manyOrders 44 = .ok (.iload_n 2, 1) := by decide +kernel
theorem dX9_manyOrders_45 : decode cX9_manyOrders 45 = .ok (.aload_n 0, 1) := by decide +kernel
theorem dX9_manyOrders_46 : decode cX9_manyOrders 46 = .ok (.getfield 69, 3) := by decide +kernel
theorem dX9_manyOrders_49 : decode cX9_manyOrders 49 = .ok (.if_icmp .ne 55, 3) := by decide +kernel
theorem dX9_manyOrders_52 : decode cX9_manyOrders 52 = .ok (.aload_n 0, 1) := by decide +kernel
theorem dX9_manyOrders_53 : decode cX9_manyOrders 53 = .ok (.invokevirtual 199, 3) := by decide +kernel
theorem dX9_manyOrders_56 : decode cX9_manyOrders 56 = .ok (.ifCond .eq 42, 3) := by decide +kernel
theorem dX9_manyOrders_59 : decode cX9_manyOrders 59 = .ok (.iconst 0, 1) := by decide +kernel
theorem dX9_manyOrders_60 : decode cX9_manyOrders 60 = .ok (.istore 4, 2) := by decide +kernel
theorem dX9_manyOrders_62 : decode cX9_manyOrders 62 = .ok (.iload 4, 2) := by decide +kernel
theorem dX9_manyOrders_64 : decode cX9_manyOrders 64 = .ok (.aload_n 0, 1) := by decide +kernel
theorem dX9_manyOrders_65 : decode cX9_manyOrders 65 = .ok (.getfield 69, 3) := by decide +kernel
theorem dX9_manyOrders_68 : decode cX9_manyOrders 68 = .ok (.if_icmp .ge 27, 3) := by decide +kernel
theorem dX9_manyOrders_71 : decode cX9_manyOrders 71 = .ok (.iload_n 1, 1) := by decide +kernel
theorem dX9_manyOrders_72 : decode cX9_manyOrders 72 = .ok (.ifCond .ne 23, 3) := by decide +kernel
theorem dX9_manyOrders_75 : decode cX9_manyOrders 75 = .ok (.aload_n 0, 1) := by decide +kernel
theorem dX9_manyOrders_76 : decode cX9_manyOrders 76 = .ok (.getfield 52, 3) := by decide +kernel
theorem dX9_manyOrders_79 : decode cX9_manyOrders 79 = .ok (.iload 4, 2) := by decide +kernel
theorem dX9_manyOrders_81 : decode cX9_manyOrders 81 = .ok (.aload_n 0, 1) := by decide +kernel
theorem dX9_manyOrders_82 : decode cX9_manyOrders 82 = .ok (.getfield 49, 3) := by decide +kernel
theorem dX9_manyOrders_85 : decode cX9_manyOrders 85 = .ok (.iload 4, 2) := by decide +kernel
theorem dX9_manyOrders_87 : decode cX9_manyOrders 87 = .ok (.iaload, 1) := by decide +kernel
theorem dX9_manyOrders_88 : decode cX9_manyOrders 88 = .ok (.iastore, 1) := by decide +kernel
theorem dX9_manyOrders_89 : decode cX9_manyOrders 89 = .ok (.iinc 4 1, 3) := by decide +kernel
theorem dX9_manyOrders_92 : decode cX9_manyOrders 92 = .ok (.goto (-30), 3) := by decide +kernel
theorem dX9_manyOrders_95 : decode cX9_manyOrders 95 = .ok (.iinc 1 1, 3) := by decide +kernel
theorem dX9_manyOrders_98 : decode cX9_manyOrders 98 = .ok (.iinc 2 (-1), 3) := by decide +kernel
theorem dX9_manyOrders_101 : decode cX9_manyOrders 101 = .ok (.goto 70, 3) := by decide +kernel
theorem dX9_manyOrders_104 : decode cX9_manyOrders 104 = .ok (.aload_n 0, 1) := by decide +kernel
theorem dX9_manyOrders_105 : decode cX9_manyOrders 105 = .ok (.getfield 49, 3) := by decide +kernel
theorem dX9_manyOrders_108 : decode cX9_manyOrders 108 = .ok (.iload_n 2, 1) := by decide +kernel
theorem dX9_manyOrders_109 : decode cX9_manyOrders 109 = .ok (.iaload, 1) := by decide +kernel
theorem dX9_manyOrders_110 : decode cX9_manyOrders 110 = .ok (.iconst 1, 1) := by decide +kernel
theorem dX9_manyOrders_111 : decode cX9_manyOrders 111 = .ok (.iadd, 1) := by decide +kernel
theorem dX9_manyOrders_112 : decode cX9_manyOrders 112 = .ok (.istore 4, 2) := by decide +kernel
theorem dX9_manyOrders_114 : decode cX9_manyOrders 114 = .ok (.iload 4, 2) := by decide +kernel
theorem dX9_manyOrders_116 : decode cX9_manyOrders 116 = .ok (.aload_n 0, 1) := by decide +kernel
theorem dX9_manyOrders_117 : decode cX9_manyOrders 117 = .ok (.getfield 69, 3) := by decide +kernel
theorem dX9_manyOrders_120 : decode cX9_manyOrders 120 = .ok (.if_icmp .ge 18, 3) := by decide +kernel
theorem dX9_manyOrders_123 : decode cX9_manyOrders 123 = .ok (.iload_n 3, 1) := by decide +kernel
theorem dX9_manyOrders_124 : decode cX9_manyOrders 124 = .ok (.iload 4, 2) := by decide +kernel
theorem dX9_manyOrders_126 : decode cX9_manyOrders 126 = .ok (.invokestatic 141, 3) := by decide +kernel
theorem dX9_manyOrders_129 : decode cX9_manyOrders 129 = .ok (.ifCond .eq 9, 3) := by decide +kernel
theorem dX9_manyOrders_132 : decode cX9_manyOrders 132 = .ok (.iinc 4 1, 3) := by decide +kernel
theorem dX9_manyOrders_135 : decode cX9_manyOrders 135 = .ok (.goto (-21), 3) := by decide +kernel
theorem dX9_manyOrders_138 : decode cX9_manyOrders 138 = .ok (.aload_n 0, 1) := by decide +kernel
theorem dX9_manyOrders_139 : decode cX9_manyOrders 139 = .ok (.getfield 49, 3) := by decide +kernel
theorem dX9_manyOrders_142 : decode cX9_manyOrders 142 = .ok (.iload_n 2, 1) := by decide +kernel
theorem dX9_manyOrders_143 : decode cX9_manyOrders 143 = .ok (.iload 4, 2) := by decide +kernel
theorem dX9_manyOrders_145 : decode cX9_manyOrders 145 = .ok (.iastore, 1) := by decide +kernel
theorem dX9_manyOrders_146 : decode cX9_manyOrders 146 = .ok (.iload 4, 2) := by decide +kernel
theorem dX9_manyOrders_148 : decode cX9_manyOrders 148 = .ok (.aload_n 0, 1) := by decide +kernel
theorem dX9_manyOrders_149 : decode cX9_manyOrders 149 = .ok (.getfield 69, 3) := by decide +kernel
theorem dX9_manyOrders_152 : decode cX9_manyOrders 152 = .ok (.if_icmp .ne 9, 3) := by decide +kernel
theorem dX9_manyOrders_155 : decode cX9_manyOrders 155 = .ok (.iinc 2 (-1), 3) := by decide +kernel
theorem dX9_manyOrders_158 : decode cX9_manyOrders 158 = .ok (.goto 13, 3) := by decide +kernel
theorem dX9_manyOrders_161 : decode cX9_manyOrders 161 = .ok (.iinc 2 1, 3) := by decide +kernel
theorem dX9_manyOrders_164 : decode cX9_manyOrders 164 = .ok (.aload_n 0, 1) := by decide +kernel
theorem dX9_manyOrders_165 : decode cX9_manyOrders 165 = .ok (.getfield 49, 3) := by decide +kernel
theorem dX9_manyOrders_168 : decode cX9_manyOrders 168 = .ok (.iload_n 2, 1) := by decide +kernel
theorem dX9_manyOrders_169 : decode cX9_manyOrders 169 = .ok (.iconst (-1), 1) := by decide +kernel
theorem dX9_manyOrders_170 : decode cX9_manyOrders 170 = .ok (.iastore, 1) := by decide +kernel
theorem dX9_manyOrders_171 : decode cX9_manyOrders 171 = .ok (.goto (-160), 3) := by decide +kernel
theorem dX9_manyOrders_174 : decode cX9_manyOrders 174 = .ok (.iload_n 1, 1) := by decide +kernel
theorem dX9_manyOrders_175 : decode cX9_manyOrders 175 = .ok (.ireturn, 1) := by decide +kernel
theorem dX9_orders_0 : decode cX9_orders 0 = .ok (.iload_n 1, 1) := by decide +kernel
theorem dX9_orders_1 : decode cX9_orders 1 = .ok (.i2l, 1) := by decide +kernel
theorem dX9_orders_2 : decode cX9_orders 2 = .ok (.ldc2_w 202, 3) := by decide +kernel
theorem dX9_orders_5 : decode cX9_orders 5 = .ok (.aload_n 0, 1) := by decide +kernel
theorem dX9_orders_6 : decode cX9_orders 6 = .ok (.getfield 69, 3) := by decide +kernel
theorem dX9_orders_9 : decode cX9_orders 9 = .ok (.iconst 1, 1) := by decide +kernel
theorem dX9_orders_10 : decode cX9_orders 10 = .ok (.isub, 1) := by decide +kernel
theorem dX9_orders_11 : decode cX9_orders 11 = .ok (.i2l, 1) := by decide +kernel
theorem dX9_orders_12 : decode cX9_orders 12 = .ok (.invokestatic 73, 3) := by decide +kernel
theorem dX9_orders_15 : decode cX9_orders 15 = .ok (.ifCond .ne 5, 3) := by decide +kernel
theorem dX9_orders_18 : decode cX9_orders 18 = .ok (.iconst (-1), 1) := by decide +kernel
theorem dX9_orders_19 : decode cX9_orders 19 = .ok (.ireturn, 1) := by decide +kernel
theorem dX9_orders_20 : decode cX9_orders 20 = .ok (.aload_n 0, 1) := by decide +kernel
theorem dX9_orders_21 : decode cX9_orders 21 = .ok (.invokevirtual 204, 3) := by decide +kernel
theorem dX9_orders_24 : decode cX9_orders 24 = .ok (.istore_n 2, 1) := by decide +kernel
theorem dX9_orders_25 : decode cX9_orders 25 = .ok (.iload_n 1, 1) := by decide +kernel
theorem dX9_orders_26 : decode cX9_orders 26 = .ok (.ifCond .ge 7, 3) := by decide +kernel
theorem dX9_orders_29 : decode cX9_orders 29 = .ok (.iload_n 2, 1) := by decide +kernel
theorem dX9_orders_30 : decode cX9_orders 30 = .ok (.goto 18, 3) := by decide +kernel
theorem dX9_orders_33 : decode cX9_orders 33 = .ok (.iload_n 2, 1) := by decide +kernel
theorem dX9_orders_34 : decode cX9_orders 34 = .ok (.ifCond .ne 8, 3) := by decide +kernel
theorem dX9_orders_37 : decode cX9_orders 37 = .ok (.bipush (-4), 2) := by decide +kernel
theorem dX9_orders_39 : decode cX9_orders 39 = .ok (.goto 9, 3) := by decide +kernel
theorem dX9_orders_42 : decode cX9_orders 42 = .ok (.aload_n 0, 1) := by decide +kernel
theorem dX9_orders_43 : decode cX9_orders 43 = .ok (.getfield 52, 3) := by decide +kernel
theorem dX9_orders_46 : decode cX9_orders 46 = .ok (.iload_n 1, 1) := by decide +kernel
theorem dX9_orders_47 : decode cX9_orders 47 = .ok (.iaload, 1) := by decide +kernel
theorem dX9_orders_48 : decode cX9_orders 48 = .ok (.ireturn, 1) := by decide +kernel
theorem dX9_absent_0 : decode cX9_absent 0 = .ok (.aload_n 0, 1) := by decide +kernel
theorem dX9_absent_1 : decode cX9_absent 1 = .ok (.iload_n 1, 1) := by decide +kernel
theorem dX9_absent_2 : decode cX9_absent 2 = .ok (.invokevirtual 131, 3) := by decide +kernel
theorem dX9_absent_5 : decode cX9_absent 5 = .ok (.ifCond .eq 25, 3) := by decide +kernel
theorem dX9_absent_8 : decode cX9_absent 8 = .ok (.iload_n 2, 1) := by decide +kernel
theorem dX9_absent_9 : decode cX9_absent 9 = .ok (.i2l, 1) := by decide +kernel
theorem dX9_absent_10 : decode cX9_absent 10 = .ok (.lconst 0, 1) := by decide +kernel
theorem dX9_absent_11 : decode cX9_absent 11 = .ok (.ldc2_w 207, 3) := by decide +kernel
theorem dX9_absent_14 : decode cX9_absent 14 = .ok (.invokestatic 73, 3) := by decide +kernel
theorem dX9_absent_17 : decode cX9_absent 17 = .ok (.ifCond .eq 13, 3) := by decide +kernel
theorem dX9_absent_20 : decode cX9_absent 20 = .ok (.iload_n 3, 1) := by decide +kernel
theorem dX9_absent_21 : decode cX9_absent 21 = .ok (.i2l, 1) := by decide +kernel
theorem dX9_absent_22 : decode cX9_absent 22 = .ok (.lconst 0, 1) := by decide +kernel
theorem dX9_absent_23 : decode cX9_absent 23 = .ok (.lconst 1, 1) := by decide +kernel
theorem dX9_absent_24 : decode cX9_absent 24 = .ok (.invokestatic 73, 3) := by decide +kernel
theorem dX9_absent_27 : decode cX9_absent 27 = .ok (.ifCond .ne 5, 3) := by decide +kernel
theorem dX9_absent_30 : decode cX9_absent 30 = .ok (.iconst (-1), 1) := by decide +kernel
theorem dX9_absent_31 : decode cX9_absent 31 = .ok (.ireturn, 1) := by decide +kernel
theorem dX9_absent_32 : decode cX9_absent 32 = .ok (.iconst 0, 1) := by decide +kernel
theorem dX9_absent_33 : decode cX9_absent 33 = .ok (.istore 4, 2) := by decide +kernel
theorem dX9_absent_35 : decode cX9_absent 35 = .ok (.iconst 1, 1) := by decide +kernel
theorem dX9_absent_36 : decode cX9_absent 36 = .ok (.istore 5, 2) := by decide +kernel
theorem dX9_absent_38 : decode cX9_absent 38 = .ok (.iconst 0, 1) := by decide +kernel
theorem dX9_absent_39 : decode cX9_absent 39 = .ok (.istore 6, 2) := by decide +kernel
theorem dX9_absent_41 : decode cX9_absent 41 = .ok (.iload 6, 2) := by decide +kernel
theorem dX9_absent_43 : decode cX9_absent 43 = .ok (.aload_n 0, 1) := by decide +kernel
theorem dX9_absent_44 : decode cX9_absent 44 = .ok (.getfield 69, 3) := by decide +kernel
theorem dX9_absent_47 : decode cX9_absent 47 = .ok (.if_icmp .ge 32, 3) := by decide +kernel
theorem dX9_absent_50 : decode cX9_absent 50 = .ok (.iload 5, 2) := by decide +kernel
theorem dX9_absent_52 : decode cX9_absent 52 = .ok (.aload_n 0, 1) := by decide +kernel
theorem dX9_absent_53 : decode cX9_absent 53 = .ok (.getfield 7, 3) := by decide +kernel
theorem dX9_absent_56 : decode cX9_absent 56 = .ok (.iconst 2, 1) := by decide +kernel
theorem dX9_absent_57 : decode cX9_absent 57 = .ok (.iload 6, 2) := by decide +kernel
theorem dX9_absent_59 : decode cX9_absent 59 = .ok (.iadd, 1) := by decide +kernel
theorem dX9_absent_60 : decode cX9_absent 60 = .ok (.iaload, 1) := by decide +kernel
theorem dX9_absent_61 : decode cX9_absent 61 = .ok (.ifCond .ne 8, 3) := by decide +kernel
theorem dX9_absent_64 : decode cX9_absent 64 = .ok (.bipush 10, 2) := by decide +kernel
theorem dX9_absent_66 : decode cX9_absent 66 = .ok (.goto 4, 3) := by decide +kernel
theorem dX9_absent_69 : decode cX9_absent 69 = .ok (.iconst 1, 1) := by decide +kernel
theorem dX9_absent_70 : decode cX9_absent 70 = .ok (.imul, 1) := by decide +kernel
theorem dX9_absent_71 : decode cX9_absent 71 = .ok (.istore 5, 2) := by decide +kernel
theorem dX9_absent_73 : decode cX9_absent 73 = .ok (.iinc 6 1, 3) := by decide +kernel
theorem dX9_absent_76 : decode cX9_absent 76 = .ok (.goto (-35), 3) := by decide +kernel
theorem dX9_absent_79 : decode cX9_absent 79 = .ok (.iconst 0, 1) := by decide +kernel
theorem dX9_absent_80 : decode cX9_absent 80 = .ok (.istore 6, 2) := by decide +kernel
theorem dX9_absent_82 : decode cX9_absent 82 = .ok (.iload 6, 2) := by decide +kernel
theorem dX9_absent_84 : decode cX9_absent 84 = .ok (.iconst 1, 1) := by decide +kernel
theorem dX9_absent_85 : decode cX9_absent 85 = .ok (.aload_n 0, 1) := by decide +kernel
theorem dX9_absent_86 : decode cX9_absent 86 = .ok (.getfield 69, 3) := by decide +kernel
theorem dX9_absent_89 : decode cX9_absent 89 = .ok (.ishl, 1) := by decide +kernel
theorem dX9_absent_90 : decode cX9_absent 90 = .ok (.if_icmp .ge 168, 3) := by decide +kernel
theorem dX9_absent_93 : decode cX9_absent 93 = .ok (.iconst 1, 1) := by decide +kernel
theorem dX9_absent_94 : decode cX9_absent 94 = .ok (.istore 7, 2) := by decide +kernel
theorem dX9_absent_96 : decode cX9_absent 96 = .ok (.aload_n 0, 1) := by decide +kernel
theorem dX9_absent_97 : decode cX9_absent 97 = .ok (.invokevirtual 181, 3) := by decide +kernel
theorem dX9_absent_100 : decode cX9_absent 100 = .ok (.iconst 0, 1) := by decide +kernel
theorem dX9_absent_101 : decode cX9_absent 101 = .ok (.istore 8, 2) := by decide +kernel
theorem dX9_absent_103 : decode cX9_absent 103 = .ok (.iload 8, 2) := by decide +kernel
theorem dX9_absent_105 : decode cX9_absent 105 = .ok (.aload_n 0, 1) := by decide +kernel
theorem dX9_absent_106 : decode cX9_absent 106 = .ok (.getfield 69, 3) := by decide +kernel
theorem dX9_absent_109 : decode cX9_absent 109 = .ok (.if_icmp .ge 92, 3) := by decide +kernel
theorem dX9_absent_112 : decode cX9_absent 112 = .ok (.aload_n 0, 1) := by decide +kernel
theorem dX9_absent_113 : decode cX9_absent 113 = .ok (.getfield 7, 3) := by decide +kernel
theorem dX9_absent_116 : decode cX9_absent 116 = .ok (.iconst 2, 1) := by decide +kernel
theorem dX9_absent_117 : decode cX9_absent 117 = .ok (.iload 8, 2) := by decide +kernel
theorem dX9_absent_119 : decode cX9_absent 119 = .ok (.iadd, 1) := by decide +kernel
theorem dX9_absent_120 : decode cX9_absent 120 = .ok (.iaload, 1) := by decide +kernel
theorem dX9_absent_121 : decode cX9_absent 121 = .ok (.ifCond .ne 54, 3) := by decide +kernel
theorem dX9_absent_124 : decode cX9_absent 124 = .ok (.iload 7, 2) := by decide +kernel
theorem dX9_absent_126 : decode cX9_absent 126 = .ok (.iload 6, 2) := by decide +kernel
theorem dX9_absent_128 : decode cX9_absent 128 = .ok (.iload 8, 2) := by decide +kernel
theorem dX9_absent_130 : decode cX9_absent 130 = .ok (.invokestatic 141, 3) := by decide +kernel
theorem dX9_absent_133 : decode cX9_absent 133 = .ok (.ifCond .eq 7, 3) := by decide +kernel
theorem dX9_absent_136 : decode cX9_absent 136 = .ok (.iload_n 2, 1) := by decide +kernel
theorem dX9_absent_137 : decode cX9_absent 137 = .ok (.goto 7, 3) := by decide +kernel
theorem dX9_absent_140 : decode cX9_absent 140 = .ok (.bipush 10, 2) := by decide +kernel
theorem dX9_absent_142 : decode cX9_absent 142 = .ok (.iload_n 2, 1) := by decide +kernel
theorem dX9_absent_143 : decode cX9_absent 143 = .ok (.isub, 1) := by decide +kernel
theorem dX9_absent_144 : decode cX9_absent 144 = .ok (.imul, 1) := by decide +kernel
theorem dX9_absent_145 : decode cX9_absent 145 = .ok (.istore 7, 2) := by decide +kernel
theorem dX9_absent_147 : decode cX9_absent 147 = .ok (.aload_n 0, 1) := by decide +kernel
theorem dX9_absent_148 : decode cX9_absent 148 = .ok (.getfield 7, 3) := by decide +kernel
theorem dX9_absent_151 : decode cX9_absent 151 = .ok (.bipush 53, 2) := by decide +kernel
theorem dX9_absent_153 : decode cX9_absent 153 = .ok (.iload 8, 2) := by decide +kernel
theorem dX9_absent_155 : decode cX9_absent 155 = .ok (.iadd, 1) := by decide +kernel
theorem dX9_absent_156 : decode cX9_absent 156 = .ok (.iload 6, 2) := by decide +kernel
theorem dX9_absent_158 : decode cX9_absent 158 = .ok (.iload 8, 2) := by decide +kernel
theorem dX9_absent_160 : decode cX9_absent 160 = .ok (.invokestatic 141, 3) := by decide +kernel
theorem dX9_absent_163 : decode cX9_absent 163 = .ok (.ifCond .eq 7, 3) := by decide +kernel
theorem dX9_absent_166 : decode cX9_absent 166 = .ok (.iconst 3, 1) := by decide +kernel
theorem dX9_absent_167 : decode cX9_absent 167 = .ok (.goto 4, 3) := by decide +kernel
theorem dX9_absent_170 : decode cX9_absent 170 = .ok (.iconst 0, 1) := by decide +kernel
theorem dX9_absent_171 : decode cX9_absent 171 = .ok (.iastore, 1) := by decide +kernel
theorem dX9_absent_172 : decode cX9_absent 172 = .ok (.goto 23, 3) := by decide +kernel
theorem dX9_absent_175 : decode cX9_absent 175 = .ok (.iload 7, 2) := by decide +kernel
theorem dX9_absent_177 : decode cX9_absent 177 = .ok (.iload 6, 2) := by decide +kernel
theorem dX9_absent_179 : decode cX9_absent 179 = .ok (.iload 8, 2) := by decide +kernel
theorem dX9_absent_181 : decode cX9_absent 181 = .ok (.invokestatic 141, 3) := by decide +kernel
theorem dX9_absent_184 : decode cX9_absent 184 = .ok (.ifCond .eq 7, 3) := by decide +kernel
theorem dX9_absent_187 : decode cX9_absent 187 = .ok (.iconst 0, 1) := by decide +kernel
theorem dX9_absent_188 : decode cX9_absent 188 = .ok (.goto 4, 3) := by decide +kernel
theorem dX9_absent_191 : decode cX9_absent 191 = .ok (.iconst 1, 1) := by decide +kernel
theorem dX9_absent_192 : decode cX9_absent 192 = .ok (.imul, 1) := by decide +kernel
theorem dX9_absent_193 : decode cX9_absent 193 = .ok (.istore 7, 2) := by decide +kernel
theorem dX9_absent_195 : decode cX9_absent 195 = .ok (.iinc 8 1, 3) := by decide +kernel
theorem dX9_absent_198 : decode cX9_absent 198 = .ok (.goto (-95), 3) := by decide +kernel
theorem dX9_absent_201 : decode cX9_absent 201 = .ok (.iload 7, 2) := by decide +kernel
theorem dX9_absent_203 : decode cX9_absent 203 = .ok (.ifCond .le 49, 3) := by decide +kernel
theorem dX9_absent_206 : decode cX9_absent 206 = .ok (.iconst 0, 1) := by decide +kernel
theorem dX9_absent_207 : decode cX9_absent 207 = .ok (.istore 8, 2) := by decide +kernel
theorem dX9_absent_209 : decode cX9_absent 209 = .ok (.iload 8, 2) := by decide +kernel
theorem dX9_absent_211 : decode cX9_absent 211 = .ok (.bipush 99, 2) := by decide +kernel
theorem dX9_absent_213 : decode cX9_absent 213 = .ok (.if_icmp .ge 15, 3) := by decide +kernel
theorem dX9_absent_216 : decode cX9_absent 216 = .ok (.aload_n 0, 1) := by decide +kernel
theorem dX9_absent_217 : decode cX9_absent 217 = .ok (.bipush 51, 2) := by decide +kernel
theorem dX9_absent_219 : decode cX9_absent 219 = .ok (.invokevirtual 163, 3) := by decide +kernel
theorem dX9_absent_222 : decode cX9_absent 222 = .ok (.iinc 8 1, 3) := by decide +kernel
theorem dX9_absent_225 : decode cX9_absent 225 = .ok (.goto (-16), 3) := by decide +kernel
theorem dX9_absent_228 : decode cX9_absent 228 = .ok (.iload 4, 2) := by decide +kernel
theorem dX9_absent_230 : decode cX9_absent 230 = .ok (.aload_n 0, 1) := by decide +kernel
theorem dX9_absent_231 : decode cX9_absent 231 = .ok (.getfield 7, 3) := by decide +kernel
theorem dX9_absent_234 : decode cX9_absent 234 = .ok (.bipush 53, 2) := by decide +kernel
theorem dX9_absent_236 : decode cX9_absent 236 = .ok (.iload_n 1, 1) := by decide +kernel
theorem dX9_absent_237 : decode cX9_absent 237 = .ok (.iadd, 1) := by decide +kernel
theorem dX9_absent_238 : decode cX9_absent 238 = .ok (.iaload, 1) := by decide +kernel
theorem dX9_absent_239 : decode cX9_absent 239 = .ok (.iconst 2, 1) := by decide +kernel
theorem dX9_absent_240 : decode cX9_absent 240 = .ok (.if_icmp .ne 8, 3) := by decide +kernel
theorem dX9_absent_243 : decode cX9_absent 243 = .ok (.iload 7, 2) := by decide +kernel
theorem dX9_absent_245 : decode cX9_absent 245 = .ok (.goto 4, 3) := by decide +kernel
theorem dX9_absent_248 : decode cX9_absent 248 = .ok (.iconst 0, 1) := by decide +kernel
theorem dX9_absent_249 : decode cX9_absent 249 = .ok (.iadd, 1) := by decide +kernel
theorem dX9_absent_250 : decode cX9_absent 250 = .ok (.istore 4, 2) := by decide +kernel
theorem dX9_absent_252 : decode cX9_absent 252 = .ok (.iinc 6 1, 3) := by decide +kernel
theorem dX9_absent_255 : decode cX9_absent 255 = .ok (.goto (-173), 3) := by decide +kernel
theorem dX9_absent_258 : decode cX9_absent 258 = .ok (.iload 4, 2) := by decide +kernel
theorem dX9_absent_260 : decode cX9_absent 260 = .ok (.istore 6, 2) := by decide +kernel
theorem dX9_absent_262 : decode cX9_absent 262 = .ok (.iload 5, 2) := by decide +kernel
theorem dX9_absent_264 : decode cX9_absent 264 = .ok (.istore 7, 2) := by decide +kernel
theorem dX9_absent_266 : decode cX9_absent 266 = .ok (.iload 7, 2) := by decide +kernel
theorem dX9_absent_268 : decode cX9_absent 268 = .ok (.ifCond .eq 21, 3) := by decide +kernel
theorem dX9_absent_271 : decode cX9_absent 271 = .ok (.iload 6, 2) := by decide +kernel
theorem dX9_absent_273 : decode cX9_absent 273 = .ok (.iload 7, 2) := by decide +kernel
theorem dX9_absent_275 : decode cX9_absent 275 = .ok (.irem, 1) := by decide +kernel
theorem dX9_absent_276 : decode cX9_absent 276 = .ok (.istore 8, 2) := by decide +kernel
theorem dX9_absent_278 : decode cX9_absent 278 = .ok (.iload 7, 2) := by decide +kernel
theorem dX9_absent_280 : decode cX9_absent 280 = .ok (.istore 6, 2) := by decide +kernel
theorem dX9_absent_282 : decode cX9_absent 282 = .ok (.iload 8, 2) := by decide +kernel
theorem dX9_absent_284 : decode cX9_absent 284 = .ok (.istore 7, 2) := by decide +kernel
theorem dX9_absent_286 : decode cX9_absent 286 = .ok (.goto (-20), 3) := by decide +kernel
theorem dX9_absent_289 : decode cX9_absent 289 = .ok (.iload_n 3, 1) := by decide +kernel
theorem dX9_absent_290 : decode cX9_absent 290 = .ok (.ifCond .ne 11, 3) := by decide +kernel
theorem dX9_absent_293 : decode cX9_absent 293 = .ok (.iload 4, 2) := by decide +kernel
theorem dX9_absent_295 : decode cX9_absent 295 = .ok (.iload 6, 2) := by decide +kernel
theorem dX9_absent_297 : decode cX9_absent 297 = .ok (.idiv, 1) := by decide +kernel
theorem dX9_absent_298 : decode cX9_absent 298 = .ok (.goto 8, 3) := by decide +kernel
theorem dX9_absent_301 : decode cX9_absent 301 = .ok (.iload 5, 2) := by decide +kernel
theorem dX9_absent_303 : decode cX9_absent 303 = .ok (.iload 6, 2) := by decide +kernel
theorem dX9_absent_305 : decode cX9_absent 305 = .ok (.idiv, 1) := by decide +kernel
theorem dX9_absent_306 : decode cX9_absent 306 = .ok (.ireturn, 1) := by decide +kernel
theorem dX9_doesBy_0 : decode cX9_doesBy 0 = .ok (.iload_n 1, 1) := by decide +kernel
theorem dX9_doesBy_1 : decode cX9_doesBy 1 = .ok (.bipush 8, 2) := by decide +kernel
theorem dX9_doesBy_3 : decode cX9_doesBy 3 = .ok (.idiv, 1) := by decide +kernel
theorem dX9_doesBy_4 : decode cX9_doesBy 4 = .ok (.aload_n 0, 1) := by decide +kernel
theorem dX9_doesBy_5 : decode cX9_doesBy 5 = .ok (.getfield 69, 3) := by decide +kernel
theorem dX9_doesBy_8 : decode cX9_doesBy 8 = .ok (.irem, 1) := by decide +kernel
theorem dX9_doesBy_9 : decode cX9_doesBy 9 = .ok (.istore_n 2, 1) := by decide +kernel
theorem dX9_doesBy_10 : decode cX9_doesBy 10 = .ok (.iload_n 1, 1) := by decide +kernel
theorem dX9_doesBy_11 : decode cX9_doesBy 11 = .ok (.bipush 8, 2) := by decide +kernel
theorem dX9_doesBy_13 : decode cX9_doesBy 13 = .ok (.irem, 1) := by decide +kernel
theorem dX9_doesBy_14 : decode cX9_doesBy 14 = .ok (.istore_n 3, 1) := by decide +kernel
theorem dX9_doesBy_15 : decode cX9_doesBy 15 = .ok (.iload_n 3, 1) := by decide +kernel
theorem dX9_doesBy_16 : decode cX9_doesBy 16 = .ok (.ifCond .ne 62, 3) := by decide +kernel
theorem dX9_doesBy_19 : decode cX9_doesBy 19 = .ok (.aload_n 0, 1) := by decide +kernel
theorem dX9_doesBy_20 : decode cX9_doesBy 20 = .ok (.getfield 7, 3) := by decide +kernel
theorem dX9_doesBy_23 : decode cX9_doesBy 23 = .ok (.bipush 51, 2) := by decide +kernel
theorem dX9_doesBy_25 : decode cX9_doesBy 25 = .ok (.iaload, 1) := by decide +kernel
theorem dX9_doesBy_26 : decode cX9_doesBy 26 = .ok (.iload_n 1, 1) := by decide +kernel
theorem dX9_doesBy_27 : decode cX9_doesBy 27 = .ok (.bipush 64, 2) := by decide +kernel
theorem dX9_doesBy_29 : decode cX9_doesBy 29 = .ok (.idiv, 1) := by decide +kernel
theorem dX9_doesBy_30 : decode cX9_doesBy 30 = .ok (.bipush 8, 2) := by decide +kernel
theorem dX9_doesBy_32 : decode cX9_doesBy 32 = .ok (.irem, 1) := by decide +kernel
theorem dX9_doesBy_33 : decode cX9_doesBy 33 = .ok (.iadd, 1) := by decide +kernel
theorem dX9_doesBy_34 : decode cX9_doesBy 34 = .ok (.istore 4, 2) := by decide +kernel
theorem dX9_doesBy_36 : decode cX9_doesBy 36 = .ok (.iload 4, 2) := by decide +kernel
theorem dX9_doesBy_38 : decode cX9_doesBy 38 = .ok (.bipush 40, 2) := by decide +kernel
theorem dX9_doesBy_40 : decode cX9_doesBy 40 = .ok (.if_icmp .le 8, 3) := by decide +kernel
theorem dX9_doesBy_43 : decode cX9_doesBy 43 = .ok (.bipush 40, 2) := by decide +kernel
theorem dX9_doesBy_45 : decode cX9_doesBy 45 = .ok (.goto 5, 3) := by decide +kernel
theorem dX9_doesBy_48 : decode cX9_doesBy 48 = .ok (.iload 4, 2) := by decide +kernel
theorem dX9_doesBy_50 : decode cX9_doesBy 50 = .ok (.istore 4, 2) := by decide +kernel
theorem dX9_doesBy_52 : decode cX9_doesBy 52 = .ok (.aload_n 0, 1) := by decide +kernel
theorem dX9_doesBy_53 : decode cX9_doesBy 53 = .ok (.bipush 51, 2) := by decide +kernel
theorem dX9_doesBy_55 : decode cX9_doesBy 55 = .ok (.iload_n 2, 1) := by decide +kernel
theorem dX9_doesBy_56 : decode cX9_doesBy 56 = .ok (.iload 4, 2) := by decide +kernel
theorem dX9_doesBy_58 : decode cX9_doesBy 58 = .ok (.invokevirtual 168, 3) := by decide +kernel
theorem dX9_doesBy_61 : decode cX9_doesBy 61 = .ok (.ifCond .eq 14, 3) := by decide +kernel
theorem dX9_doesBy_64 : decode cX9_doesBy 64 = .ok (.aload_n 0, 1) := by decide +kernel
theorem dX9_doesBy_65 : decode cX9_doesBy 65 = .ok (.getfield 7, 3) := by decide +kernel
theorem dX9_doesBy_68 : decode cX9_doesBy 68 = .ok (.bipush 60, 2) := by decide +kernel
theorem dX9_doesBy_70 : decode cX9_doesBy 70 = .ok (.iload_n 2, 1) := by decide +kernel
theorem dX9_doesBy_71 : decode cX9_doesBy 71 = .ok (.iadd, 1) := by decide +kernel
theorem dX9_doesBy_72 : decode cX9_doesBy 72 = .ok (.iload 4, 2) := by decide +kernel
theorem dX9_doesBy_74 : decode cX9_doesBy 74 = .ok (.iastore, 1) := by decide +kernel
theorem dX9_doesBy_75 : decode cX9_doesBy 75 = .ok (.goto 70, 3) := by decide +kernel
theorem dX9_doesBy_78 : decode cX9_doesBy 78 = .ok (.iload_n 3, 1) := by decide +kernel
theorem dX9_doesBy_79 : decode cX9_doesBy 79 = .ok (.iconst 1, 1) := by decide +kernel
theorem dX9_doesBy_80 : decode cX9_doesBy 80 = .ok (.if_icmp .ne 28, 3) := by decide +kernel
theorem dX9_doesBy_83 : decode cX9_doesBy 83 = .ok (.aload_n 0, 1) := by decide +kernel
theorem dX9_doesBy_84 : decode cX9_doesBy 84 = .ok (.getfield 7, 3) := by decide +kernel
theorem dX9_doesBy_87 : decode cX9_doesBy 87 = .ok (.bipush 53, 2) := by decide +kernel
theorem dX9_doesBy_89 : decode cX9_doesBy 89 = .ok (.iload_n 2, 1) := by decide +kernel
theorem dX9_doesBy_90 : decode cX9_doesBy 90 = .ok (.iadd, 1) := by decide +kernel
theorem dX9_doesBy_91 : decode cX9_doesBy 91 = .ok (.iaload, 1) := by decide +kernel
theorem dX9_doesBy_92 : decode cX9_doesBy 92 = .ok (.ifCond .ne 53, 3) := by decide +kernel
theorem dX9_doesBy_95 : decode cX9_doesBy 95 = .ok (.aload_n 0, 1) := by decide +kernel
theorem dX9_doesBy_96 : decode cX9_doesBy 96 = .ok (.getfield 7, 3) := by decide +kernel
theorem dX9_doesBy_99 : decode cX9_doesBy 99 = .ok (.bipush 53, 2) := by decide +kernel
theorem dX9_doesBy_101 : decode cX9_doesBy 101 = .ok (.iload_n 2, 1) := by decide +kernel
theorem dX9_doesBy_102 : decode cX9_doesBy 102 = .ok (.iadd, 1) := by decide +kernel
theorem dX9_doesBy_103 : decode cX9_doesBy 103 = .ok (.iconst 3, 1) := by decide +kernel
theorem dX9_doesBy_104 : decode cX9_doesBy 104 = .ok (.iastore, 1) := by decide +kernel
theorem dX9_doesBy_105 : decode cX9_doesBy 105 = .ok (.goto 40, 3) := by decide +kernel
theorem dX9_doesBy_108 : decode cX9_doesBy 108 = .ok (.iload_n 3, 1) := by decide +kernel
theorem dX9_doesBy_109 : decode cX9_doesBy 109 = .ok (.iconst 2, 1) := by decide +kernel
theorem dX9_doesBy_110 : decode cX9_doesBy 110 = .ok (.if_icmp .ne 35, 3) := by decide +kernel
theorem dX9_doesBy_113 : decode cX9_doesBy 113 = .ok (.iload_n 1, 1) := by decide +kernel
theorem dX9_doesBy_114 : decode cX9_doesBy 114 = .ok (.bipush 64, 2) := by decide +kernel
theorem dX9_doesBy_116 : decode cX9_doesBy 116 = .ok (.idiv, 1) := by decide +kernel
theorem dX9_doesBy_117 : decode cX9_doesBy 117 = .ok (.aload_n 0, 1) := by decide +kernel
theorem dX9_doesBy_118 : decode cX9_doesBy 118 = .ok (.getfield 69, 3) := by decide +kernel
theorem dX9_doesBy_121 : decode cX9_doesBy 121 = .ok (.irem, 1) := by decide +kernel
theorem dX9_doesBy_122 : decode cX9_doesBy 122 = .ok (.istore 4, 2) := by decide +kernel
theorem dX9_doesBy_124 : decode cX9_doesBy 124 = .ok (.aload_n 0, 1) := by decide +kernel
theorem dX9_doesBy_125 : decode cX9_doesBy 125 = .ok (.bipush 51, 2) := by decide +kernel
theorem dX9_doesBy_127 : decode cX9_doesBy 127 = .ok (.iload_n 2, 1) := by decide +kernel
theorem dX9_doesBy_128 : decode cX9_doesBy 128 = .ok (.iload 4, 2) := by decide +kernel
theorem dX9_doesBy_130 : decode cX9_doesBy 130 = .ok (.invokevirtual 174, 3) := by decide +kernel
theorem dX9_doesBy_133 : decode cX9_doesBy 133 = .ok (.ifCond .eq 12, 3) := by decide +kernel
theorem dX9_doesBy_136 : decode cX9_doesBy 136 = .ok (.aload_n 0, 1) := by decide +kernel
theorem dX9_doesBy_137 : decode cX9_doesBy 137 = .ok (.bipush 51, 2) := by decide +kernel
theorem dX9_doesBy_139 : decode cX9_doesBy 139 = .ok (.iload_n 2, 1) := by decide +kernel
theorem dX9_doesBy_140 : decode cX9_doesBy 140 = .ok (.iload 4, 2) := by decide +kernel
theorem dX9_doesBy_142 : decode cX9_doesBy 142 = .ok (.invokevirtual 177, 3) := by decide +kernel
theorem dX9_doesBy_145 : decode cX9_doesBy 145 = .ok (.return_, 1) := by decide +kernel
theorem dX9_coinsOf_0 : decode cX9_coinsOf 0 = .ok (.iconst 0, 1) := by decide +kernel
theorem dX9_coinsOf_1 : decode cX9_coinsOf 1 = .ok (.istore_n 2, 1) := by decide +kernel
theorem dX9_coinsOf_2 : decode cX9_coinsOf 2 = .ok (.iconst 0, 1) := by decide +kernel
theorem dX9_coinsOf_3 : decode cX9_coinsOf 3 = .ok (.istore_n 3, 1) := by decide +kernel
theorem dX9_coinsOf_4 : decode cX9_coinsOf 4 = .ok (.iload_n 3, 1) := by decide +kernel
theorem dX9_coinsOf_5 : decode cX9_coinsOf 5 = .ok (.aload_n 0, 1) := by decide +kernel
theorem dX9_coinsOf_6 : decode cX9_coinsOf 6 = .ok (.getfield 69, 3) := by decide +kernel
theorem dX9_coinsOf_9 : decode cX9_coinsOf 9 = .ok (.if_icmp .ge 23, 3) := by decide +kernel
theorem dX9_coinsOf_12 : decode cX9_coinsOf 12 = .ok (.iload_n 2, 1) := by decide +kernel
theorem dX9_coinsOf_13 : decode cX9_coinsOf 13 = .ok (.aload_n 0, 1) := by decide +kernel
theorem dX9_coinsOf_14 : decode cX9_coinsOf 14 = .ok (.getfield 7, 3) := by decide +kernel
theorem dX9_coinsOf_17 : decode cX9_coinsOf 17 = .ok (.iload_n 1, 1) := by decide +kernel
theorem dX9_coinsOf_18 : decode cX9_coinsOf 18 = .ok (.bipush 44, 2) := by decide +kernel
theorem dX9_coinsOf_20 : decode cX9_coinsOf 20 = .ok (.iadd, 1) := by decide +kernel
theorem dX9_coinsOf_21 : decode cX9_coinsOf 21 = .ok (.iload_n 3, 1) := by decide +kernel
theorem dX9_coinsOf_22 : decode cX9_coinsOf 22 = .ok (.iadd, 1) := by decide +kernel
theorem dX9_coinsOf_23 : decode cX9_coinsOf 23 = .ok (.iaload, 1) := by decide +kernel
theorem dX9_coinsOf_24 : decode cX9_coinsOf 24 = .ok (.iadd, 1) := by decide +kernel
theorem dX9_coinsOf_25 : decode cX9_coinsOf 25 = .ok (.istore_n 2, 1) := by decide +kernel
theorem dX9_coinsOf_26 : decode cX9_coinsOf 26 = .ok (.iinc 3 1, 3) := by decide +kernel
theorem dX9_coinsOf_29 : decode cX9_coinsOf 29 = .ok (.goto (-25), 3) := by decide +kernel
theorem dX9_coinsOf_32 : decode cX9_coinsOf 32 = .ok (.iload_n 2, 1) := by decide +kernel
theorem dX9_coinsOf_33 : decode cX9_coinsOf 33 = .ok (.ireturn, 1) := by decide +kernel
theorem dX9_season_0 : decode cX9_season 0 = .ok (.iload_n 1, 1) := by decide +kernel
theorem dX9_season_1 : decode cX9_season 1 = .ok (.i2l, 1) := by decide +kernel
theorem dX9_season_2 : decode cX9_season 2 = .ok (.lconst 0, 1) := by decide +kernel
theorem dX9_season_3 : decode cX9_season 3 = .ok (.ldc2_w 209, 3) := by decide +kernel
theorem dX9_season_6 : decode cX9_season 6 = .ok (.invokestatic 73, 3) := by decide +kernel
theorem dX9_season_9 : decode cX9_season 9 = .ok (.ifCond .eq 25, 3) := by decide +kernel
theorem dX9_season_12 : decode cX9_season 12 = .ok (.iload_n 2, 1) := by decide +kernel
theorem dX9_season_13 : decode cX9_season 13 = .ok (.i2l, 1) := by decide +kernel
theorem dX9_season_14 : decode cX9_season 14 = .ok (.lconst 1, 1) := by decide +kernel
theorem dX9_season_15 : decode cX9_season 15 = .ok (.ldc2_w 211, 3) := by decide +kernel
theorem dX9_season_18 : decode cX9_season 18 = .ok (.invokestatic 73, 3) := by decide +kernel
theorem dX9_season_21 : decode cX9_season 21 = .ok (.ifCond .eq 13, 3) := by decide +kernel
theorem dX9_season_24 : decode cX9_season 24 = .ok (.iload_n 3, 1) := by decide +kernel
theorem dX9_season_25 : decode cX9_season 25 = .ok (.i2l, 1) := by decide +kernel
theorem dX9_season_26 : decode cX9_season 26 = .ok (.lconst 0, 1) := by decide +kernel
theorem dX9_season_27 : decode cX9_season 27 = .ok (.lconst 1, 1) := by decide +kernel
theorem dX9_season_28 : decode cX9_season 28 = .ok (.invokestatic 73, 3) := by decide +kernel
theorem dX9_season_31 : decode cX9_season 31 = .ok (.ifCond .ne 5, 3) := by decide +kernel
theorem dX9_season_34 : decode cX9_season 34 = .ok (.iconst (-1), 1) := by decide +kernel
theorem dX9_season_35 : decode cX9_season 35 = .ok (.ireturn, 1) := by decide +kernel
theorem dX9_season_36 : decode cX9_season 36 = .ok (.aload_n 0, 1) := by decide +kernel
theorem dX9_season_37 : decode cX9_season 37 = .ok (.invokevirtual 181, 3) := by decide +kernel
theorem dX9_season_40 : decode cX9_season 40 = .ok (.iconst 0, 1) := by decide +kernel
theorem dX9_season_41 : decode cX9_season 41 = .ok (.istore 4, 2) := by decide +kernel
theorem dX9_season_43 : decode cX9_season 43 = .ok (.iload 4, 2) := by decide +kernel
theorem dX9_season_45 : decode cX9_season 45 = .ok (.iload_n 2, 1) := by decide +kernel
theorem dX9_season_46 : decode cX9_season 46 = .ok (.if_icmp .ge 47, 3) := by decide +kernel
theorem dX9_season_49 : decode cX9_season 49 = .ok (.ldc2_w 213, 3) := by decide +kernel
theorem dX9_season_52 : decode cX9_season 52 = .ok (.iload_n 1, 1) := by decide +kernel
theorem dX9_season_53 : decode cX9_season 53 = .ok (.i2l, 1) := by decide +kernel
theorem dX9_season_54 : decode cX9_season 54 = .ok (.lmul, 1) := by decide +kernel
theorem dX9_season_55 : decode cX9_season 55 = .ok (.ldc2_w 215, 3) := by decide +kernel
theorem dX9_season_58 : decode cX9_season 58 = .ok (.iload 4, 2) := by decide +kernel
theorem dX9_season_60 : decode cX9_season 60 = .ok (.i2l, 1) := by decide +kernel
theorem dX9_season_61 : decode cX9_season 61 = .ok (.lmul, 1) := by decide +kernel
theorem dX9_season_62 : decode cX9_season 62 = .ok (.ladd, 1) := by decide +kernel
theorem dX9_season_63 : decode cX9_season 63 = .ok (.lconst 1, 1) := by decide +kernel
theorem dX9_season_64 : decode cX9_season 64 = .ok (.ladd, 1) := by decide +kernel
theorem dX9_season_65 : decode cX9_season 65 = .ok (.lstore 5, 2) := by decide +kernel
theorem dX9_season_67 : decode cX9_season 67 = .ok (.aload_n 0, 1) := by decide +kernel
theorem dX9_season_68 : decode cX9_season 68 = .ok (.lload 5, 2) := by decide +kernel
theorem dX9_season_70 : decode cX9_season 70 = .ok (.lload 5, 2) := by decide +kernel
theorem dX9_season_72 : decode cX9_season 72 = .ok (.lmul, 1) := by decide +kernel
theorem dX9_season_73 : decode cX9_season 73 = .ok (.ldc2_w 217, 3) := by decide +kernel
theorem dX9_season_76 : decode cX9_season 76 = .ok (.lrem, 1) := by decide +kernel
theorem dX9_season_77 : decode cX9_season 77 = .ok (.l2i, 1) := by decide +kernel
theorem dX9_season_78 : decode cX9_season 78 = .ok (.invokevirtual 219, 3) := by decide +kernel
theorem dX9_season_81 : decode cX9_season 81 = .ok (.aload_n 0, 1) := by decide +kernel
theorem dX9_season_82 : decode cX9_season 82 = .ok (.bipush 51, 2) := by decide +kernel
theorem dX9_season_84 : decode cX9_season 84 = .ok (.invokevirtual 163, 3) := by decide +kernel
theorem dX9_season_87 : decode cX9_season 87 = .ok (.iinc 4 1, 3) := by decide +kernel
theorem dX9_season_90 : decode cX9_season 90 = .ok (.goto (-47), 3) := by decide +kernel
theorem dX9_season_93 : decode cX9_season 93 = .ok (.iload_n 3, 1) := by decide +kernel
theorem dX9_season_94 : decode cX9_season 94 = .ok (.ifCond .ne 13, 3) := by decide +kernel
theorem dX9_season_97 : decode cX9_season 97 = .ok (.aload_n 0, 1) := by decide +kernel
theorem dX9_season_98 : decode cX9_season 98 = .ok (.bipush 51, 2) := by decide +kernel
theorem dX9_season_100 : decode cX9_season 100 = .ok (.iconst 2, 1) := by decide +kernel
theorem dX9_season_101 : decode cX9_season 101 = .ok (.invokevirtual 171, 3) := by decide +kernel
theorem dX9_season_104 : decode cX9_season 104 = .ok (.goto 9, 3) := by decide +kernel
theorem dX9_season_107 : decode cX9_season 107 = .ok (.aload_n 0, 1) := by decide +kernel
theorem dX9_season_108 : decode cX9_season 108 = .ok (.bipush 51, 2) := by decide +kernel
theorem dX9_season_110 : decode cX9_season 110 = .ok (.invokevirtual 222, 3) := by decide +kernel
theorem dX9_season_113 : decode cX9_season 113 = .ok (.ireturn, 1) := by decide +kernel
theorem dX9_keep_0 : decode cX9_keep 0 = .ok (.aload_n 0, 1) := by decide +kernel
theorem dX9_keep_1 : decode cX9_keep 1 = .ok (.getfield 86, 3) := by decide +kernel
theorem dX9_keep_4 : decode cX9_keep 4 = .ok (.iconst 2, 1) := by decide +kernel
theorem dX9_keep_5 : decode cX9_keep 5 = .ok (.if_icmp .ne 6, 3) := by decide +kernel
theorem dX9_keep_8 : decode cX9_keep 8 = .ok (.bipush (-3), 2) := by decide +kernel
theorem dX9_keep_10 : decode cX9_keep 10 = .ok (.ireturn, 1) := by decide +kernel
theorem dX9_keep_11 : decode cX9_keep 11 = .ok (.aload_n 0, 1) := by decide +kernel
theorem dX9_keep_12 : decode cX9_keep 12 = .ok (.iconst 0, 1) := by decide +kernel
theorem dX9_keep_13 : decode cX9_keep 13 = .ok (.bipush 102, 2) := by decide +kernel
theorem dX9_keep_15 : decode cX9_keep 15 = .ok (.bipush 51, 2) := by decide +kernel
theorem dX9_keep_17 : decode cX9_keep 17 = .ok (.aload_n 0, 1) := by decide +kernel
theorem dX9_keep_18 : decode cX9_keep 18 = .ok (.getfield 86, 3) := by decide +kernel
theorem dX9_keep_21 : decode cX9_keep 21 = .ok (.imul, 1) := by decide +kernel
theorem dX9_keep_22 : decode cX9_keep 22 = .ok (.iadd, 1) := by decide +kernel
theorem dX9_keep_23 : decode cX9_keep 23 = .ok (.invokevirtual 155, 3) := by decide +kernel
theorem dX9_keep_26 : decode cX9_keep 26 = .ok (.aload_n 0, 1) := by decide +kernel
theorem dX9_keep_27 : decode cX9_keep 27 = .ok (.dup, 1) := by decide +kernel
theorem dX9_keep_28 : decode cX9_keep 28 = .ok (.getfield 86, 3) := by decide +kernel
theorem dX9_keep_31 : decode cX9_keep 31 = .ok (.iconst 1, 1) := by decide +kernel
theorem dX9_keep_32 : decode cX9_keep 32 = .ok (.iadd, 1) := by decide +kernel
theorem dX9_keep_33 : decode cX9_keep 33 = .ok (.putfield 86, 3) := by decide +kernel
theorem dX9_keep_36 : decode cX9_keep 36 = .ok (.aload_n 0, 1) := by decide +kernel
theorem dX9_keep_37 : decode cX9_keep 37 = .ok (.getfield 86, 3) := by decide +kernel
theorem dX9_keep_40 : decode cX9_keep 40 = .ok (.ireturn, 1) := by decide +kernel
theorem dX9_back_0 : decode cX9_back 0 = .ok (.aload_n 0, 1) := by decide +kernel
theorem dX9_back_1 : decode cX9_back 1 = .ok (.getfield 86, 3) := by decide +kernel
theorem dX9_back_4 : decode cX9_back 4 = .ok (.ifCond .ne 6, 3) := by decide +kernel
theorem dX9_back_7 : decode cX9_back 7 = .ok (.bipush (-2), 2) := by decide +kernel
theorem dX9_back_9 : decode cX9_back 9 = .ok (.ireturn, 1) := by decide +kernel
theorem dX9_back_10 : decode cX9_back 10 = .ok (.aload_n 0, 1) := by decide +kernel
theorem dX9_back_11 : decode cX9_back 11 = .ok (.dup, 1) := by decide +kernel
theorem dX9_back_12 : decode cX9_back 12 = .ok (.getfield 86, 3) := by decide +kernel
theorem dX9_back_15 : decode cX9_back 15 = .ok (.iconst 1, 1) := by decide +kernel
theorem dX9_back_16 : decode cX9_back 16 = .ok (.isub, 1) := by decide +kernel
theorem dX9_back_17 : decode cX9_back 17 = .ok (.putfield 86, 3) := by decide +kernel
theorem dX9_back_20 : decode cX9_back 20 = .ok (.aload_n 0, 1) := by decide +kernel
theorem dX9_back_21 : decode cX9_back 21 = .ok (.bipush 102, 2) := by decide +kernel
theorem dX9_back_23 : decode cX9_back 23 = .ok (.bipush 51, 2) := by decide +kernel
theorem dX9_back_25 : decode cX9_back 25 = .ok (.aload_n 0, 1) := by decide +kernel
theorem dX9_back_26 : decode cX9_back 26 = .ok (.getfield 86, 3) := by decide +kernel
theorem dX9_back_29 : decode cX9_back 29 = .ok (.imul, 1) := by decide +kernel
theorem dX9_back_30 : decode cX9_back 30 = .ok (.iadd, 1) := by decide +kernel
theorem dX9_back_31 : decode cX9_back 31 = .ok (.iconst 0, 1) := by decide +kernel
theorem dX9_back_32 : decode cX9_back 32 = .ok (.invokevirtual 155, 3) := by decide +kernel
theorem dX9_back_35 : decode cX9_back 35 = .ok (.aload_n 0, 1) := by decide +kernel
theorem dX9_back_36 : decode cX9_back 36 = .ok (.iconst 0, 1) := by decide +kernel
theorem dX9_back_37 : decode cX9_back 37 = .ok (.putfield 83, 3) := by decide +kernel
theorem dX9_back_40 : decode cX9_back 40 = .ok (.aload_n 0, 1) := by decide +kernel
theorem dX9_back_41 : decode cX9_back 41 = .ok (.getfield 86, 3) := by decide +kernel
theorem dX9_back_44 : decode cX9_back 44 = .ok (.ireturn, 1) := by decide +kernel
theorem dX9_allToDo_0 : decode cX9_allToDo 0 = .ok (.iconst 0, 1) := by decide +kernel
theorem dX9_allToDo_1 : decode cX9_allToDo 1 = .ok (.istore_n 1, 1) := by decide +kernel
theorem dX9_allToDo_2 : decode cX9_allToDo 2 = .ok (.iconst 0, 1) := by decide +kernel
theorem dX9_allToDo_3 : decode cX9_allToDo 3 = .ok (.istore_n 2, 1) := by decide +kernel
theorem dX9_allToDo_4 : decode cX9_allToDo 4 = .ok (.iload_n 2, 1) := by decide +kernel
theorem dX9_allToDo_5 : decode cX9_allToDo 5 = .ok (.aload_n 0, 1) := by decide +kernel
theorem dX9_allToDo_6 : decode cX9_allToDo 6 = .ok (.getfield 69, 3) := by decide +kernel
theorem dX9_allToDo_9 : decode cX9_allToDo 9 = .ok (.if_icmp .ge 21, 3) := by decide +kernel
theorem dX9_allToDo_12 : decode cX9_allToDo 12 = .ok (.iload_n 1, 1) := by decide +kernel
theorem dX9_allToDo_13 : decode cX9_allToDo 13 = .ok (.aload_n 0, 1) := by decide +kernel
theorem dX9_allToDo_14 : decode cX9_allToDo 14 = .ok (.getfield 7, 3) := by decide +kernel
theorem dX9_allToDo_17 : decode cX9_allToDo 17 = .ok (.bipush 23, 2) := by decide +kernel
theorem dX9_allToDo_19 : decode cX9_allToDo 19 = .ok (.iload_n 2, 1) := by decide +kernel
theorem dX9_allToDo_20 : decode cX9_allToDo 20 = .ok (.iadd, 1) := by decide +kernel
theorem dX9_allToDo_21 : decode cX9_allToDo 21 = .ok (.iaload, 1) := by decide +kernel
theorem dX9_allToDo_22 : decode cX9_allToDo 22 = .ok (.iadd, 1) := by decide +kernel
theorem dX9_allToDo_23 : decode cX9_allToDo 23 = .ok (.istore_n 1, 1) := by decide +kernel
theorem dX9_allToDo_24 : decode cX9_allToDo 24 = .ok (.iinc 2 1, 3) := by decide +kernel
theorem dX9_allToDo_27 : decode cX9_allToDo 27 = .ok (.goto (-23), 3) := by decide +kernel
theorem dX9_allToDo_30 : decode cX9_allToDo 30 = .ok (.iload_n 1, 1) := by decide +kernel
theorem dX9_allToDo_31 : decode cX9_allToDo 31 = .ok (.ireturn, 1) := by decide +kernel
theorem dX9_count_0 : decode cX9_count 0 = .ok (.iload_n 1, 1) := by decide +kernel
theorem dX9_count_1 : decode cX9_count 1 = .ok (.tableswitch 145 0 12 #[67, 72, 79, 86, 93, 100, 107, 114, 120, 125, 130, 135, 140], 67) := by decide +kernel
theorem dX9_count_68 : decode cX9_count 68 = .ok (.aload_n 0, 1) := by decide +kernel
theorem dX9_count_69 : decode cX9_count 69 = .ok (.getfield 69, 3) := by decide +kernel
theorem dX9_count_72 : decode cX9_count 72 = .ok (.ireturn, 1) := by decide +kernel
theorem dX9_count_73 : decode cX9_count 73 = .ok (.aload_n 0, 1) := by decide +kernel
theorem dX9_count_74 : decode cX9_count 74 = .ok (.getfield 7, 3) := by decide +kernel
theorem dX9_count_77 : decode cX9_count 77 = .ok (.iconst 0, 1) := by decide +kernel
theorem dX9_count_78 : decode cX9_count 78 = .ok (.iaload, 1) := by decide +kernel
theorem dX9_count_79 : decode cX9_count 79 = .ok (.ireturn, 1) := by decide +kernel
theorem dX9_count_80 : decode cX9_count 80 = .ok (.aload_n 0, 1) := by decide +kernel
theorem dX9_count_81 : decode cX9_count 81 = .ok (.iconst 0, 1) := by decide +kernel
theorem dX9_count_82 : decode cX9_count 82 = .ok (.iconst 0, 1) := by decide +kernel
theorem dX9_count_83 : decode cX9_count 83 = .ok (.invokevirtual 171, 3) := by decide +kernel
theorem dX9_count_86 : decode cX9_count 86 = .ok (.ireturn, 1) := by decide +kernel
theorem dX9_count_87 : decode cX9_count 87 = .ok (.aload_n 0, 1) := by decide +kernel
theorem dX9_count_88 : decode cX9_count 88 = .ok (.iconst 0, 1) := by decide +kernel
theorem dX9_count_89 : decode cX9_count 89 = .ok (.iconst 1, 1) := by decide +kernel
theorem dX9_count_90 : decode cX9_count 90 = .ok (.invokevirtual 171, 3) := by decide +kernel
theorem dX9_count_93 : decode cX9_count 93 = .ok (.ireturn, 1) := by decide +kernel
theorem dX9_count_94 : decode cX9_count 94 = .ok (.aload_n 0, 1) := by decide +kernel
theorem dX9_count_95 : decode cX9_count 95 = .ok (.iconst 0, 1) := by decide +kernel
theorem dX9_count_96 : decode cX9_count 96 = .ok (.iconst 2, 1) := by decide +kernel
theorem dX9_count_97 : decode cX9_count 97 = .ok (.invokevirtual 171, 3) := by decide +kernel
theorem dX9_count_100 : decode cX9_count 100 = .ok (.ireturn, 1) := by decide +kernel
theorem dX9_count_101 : decode cX9_count 101 = .ok (.aload_n 0, 1) := by decide +kernel
theorem dX9_count_102 : decode cX9_count 102 = .ok (.iconst 0, 1) := by decide +kernel
theorem dX9_count_103 : decode cX9_count 103 = .ok (.iconst 3, 1) := by decide +kernel
theorem dX9_count_104 : decode cX9_count 104 = .ok (.invokevirtual 171, 3) := by decide +kernel
theorem dX9_count_107 : decode cX9_count 107 = .ok (.ireturn, 1) := by decide +kernel
theorem dX9_count_108 : decode cX9_count 108 = .ok (.aload_n 0, 1) := by decide +kernel
theorem dX9_count_109 : decode cX9_count 109 = .ok (.getfield 7, 3) := by decide +kernel
theorem dX9_count_112 : decode cX9_count 112 = .ok (.iconst 1, 1) := by decide +kernel
theorem dX9_count_113 : decode cX9_count 113 = .ok (.iaload, 1) := by decide +kernel
theorem dX9_count_114 : decode cX9_count 114 = .ok (.ireturn, 1) := by decide +kernel
theorem dX9_count_115 : decode cX9_count 115 = .ok (.aload_n 0, 1) := by decide +kernel
theorem dX9_count_116 : decode cX9_count 116 = .ok (.iconst 0, 1) := by decide +kernel
theorem dX9_count_117 : decode cX9_count 117 = .ok (.invokevirtual 222, 3) := by decide +kernel
theorem dX9_count_120 : decode cX9_count 120 = .ok (.ireturn, 1) := by decide +kernel
theorem dX9_count_121 : decode cX9_count 121 = .ok (.aload_n 0, 1) := by decide +kernel
theorem dX9_count_122 : decode cX9_count 122 = .ok (.invokevirtual 225, 3) := by decide +kernel
theorem dX9_count_125 : decode cX9_count 125 = .ok (.ireturn, 1) := by decide +kernel
theorem dX9_count_126 : decode cX9_count 126 = .ok (.aload_n 0, 1) := by decide +kernel
theorem dX9_count_127 : decode cX9_count 127 = .ok (.getfield 89, 3) := by decide +kernel
theorem dX9_count_130 : decode cX9_count 130 = .ok (.ireturn, 1) := by decide +kernel
theorem dX9_count_131 : decode cX9_count 131 = .ok (.aload_n 0, 1) := by decide +kernel
theorem dX9_count_132 : decode cX9_count 132 = .ok (.getfield 83, 3) := by decide +kernel
theorem dX9_count_135 : decode cX9_count 135 = .ok (.ireturn, 1) := by decide +kernel
theorem dX9_count_136 : decode cX9_count 136 = .ok (.aload_n 0, 1) := by decide +kernel
theorem dX9_count_137 : decode cX9_count 137 = .ok (.getfield 86, 3) := by decide +kernel
theorem dX9_count_140 : decode cX9_count 140 = .ok (.ireturn, 1) := by decide +kernel
theorem dX9_count_141 : decode cX9_count 141 = .ok (.aload_n 0, 1) := by decide +kernel
theorem dX9_count_142 : decode cX9_count 142 = .ok (.getfield 96, 3) := by decide +kernel
theorem dX9_count_145 : decode cX9_count 145 = .ok (.ireturn, 1) := by decide +kernel
theorem dX9_count_146 : decode cX9_count 146 = .ok (.iconst (-1), 1) := by decide +kernel
theorem dX9_count_147 : decode cX9_count 147 = .ok (.ireturn, 1) := by decide +kernel
theorem dJ9_max_7cf53_0 : decode cJ9_max_7cf53 0 = .ok (.iload_n 0, 1) := by decide +kernel
theorem dJ9_max_7cf53_1 : decode cJ9_max_7cf53 1 = .ok (.iload_n 1, 1) := by decide +kernel
theorem dJ9_max_7cf53_2 : decode cJ9_max_7cf53 2 = .ok (.if_icmp .lt 7, 3) := by decide +kernel
theorem dJ9_max_7cf53_5 : decode cJ9_max_7cf53 5 = .ok (.iload_n 0, 1) := by decide +kernel
theorem dJ9_max_7cf53_6 : decode cJ9_max_7cf53 6 = .ok (.goto 4, 3) := by decide +kernel
theorem dJ9_max_7cf53_9 : decode cJ9_max_7cf53 9 = .ok (.iload_n 1, 1) := by decide +kernel
theorem dJ9_max_7cf53_10 : decode cJ9_max_7cf53 10 = .ok (.ireturn, 1) := by decide +kernel
theorem dJ9_min_7cf53_0 : decode cJ9_min_7cf53 0 = .ok (.iload_n 0, 1) := by decide +kernel
theorem dJ9_min_7cf53_1 : decode cJ9_min_7cf53 1 = .ok (.iload_n 1, 1) := by decide +kernel
theorem dJ9_min_7cf53_2 : decode cJ9_min_7cf53 2 = .ok (.if_icmp .gt 7, 3) := by decide +kernel
theorem dJ9_min_7cf53_5 : decode cJ9_min_7cf53 5 = .ok (.iload_n 0, 1) := by decide +kernel
theorem dJ9_min_7cf53_6 : decode cJ9_min_7cf53 6 = .ok (.goto 4, 3) := by decide +kernel
theorem dJ9_min_7cf53_9 : decode cJ9_min_7cf53 9 = .ok (.iload_n 1, 1) := by decide +kernel
theorem dJ9_min_7cf53_10 : decode cJ9_min_7cf53 10 = .ok (.ireturn, 1) := by decide +kernel
theorem dJ0_length_8abf5_0 : decode cJ0_length_8abf5 0 = .ok (.aload_n 0, 1) := by decide +kernel
theorem dJ0_length_8abf5_1 : decode cJ0_length_8abf5 1 = .ok (.getfield 9, 3) := by decide +kernel
theorem dJ0_length_8abf5_4 : decode cJ0_length_8abf5 4 = .ok (.arraylength, 1) := by decide +kernel
theorem dJ0_length_8abf5_5 : decode cJ0_length_8abf5 5 = .ok (.aload_n 0, 1) := by decide +kernel
theorem dJ0_length_8abf5_6 : decode cJ0_length_8abf5 6 = .ok (.invokevirtual 335, 3) := by decide +kernel
theorem dJ0_length_8abf5_9 : decode cJ0_length_8abf5 9 = .ok (.ishr, 1) := by decide +kernel
theorem dJ0_length_8abf5_10 : decode cJ0_length_8abf5 10 = .ok (.ireturn, 1) := by decide +kernel
theorem dJ0_charAt_5068e_0 : decode cJ0_charAt_5068e 0 = .ok (.aload_n 0, 1) := by decide +kernel
theorem dJ0_charAt_5068e_1 : decode cJ0_charAt_5068e 1 = .ok (.invokevirtual 492, 3) := by decide +kernel
theorem dJ0_charAt_5068e_4 : decode cJ0_charAt_5068e 4 = .ok (.ifCond .eq 12, 3) := by decide +kernel
theorem dJ0_charAt_5068e_7 : decode cJ0_charAt_5068e 7 = .ok (.aload_n 0, 1) := by decide +kernel
theorem dJ0_charAt_5068e_8 : decode cJ0_charAt_5068e 8 = .ok (.getfield 9, 3) := by decide +kernel
theorem dJ0_charAt_5068e_11 : decode cJ0_charAt_5068e 11 = .ok (.iload_n 1, 1) := by decide +kernel
theorem dJ0_charAt_5068e_12 : decode cJ0_charAt_5068e 12 = .ok (.invokestatic 495, 3) := by decide +kernel
theorem dJ0_charAt_5068e_15 : decode cJ0_charAt_5068e 15 = .ok (.ireturn, 1) := by decide +kernel
theorem dJ0_charAt_5068e_16 : decode cJ0_charAt_5068e 16 = .ok (.aload_n 0, 1) := by decide +kernel
theorem dJ0_charAt_5068e_17 : decode cJ0_charAt_5068e 17 = .ok (.getfield 9, 3) := by decide +kernel
theorem dJ0_charAt_5068e_20 : decode cJ0_charAt_5068e 20 = .ok (.iload_n 1, 1) := by decide +kernel
theorem dJ0_charAt_5068e_21 : decode cJ0_charAt_5068e 21 = .ok (.invokestatic 498, 3) := by decide +kernel
theorem dJ0_charAt_5068e_24 : decode cJ0_charAt_5068e 24 = .ok (.ireturn, 1) := by decide +kernel
theorem dJ0_coder_7d493_0 : decode cJ0_coder_7d493 0 = .ok (.getstatic 38, 3) := by decide +kernel
theorem dJ0_coder_7d493_3 : decode cJ0_coder_7d493 3 = .ok (.ifCond .eq 10, 3) := by decide +kernel
theorem dJ0_coder_7d493_6 : decode cJ0_coder_7d493 6 = .ok (.aload_n 0, 1) := by decide +kernel
theorem dJ0_coder_7d493_7 : decode cJ0_coder_7d493 7 = .ok (.getfield 15, 3) := by decide +kernel
theorem dJ0_coder_7d493_10 : decode cJ0_coder_7d493 10 = .ok (.goto 4, 3) := by decide +kernel
theorem dJ0_coder_7d493_13 : decode cJ0_coder_7d493 13 = .ok (.iconst 1, 1) := by decide +kernel
theorem dJ0_coder_7d493_14 : decode cJ0_coder_7d493 14 = .ok (.ireturn, 1) := by decide +kernel
theorem dJ0_isLatin1_aae02_0 : decode cJ0_isLatin1_aae02 0 = .ok (.getstatic 38, 3) := by decide +kernel
theorem dJ0_isLatin1_aae02_3 : decode cJ0_isLatin1_aae02 3 = .ok (.ifCond .eq 14, 3) := by decide +kernel
theorem dJ0_isLatin1_aae02_6 : decode cJ0_isLatin1_aae02 6 = .ok (.aload_n 0, 1) := by decide +kernel
theorem dJ0_isLatin1_aae02_7 : decode cJ0_isLatin1_aae02 7 = .ok (.getfield 15, 3) := by decide +kernel
theorem dJ0_isLatin1_aae02_10 : decode cJ0_isLatin1_aae02 10 = .ok (.ifCond .ne 7, 3) := by decide +kernel
theorem dJ0_isLatin1_aae02_13 : decode cJ0_isLatin1_aae02 13 = .ok (.iconst 1, 1) := by decide +kernel
theorem dJ0_isLatin1_aae02_14 : decode cJ0_isLatin1_aae02 14 = .ok (.goto 4, 3) := by decide +kernel
theorem dJ0_isLatin1_aae02_17 : decode cJ0_isLatin1_aae02 17 = .ok (.iconst 0, 1) := by decide +kernel
theorem dJ0_isLatin1_aae02_18 : decode cJ0_isLatin1_aae02 18 = .ok (.ireturn, 1) := by decide +kernel
theorem dJ0_checkIndex_df160_0 : decode cJ0_checkIndex_df160 0 = .ok (.iload_n 0, 1) := by decide +kernel
theorem dJ0_checkIndex_df160_1 : decode cJ0_checkIndex_df160 1 = .ok (.iload_n 1, 1) := by decide +kernel
theorem dJ0_checkIndex_df160_2 : decode cJ0_checkIndex_df160 2 = .ok (.getstatic 1053, 3) := by decide +kernel
theorem dJ0_checkIndex_df160_5 : decode cJ0_checkIndex_df160 5 = .ok (.invokestatic 1059, 3) := by decide +kernel
theorem dJ0_checkIndex_df160_8 : decode cJ0_checkIndex_df160 8 = .ok (.pop, 1) := by decide +kernel
theorem dJ0_checkIndex_df160_9 : decode cJ0_checkIndex_df160 9 = .ok (.return_, 1) := by decide +kernel
theorem dJ1_charAt_3b067_0 : decode cJ1_charAt_3b067 0 = .ok (.iload_n 1, 1) := by decide +kernel
theorem dJ1_charAt_3b067_1 : decode cJ1_charAt_3b067 1 = .ok (.aload_n 0, 1) := by decide +kernel
theorem dJ1_charAt_3b067_2 : decode cJ1_charAt_3b067 2 = .ok (.arraylength, 1) := by decide +kernel
theorem dJ1_charAt_3b067_3 : decode cJ1_charAt_3b067 3 = .ok (.invokestatic 9, 3) := by decide +kernel
theorem dJ1_charAt_3b067_6 : decode cJ1_charAt_3b067 6 = .ok (.aload_n 0, 1) := by decide +kernel
theorem dJ1_charAt_3b067_7 : decode cJ1_charAt_3b067 7 = .ok (.iload_n 1, 1) := by decide +kernel
theorem dJ1_charAt_3b067_8 : decode cJ1_charAt_3b067 8 = .ok (.baload, 1) := by decide +kernel
theorem dJ1_charAt_3b067_9 : decode cJ1_charAt_3b067 9 = .ok (.sipush 255, 3) := by decide +kernel
theorem dJ1_charAt_3b067_12 : decode cJ1_charAt_3b067 12 = .ok (.iand, 1) := by decide +kernel
theorem dJ1_charAt_3b067_13 : decode cJ1_charAt_3b067 13 = .ok (.i2c, 1) := by decide +kernel
theorem dJ1_charAt_3b067_14 : decode cJ1_charAt_3b067 14 = .ok (.ireturn, 1) := by decide +kernel
theorem dJ2_getChar_3b067_0 : decode cJ2_getChar_3b067 0 = .ok (.getstatic 44, 3) := by decide +kernel
theorem dJ2_getChar_3b067_3 : decode cJ2_getChar_3b067 3 = .ok (.ifCond .ne 25, 3) := by decide +kernel
theorem dJ2_getChar_3b067_6 : decode cJ2_getChar_3b067 6 = .ok (.iload_n 1, 1) := by decide +kernel
theorem dJ2_getChar_3b067_7 : decode cJ2_getChar_3b067 7 = .ok (.ifCond .lt 11, 3) := by decide +kernel
theorem dJ2_getChar_3b067_10 : decode cJ2_getChar_3b067 10 = .ok (.iload_n 1, 1) := by decide +kernel
theorem dJ2_getChar_3b067_11 : decode cJ2_getChar_3b067 11 = .ok (.aload_n 0, 1) := by decide +kernel
theorem dJ2_getChar_3b067_12 : decode cJ2_getChar_3b067 12 = .ok (.invokestatic 48, 3) := by decide +kernel
theorem dJ2_getChar_3b067_15 : decode cJ2_getChar_3b067 15 = .ok (.if_icmp .lt 13, 3) := by decide +kernel
theorem dJ2_getChar_3b067_18 : decode cJ2_getChar_3b067 18 = .ok (.new 52, 3) := by decide +kernel
theorem dJ2_getChar_3b067_21 : decode cJ2_getChar_3b067 21 = .ok (.dup, 1) := by decide +kernel
theorem dJ2_getChar_3b067_22 : decode cJ2_getChar_3b067 22 = .ok (.ldc 54, 2) := by decide +kernel
theorem dJ2_getChar_3b067_24 : decode cJ2_getChar_3b067 24 = .ok (.invokespecial 56, 3) := by decide +kernel
theorem dJ2_getChar_3b067_27 : decode cJ2_getChar_3b067 27 = .ok (.athrow, 1) := by decide +kernel
theorem dJ2_getChar_3b067_28 : decode cJ2_getChar_3b067 28 = .ok (.iload_n 1, 1) := by decide +kernel
theorem dJ2_getChar_3b067_29 : decode cJ2_getChar_3b067 29 = .ok (.iconst 1, 1) := by decide +kernel
theorem dJ2_getChar_3b067_30 : decode cJ2_getChar_3b067 30 = .ok (.ishl, 1) := by decide +kernel
theorem dJ2_getChar_3b067_31 : decode cJ2_getChar_3b067 31 = .ok (.istore_n 1, 1) := by decide +kernel
theorem dJ2_getChar_3b067_32 : decode cJ2_getChar_3b067 32 = .ok (.aload_n 0, 1) := by decide +kernel
theorem dJ2_getChar_3b067_33 : decode cJ2_getChar_3b067 33 = .ok (.iload_n 1, 1) := by decide +kernel
theorem dJ2_getChar_3b067_34 : decode cJ2_getChar_3b067 34 = .ok (.iinc 1 1, 3) := by decide +kernel
theorem dJ2_getChar_3b067_37 : decode cJ2_getChar_3b067 37 = .ok (.baload, 1) := by decide +kernel
theorem dJ2_getChar_3b067_38 : decode cJ2_getChar_3b067 38 = .ok (.sipush 255, 3) := by decide +kernel
theorem dJ2_getChar_3b067_41 : decode cJ2_getChar_3b067 41 = .ok (.iand, 1) := by decide +kernel
theorem dJ2_getChar_3b067_42 : decode cJ2_getChar_3b067 42 = .ok (.getstatic 59, 3) := by decide +kernel
theorem dJ2_getChar_3b067_45 : decode cJ2_getChar_3b067 45 = .ok (.ishl, 1) := by decide +kernel
theorem dJ2_getChar_3b067_46 : decode cJ2_getChar_3b067 46 = .ok (.aload_n 0, 1) := by decide +kernel
theorem dJ2_getChar_3b067_47 : decode cJ2_getChar_3b067 47 = .ok (.iload_n 1, 1) := by decide +kernel
theorem dJ2_getChar_3b067_48 : decode cJ2_getChar_3b067 48 = .ok (.baload, 1) := by decide +kernel
theorem dJ2_getChar_3b067_49 : decode cJ2_getChar_3b067 49 = .ok (.sipush 255, 3) := by decide +kernel
theorem dJ2_getChar_3b067_52 : decode cJ2_getChar_3b067 52 = .ok (.iand, 1) := by decide +kernel
theorem dJ2_getChar_3b067_53 : decode cJ2_getChar_3b067 53 = .ok (.getstatic 63, 3) := by decide +kernel
theorem dJ2_getChar_3b067_56 : decode cJ2_getChar_3b067 56 = .ok (.ishl, 1) := by decide +kernel
theorem dJ2_getChar_3b067_57 : decode cJ2_getChar_3b067 57 = .ok (.ior, 1) := by decide +kernel
theorem dJ2_getChar_3b067_58 : decode cJ2_getChar_3b067 58 = .ok (.i2c, 1) := by decide +kernel
theorem dJ2_getChar_3b067_59 : decode cJ2_getChar_3b067 59 = .ok (.ireturn, 1) := by decide +kernel
theorem dJ2_length_9d52b_0 : decode cJ2_length_9d52b 0 = .ok (.aload_n 0, 1) := by decide +kernel
theorem dJ2_length_9d52b_1 : decode cJ2_length_9d52b 1 = .ok (.arraylength, 1) := by decide +kernel
theorem dJ2_length_9d52b_2 : decode cJ2_length_9d52b 2 = .ok (.iconst 1, 1) := by decide +kernel
theorem dJ2_length_9d52b_3 : decode cJ2_length_9d52b 3 = .ok (.ishr, 1) := by decide +kernel
theorem dJ2_length_9d52b_4 : decode cJ2_length_9d52b 4 = .ok (.ireturn, 1) := by decide +kernel
theorem dJ2_charAt_3b067_0 : decode cJ2_charAt_3b067 0 = .ok (.iload_n 1, 1) := by decide +kernel
theorem dJ2_charAt_3b067_1 : decode cJ2_charAt_3b067 1 = .ok (.aload_n 0, 1) := by decide +kernel
theorem dJ2_charAt_3b067_2 : decode cJ2_charAt_3b067 2 = .ok (.invokestatic 67, 3) := by decide +kernel
theorem dJ2_charAt_3b067_5 : decode cJ2_charAt_3b067 5 = .ok (.aload_n 0, 1) := by decide +kernel
theorem dJ2_charAt_3b067_6 : decode cJ2_charAt_3b067 6 = .ok (.iload_n 1, 1) := by decide +kernel
theorem dJ2_charAt_3b067_7 : decode cJ2_charAt_3b067 7 = .ok (.invokestatic 71, 3) := by decide +kernel
theorem dJ2_charAt_3b067_10 : decode cJ2_charAt_3b067 10 = .ok (.ireturn, 1) := by decide +kernel
theorem dJ2_checkIndex_2214a_0 : decode cJ2_checkIndex_2214a 0 = .ok (.iload_n 0, 1) := by decide +kernel
theorem dJ2_checkIndex_2214a_1 : decode cJ2_checkIndex_2214a 1 = .ok (.aload_n 1, 1) := by decide +kernel
theorem dJ2_checkIndex_2214a_2 : decode cJ2_checkIndex_2214a 2 = .ok (.invokestatic 48, 3) := by decide +kernel
theorem dJ2_checkIndex_2214a_5 : decode cJ2_checkIndex_2214a 5 = .ok (.invokestatic 414, 3) := by decide +kernel
theorem dJ2_checkIndex_2214a_8 : decode cJ2_checkIndex_2214a 8 = .ok (.return_, 1) := by decide +kernel
theorem dJ3_checkIndex_8e157_0 : decode cJ3_checkIndex_8e157 0 = .ok (.iload_n 0, 1) := by decide +kernel
theorem dJ3_checkIndex_8e157_1 : decode cJ3_checkIndex_8e157 1 = .ok (.ifCond .lt 8, 3) := by decide +kernel
theorem dJ3_checkIndex_8e157_4 : decode cJ3_checkIndex_8e157 4 = .ok (.iload_n 0, 1) := by decide +kernel
theorem dJ3_checkIndex_8e157_5 : decode cJ3_checkIndex_8e157 5 = .ok (.iload_n 1, 1) := by decide +kernel
theorem dJ3_checkIndex_8e157_6 : decode cJ3_checkIndex_8e157 6 = .ok (.if_icmp .lt 10, 3) := by decide +kernel
theorem dJ3_checkIndex_8e157_9 : decode cJ3_checkIndex_8e157 9 = .ok (.aload_n 2, 1) := by decide +kernel
theorem dJ3_checkIndex_8e157_10 : decode cJ3_checkIndex_8e157 10 = .ok (.iload_n 0, 1) := by decide +kernel
theorem dJ3_checkIndex_8e157_11 : decode cJ3_checkIndex_8e157 11 = .ok (.iload_n 1, 1) := by decide +kernel
theorem dJ3_checkIndex_8e157_12 : decode cJ3_checkIndex_8e157 12 = .ok (.invokestatic 95, 3) := by decide +kernel
theorem dJ3_checkIndex_8e157_15 : decode cJ3_checkIndex_8e157 15 = .ok (.athrow, 1) := by decide +kernel
theorem dJ3_checkIndex_8e157_16 : decode cJ3_checkIndex_8e157 16 = .ok (.iload_n 0, 1) := by decide +kernel
theorem dJ3_checkIndex_8e157_17 : decode cJ3_checkIndex_8e157 17 = .ok (.ireturn, 1) := by decide +kernel
theorem dL_law_0 : decode cL_law 0 = .ok (.new 7, 3) := by decide +kernel
theorem dL_law_3 : decode cL_law 3 = .ok (.dup, 1) := by decide +kernel
theorem dL_law_4 : decode cL_law 4 = .ok (.invokespecial 9, 3) := by decide +kernel
theorem dL_law_7 : decode cL_law 7 = .ok (.astore_n 1, 1) := by decide +kernel
theorem dL_law_8 : decode cL_law 8 = .ok (.new 10, 3) := by decide +kernel
theorem dL_law_11 : decode cL_law 11 = .ok (.dup, 1) := by decide +kernel
theorem dL_law_12 : decode cL_law 12 = .ok (.invokespecial 12, 3) := by decide +kernel
theorem dL_law_15 : decode cL_law 15 = .ok (.astore_n 2, 1) := by decide +kernel
theorem dL_law_16 : decode cL_law 16 = .ok (.iconst 0, 1) := by decide +kernel
theorem dL_law_17 : decode cL_law 17 = .ok (.istore_n 3, 1) := by decide +kernel
theorem dL_law_18 : decode cL_law 18 = .ok (.iload_n 3, 1) := by decide +kernel
theorem dL_law_19 : decode cL_law 19 = .ok (.aload_n 0, 1) := by decide +kernel
theorem dL_law_20 : decode cL_law 20 = .ok (.arraylength, 1) := by decide +kernel
theorem dL_law_21 : decode cL_law 21 = .ok (.iconst 4, 1) := by decide +kernel
theorem dL_law_22 : decode cL_law 22 = .ok (.isub, 1) := by decide +kernel
theorem dL_law_23 : decode cL_law 23 = .ok (.if_icmp .gt 726, 3) := by decide +kernel
theorem dL_law_26 : decode cL_law 26 = .ok (.aload_n 0, 1) := by decide +kernel
theorem dL_law_27 : decode cL_law 27 = .ok (.iload_n 3, 1) := by decide +kernel
theorem dL_law_28 : decode cL_law 28 = .ok (.iaload, 1) := by decide +kernel
theorem dL_law_29 : decode cL_law 29 = .ok (.bipush 31, 2) := by decide +kernel
theorem dL_law_31 : decode cL_law 31 = .ok (.iand, 1) := by decide +kernel
theorem dL_law_32 : decode cL_law 32 = .ok (.tableswitch 711 0 24 #[116, 139, 152, 165, 178, 211, 244, 267, 300, 323, 356, 369, 392, 415, 448, 461, 484, 507, 540, 553, 576, 619, 662, 675, 688], 116) := by decide +kernel
theorem dL_law_148 : decode cL_law 148 = .ok (.aload_n 1, 1) := by decide +kernel
theorem dL_law_149 : decode cL_law 149 = .ok (.aload_n 0, 1) := by decide +kernel
theorem dL_law_150 : decode cL_law 150 = .ok (.iload_n 3, 1) := by decide +kernel
theorem dL_law_151 : decode cL_law 151 = .ok (.iconst 1, 1) := by decide +kernel
theorem dL_law_152 : decode cL_law 152 = .ok (.iadd, 1) := by decide +kernel
theorem dL_law_153 : decode cL_law 153 = .ok (.iaload, 1) := by decide +kernel
theorem dL_law_154 : decode cL_law 154 = .ok (.invokevirtual 13, 3) := by decide +kernel
theorem dL_law_157 : decode cL_law 157 = .ok (.aload_n 2, 1) := by decide +kernel
theorem dL_law_158 : decode cL_law 158 = .ok (.aload_n 0, 1) := by decide +kernel
theorem dL_law_159 : decode cL_law 159 = .ok (.iload_n 3, 1) := by decide +kernel
theorem dL_law_160 : decode cL_law 160 = .ok (.iconst 1, 1) := by decide +kernel
theorem dL_law_161 : decode cL_law 161 = .ok (.iadd, 1) := by decide +kernel
theorem dL_law_162 : decode cL_law 162 = .ok (.iaload, 1) := by decide +kernel
theorem dL_law_163 : decode cL_law 163 = .ok (.invokevirtual 17, 3) := by decide +kernel
theorem dL_law_166 : decode cL_law 166 = .ok (.if_icmp .eq 577, 3) := by decide +kernel
theorem dL_law_169 : decode cL_law 169 = .ok (.iconst 0, 1) := by decide +kernel
theorem dL_law_170 : decode cL_law 170 = .ok (.ireturn, 1) := by decide +kernel
theorem dL_law_171 : decode cL_law 171 = .ok (.aload_n 1, 1) := by decide +kernel
theorem dL_law_172 : decode cL_law 172 = .ok (.invokevirtual 18, 3) := by decide +kernel
theorem dL_law_175 : decode cL_law 175 = .ok (.aload_n 2, 1) := by decide +kernel
theorem dL_law_176 : decode cL_law 176 = .ok (.invokevirtual 22, 3) := by decide +kernel
theorem dL_law_179 : decode cL_law 179 = .ok (.if_icmp .eq 564, 3) := by decide +kernel
theorem dL_law_182 : decode cL_law 182 = .ok (.iconst 0, 1) := by decide +kernel
theorem dL_law_183 : decode cL_law 183 = .ok (.ireturn, 1) := by decide +kernel
theorem dL_law_184 : decode cL_law 184 = .ok (.aload_n 1, 1) := by decide +kernel
theorem dL_law_185 : decode cL_law 185 = .ok (.invokevirtual 23, 3) := by decide +kernel
theorem dL_law_188 : decode cL_law 188 = .ok (.aload_n 2, 1) := by decide +kernel
theorem dL_law_189 : decode cL_law 189 = .ok (.invokevirtual 26, 3) := by decide +kernel
theorem dL_law_192 : decode cL_law 192 = .ok (.if_icmp .eq 551, 3) := by decide +kernel
theorem dL_law_195 : decode cL_law 195 = .ok (.iconst 0, 1) := by decide +kernel
theorem dL_law_196 : decode cL_law 196 = .ok (.ireturn, 1) := by decide +kernel
theorem dL_law_197 : decode cL_law 197 = .ok (.aload_n 1, 1) := by decide +kernel
theorem dL_law_198 : decode cL_law 198 = .ok (.invokevirtual 27, 3) := by decide +kernel
theorem dL_law_201 : decode cL_law 201 = .ok (.aload_n 2, 1) := by decide +kernel
theorem dL_law_202 : decode cL_law 202 = .ok (.invokevirtual 30, 3) := by decide +kernel
theorem dL_law_205 : decode cL_law 205 = .ok (.if_icmp .eq 538, 3) := by decide +kernel
theorem dL_law_208 : decode cL_law 208 = .ok (.iconst 0, 1) := by decide +kernel
theorem dL_law_209 : decode cL_law 209 = .ok (.ireturn, 1) := by decide +kernel
theorem dL_law_210 : decode cL_law 210 = .ok (.aload_n 1, 1) := by decide +kernel
theorem dL_law_211 : decode cL_law 211 = .ok (.aload_n 0, 1) := by decide +kernel
theorem dL_law_212 : decode cL_law 212 = .ok (.iload_n 3, 1) := by decide +kernel
theorem dL_law_213 : decode cL_law 213 = .ok (.iconst 1, 1) := by decide +kernel
theorem dL_law_214 : decode cL_law 214 = .ok (.iadd, 1) := by decide +kernel
theorem dL_law_215 : decode cL_law 215 = .ok (.iaload, 1) := by decide +kernel
theorem dL_law_216 : decode cL_law 216 = .ok (.aload_n 0, 1) := by decide +kernel
theorem dL_law_217 : decode cL_law 217 = .ok (.iload_n 3, 1) := by decide +kernel
theorem dL_law_218 : decode cL_law 218 = .ok (.iconst 2, 1) := by decide +kernel
theorem dL_law_219 : decode cL_law 219 = .ok (.iadd, 1) := by decide +kernel
theorem dL_law_220 : decode cL_law 220 = .ok (.iaload, 1) := by decide +kernel
theorem dL_law_221 : decode cL_law 221 = .ok (.invokevirtual 31, 3) := by decide +kernel
theorem dL_law_224 : decode cL_law 224 = .ok (.aload_n 2, 1) := by decide +kernel
theorem dL_law_225 : decode cL_law 225 = .ok (.aload_n 0, 1) := by decide +kernel
theorem dL_law_226 : decode cL_law 226 = .ok (.iload_n 3, 1) := by decide +kernel
theorem dL_law_227 : decode cL_law 227 = .ok (.iconst 1, 1) := by decide +kernel
theorem dL_law_228 : decode cL_law 228 = .ok (.iadd, 1) := by decide +kernel
theorem dL_law_229 : decode cL_law 229 = .ok (.iaload, 1) := by decide +kernel
theorem dL_law_230 : decode cL_law 230 = .ok (.aload_n 0, 1) := by decide +kernel
theorem dL_law_231 : decode cL_law 231 = .ok (.iload_n 3, 1) := by decide +kernel
theorem dL_law_232 : decode cL_law 232 = .ok (.iconst 2, 1) := by decide +kernel
theorem dL_law_233 : decode cL_law 233 = .ok (.iadd, 1) := by decide +kernel
theorem dL_law_234 : decode cL_law 234 = .ok (.iaload, 1) := by decide +kernel
theorem dL_law_235 : decode cL_law 235 = .ok (.invokevirtual 35, 3) := by decide +kernel
theorem dL_law_238 : decode cL_law 238 = .ok (.if_icmp .eq 505, 3) := by decide +kernel
theorem dL_law_241 : decode cL_law 241 = .ok (.iconst 0, 1) := by decide +kernel
theorem dL_law_242 : decode cL_law 242 = .ok (.ireturn, 1) := by decide +kernel
theorem dL_law_243 : decode cL_law 243 = .ok (.aload_n 1, 1) := by decide +kernel
theorem dL_law_244 : decode cL_law 244 = .ok (.aload_n 0, 1) := by decide +kernel
theorem dL_law_245 : decode cL_law 245 = .ok (.iload_n 3, 1) := by decide +kernel
theorem dL_law_246 : decode cL_law 246 = .ok (.iconst 1, 1) := by decide +kernel
theorem dL_law_247 : decode cL_law 247 = .ok (.iadd, 1) := by decide +kernel
theorem dL_law_248 : decode cL_law 248 = .ok (.iaload, 1) := by decide +kernel
theorem dL_law_249 : decode cL_law 249 = .ok (.aload_n 0, 1) := by decide +kernel
theorem dL_law_250 : decode cL_law 250 = .ok (.iload_n 3, 1) := by decide +kernel
theorem dL_law_251 : decode cL_law 251 = .ok (.iconst 2, 1) := by decide +kernel
theorem dL_law_252 : decode cL_law 252 = .ok (.iadd, 1) := by decide +kernel
theorem dL_law_253 : decode cL_law 253 = .ok (.iaload, 1) := by decide +kernel
theorem dL_law_254 : decode cL_law 254 = .ok (.invokevirtual 36, 3) := by decide +kernel
theorem dL_law_257 : decode cL_law 257 = .ok (.aload_n 2, 1) := by decide +kernel
theorem dL_law_258 : decode cL_law 258 = .ok (.aload_n 0, 1) := by decide +kernel
theorem dL_law_259 : decode cL_law 259 = .ok (.iload_n 3, 1) := by decide +kernel
theorem dL_law_260 : decode cL_law 260 = .ok (.iconst 1, 1) := by decide +kernel
theorem dL_law_261 : decode cL_law 261 = .ok (.iadd, 1) := by decide +kernel
theorem dL_law_262 : decode cL_law 262 = .ok (.iaload, 1) := by decide +kernel
theorem dL_law_263 : decode cL_law 263 = .ok (.aload_n 0, 1) := by decide +kernel
theorem dL_law_264 : decode cL_law 264 = .ok (.iload_n 3, 1) := by decide +kernel
theorem dL_law_265 : decode cL_law 265 = .ok (.iconst 2, 1) := by decide +kernel
theorem dL_law_266 : decode cL_law 266 = .ok (.iadd, 1) := by decide +kernel
theorem dL_law_267 : decode cL_law 267 = .ok (.iaload, 1) := by decide +kernel
theorem dL_law_268 : decode cL_law 268 = .ok (.invokevirtual 39, 3) := by decide +kernel
theorem dL_law_271 : decode cL_law 271 = .ok (.if_icmp .eq 472, 3) := by decide +kernel
theorem dL_law_274 : decode cL_law 274 = .ok (.iconst 0, 1) := by decide +kernel
theorem dL_law_275 : decode cL_law 275 = .ok (.ireturn, 1) := by decide +kernel
theorem dL_law_276 : decode cL_law 276 = .ok (.aload_n 1, 1) := by decide +kernel
theorem dL_law_277 : decode cL_law 277 = .ok (.aload_n 0, 1) := by decide +kernel
theorem dL_law_278 : decode cL_law 278 = .ok (.iload_n 3, 1) := by decide +kernel
theorem dL_law_279 : decode cL_law 279 = .ok (.iconst 1, 1) := by decide +kernel
theorem dL_law_280 : decode cL_law 280 = .ok (.iadd, 1) := by decide +kernel
theorem dL_law_281 : decode cL_law 281 = .ok (.iaload, 1) := by decide +kernel
theorem dL_law_282 : decode cL_law 282 = .ok (.invokevirtual 40, 3) := by decide +kernel
theorem dL_law_285 : decode cL_law 285 = .ok (.aload_n 2, 1) := by decide +kernel
theorem dL_law_286 : decode cL_law 286 = .ok (.aload_n 0, 1) := by decide +kernel
theorem dL_law_287 : decode cL_law 287 = .ok (.iload_n 3, 1) := by decide +kernel
theorem dL_law_288 : decode cL_law 288 = .ok (.iconst 1, 1) := by decide +kernel
theorem dL_law_289 : decode cL_law 289 = .ok (.iadd, 1) := by decide +kernel
theorem dL_law_290 : decode cL_law 290 = .ok (.iaload, 1) := by decide +kernel
theorem dL_law_291 : decode cL_law 291 = .ok (.invokevirtual 43, 3) := by decide +kernel
theorem dL_law_294 : decode cL_law 294 = .ok (.if_icmp .eq 449, 3) := by decide +kernel
theorem dL_law_297 : decode cL_law 297 = .ok (.iconst 0, 1) := by decide +kernel
theorem dL_law_298 : decode cL_law 298 = .ok (.ireturn, 1) := by decide +kernel
theorem dL_law_299 : decode cL_law 299 = .ok (.aload_n 1, 1) := by decide +kernel
theorem dL_law_300 : decode cL_law 300 = .ok (.aload_n 0, 1) := by decide +kernel
theorem dL_law_301 : decode cL_law 301 = .ok (.iload_n 3, 1) := by decide +kernel
theorem dL_law_302 : decode cL_law 302 = .ok (.iconst 1, 1) := by decide +kernel
theorem dL_law_303 : decode cL_law 303 = .ok (.iadd, 1) := by decide +kernel
theorem dL_law_304 : decode cL_law 304 = .ok (.iaload, 1) := by decide +kernel
theorem dL_law_305 : decode cL_law 305 = .ok (.aload_n 0, 1) := by decide +kernel
theorem dL_law_306 : decode cL_law 306 = .ok (.iload_n 3, 1) := by decide +kernel
theorem dL_law_307 : decode cL_law 307 = .ok (.iconst 2, 1) := by decide +kernel
theorem dL_law_308 : decode cL_law 308 = .ok (.iadd, 1) := by decide +kernel
theorem dL_law_309 : decode cL_law 309 = .ok (.iaload, 1) := by decide +kernel
theorem dL_law_310 : decode cL_law 310 = .ok (.invokevirtual 44, 3) := by decide +kernel
theorem dL_law_313 : decode cL_law 313 = .ok (.aload_n 2, 1) := by decide +kernel
theorem dL_law_314 : decode cL_law 314 = .ok (.aload_n 0, 1) := by decide +kernel
theorem dL_law_315 : decode cL_law 315 = .ok (.iload_n 3, 1) := by decide +kernel
theorem dL_law_316 : decode cL_law 316 = .ok (.iconst 1, 1) := by decide +kernel
theorem dL_law_317 : decode cL_law 317 = .ok (.iadd, 1) := by decide +kernel
theorem dL_law_318 : decode cL_law 318 = .ok (.iaload, 1) := by decide +kernel
theorem dL_law_319 : decode cL_law 319 = .ok (.aload_n 0, 1) := by decide +kernel
theorem dL_law_320 : decode cL_law 320 = .ok (.iload_n 3, 1) := by decide +kernel
theorem dL_law_321 : decode cL_law 321 = .ok (.iconst 2, 1) := by decide +kernel
theorem dL_law_322 : decode cL_law 322 = .ok (.iadd, 1) := by decide +kernel
theorem dL_law_323 : decode cL_law 323 = .ok (.iaload, 1) := by decide +kernel
theorem dL_law_324 : decode cL_law 324 = .ok (.invokevirtual 47, 3) := by decide +kernel
theorem dL_law_327 : decode cL_law 327 = .ok (.if_icmp .eq 416, 3) := by decide +kernel
theorem dL_law_330 : decode cL_law 330 = .ok (.iconst 0, 1) := by decide +kernel
theorem dL_law_331 : decode cL_law 331 = .ok (.ireturn, 1) := by decide +kernel
theorem dL_law_332 : decode cL_law 332 = .ok (.aload_n 1, 1) := by decide +kernel
theorem dL_law_333 : decode cL_law 333 = .ok (.aload_n 0, 1) := by decide +kernel
theorem dL_law_334 : decode cL_law 334 = .ok (.iload_n 3, 1) := by decide +kernel
theorem dL_law_335 : decode cL_law 335 = .ok (.iconst 1, 1) := by decide +kernel
theorem dL_law_336 : decode cL_law 336 = .ok (.iadd, 1) := by decide +kernel
theorem dL_law_337 : decode cL_law 337 = .ok (.iaload, 1) := by decide +kernel
theorem dL_law_338 : decode cL_law 338 = .ok (.invokevirtual 48, 3) := by decide +kernel
theorem dL_law_341 : decode cL_law 341 = .ok (.aload_n 2, 1) := by decide +kernel
theorem dL_law_342 : decode cL_law 342 = .ok (.aload_n 0, 1) := by decide +kernel
theorem dL_law_343 : decode cL_law 343 = .ok (.iload_n 3, 1) := by decide +kernel
theorem dL_law_344 : decode cL_law 344 = .ok (.iconst 1, 1) := by decide +kernel
theorem dL_law_345 : decode cL_law 345 = .ok (.iadd, 1) := by decide +kernel
theorem dL_law_346 : decode cL_law 346 = .ok (.iaload, 1) := by decide +kernel
theorem dL_law_347 : decode cL_law 347 = .ok (.invokevirtual 51, 3) := by decide +kernel
theorem dL_law_350 : decode cL_law 350 = .ok (.if_icmp .eq 393, 3) := by decide +kernel
theorem dL_law_353 : decode cL_law 353 = .ok (.iconst 0, 1) := by decide +kernel
theorem dL_law_354 : decode cL_law 354 = .ok (.ireturn, 1) := by decide +kernel
theorem dL_law_355 : decode cL_law 355 = .ok (.aload_n 1, 1) := by decide +kernel
theorem dL_law_356 : decode cL_law 356 = .ok (.aload_n 0, 1) := by decide +kernel
theorem dL_law_357 : decode cL_law 357 = .ok (.iload_n 3, 1) := by decide +kernel
theorem dL_law_358 : decode cL_law 358 = .ok (.iconst 1, 1) := by decide +kernel
theorem dL_law_359 : decode cL_law 359 = .ok (.iadd, 1) := by decide +kernel
theorem dL_law_360 : decode cL_law 360 = .ok (.iaload, 1) := by decide +kernel
theorem dL_law_361 : decode cL_law 361 = .ok (.aload_n 0, 1) := by decide +kernel
theorem dL_law_362 : decode cL_law 362 = .ok (.iload_n 3, 1) := by decide +kernel
theorem dL_law_363 : decode cL_law 363 = .ok (.iconst 2, 1) := by decide +kernel
theorem dL_law_364 : decode cL_law 364 = .ok (.iadd, 1) := by decide +kernel
theorem dL_law_365 : decode cL_law 365 = .ok (.iaload, 1) := by decide +kernel
theorem dL_law_366 : decode cL_law 366 = .ok (.invokevirtual 52, 3) := by decide +kernel
theorem dL_law_369 : decode cL_law 369 = .ok (.aload_n 2, 1) := by decide +kernel
theorem dL_law_370 : decode cL_law 370 = .ok (.aload_n 0, 1) := by decide +kernel
theorem dL_law_371 : decode cL_law 371 = .ok (.iload_n 3, 1) := by decide +kernel
theorem dL_law_372 : decode cL_law 372 = .ok (.iconst 1, 1) := by decide +kernel
theorem dL_law_373 : decode cL_law 373 = .ok (.iadd, 1) := by decide +kernel
theorem dL_law_374 : decode cL_law 374 = .ok (.iaload, 1) := by decide +kernel
theorem dL_law_375 : decode cL_law 375 = .ok (.aload_n 0, 1) := by decide +kernel
theorem dL_law_376 : decode cL_law 376 = .ok (.iload_n 3, 1) := by decide +kernel
theorem dL_law_377 : decode cL_law 377 = .ok (.iconst 2, 1) := by decide +kernel
theorem dL_law_378 : decode cL_law 378 = .ok (.iadd, 1) := by decide +kernel
theorem dL_law_379 : decode cL_law 379 = .ok (.iaload, 1) := by decide +kernel
theorem dL_law_380 : decode cL_law 380 = .ok (.invokevirtual 55, 3) := by decide +kernel
theorem dL_law_383 : decode cL_law 383 = .ok (.if_icmp .eq 360, 3) := by decide +kernel
theorem dL_law_386 : decode cL_law 386 = .ok (.iconst 0, 1) := by decide +kernel
theorem dL_law_387 : decode cL_law 387 = .ok (.ireturn, 1) := by decide +kernel
theorem dL_law_388 : decode cL_law 388 = .ok (.aload_n 1, 1) := by decide +kernel
theorem dL_law_389 : decode cL_law 389 = .ok (.invokevirtual 56, 3) := by decide +kernel
theorem dL_law_392 : decode cL_law 392 = .ok (.aload_n 2, 1) := by decide +kernel
theorem dL_law_393 : decode cL_law 393 = .ok (.invokevirtual 59, 3) := by decide +kernel
theorem dL_law_396 : decode cL_law 396 = .ok (.if_icmp .eq 347, 3) := by decide +kernel
theorem dL_law_399 : decode cL_law 399 = .ok (.iconst 0, 1) := by decide +kernel
theorem dL_law_400 : decode cL_law 400 = .ok (.ireturn, 1) := by decide +kernel
theorem dL_law_401 : decode cL_law 401 = .ok (.aload_n 1, 1) := by decide +kernel
theorem dL_law_402 : decode cL_law 402 = .ok (.aload_n 0, 1) := by decide +kernel
theorem dL_law_403 : decode cL_law 403 = .ok (.iload_n 3, 1) := by decide +kernel
theorem dL_law_404 : decode cL_law 404 = .ok (.iconst 1, 1) := by decide +kernel
theorem dL_law_405 : decode cL_law 405 = .ok (.iadd, 1) := by decide +kernel
theorem dL_law_406 : decode cL_law 406 = .ok (.iaload, 1) := by decide +kernel
theorem dL_law_407 : decode cL_law 407 = .ok (.invokevirtual 60, 3) := by decide +kernel
theorem dL_law_410 : decode cL_law 410 = .ok (.aload_n 2, 1) := by decide +kernel
theorem dL_law_411 : decode cL_law 411 = .ok (.aload_n 0, 1) := by decide +kernel
theorem dL_law_412 : decode cL_law 412 = .ok (.iload_n 3, 1) := by decide +kernel
theorem dL_law_413 : decode cL_law 413 = .ok (.iconst 1, 1) := by decide +kernel
theorem dL_law_414 : decode cL_law 414 = .ok (.iadd, 1) := by decide +kernel
theorem dL_law_415 : decode cL_law 415 = .ok (.iaload, 1) := by decide +kernel
theorem dL_law_416 : decode cL_law 416 = .ok (.invokevirtual 63, 3) := by decide +kernel
theorem dL_law_419 : decode cL_law 419 = .ok (.if_icmp .eq 324, 3) := by decide +kernel
theorem dL_law_422 : decode cL_law 422 = .ok (.iconst 0, 1) := by decide +kernel
theorem dL_law_423 : decode cL_law 423 = .ok (.ireturn, 1) := by decide +kernel
theorem dL_law_424 : decode cL_law 424 = .ok (.aload_n 1, 1) := by decide +kernel
theorem dL_law_425 : decode cL_law 425 = .ok (.aload_n 0, 1) := by decide +kernel
theorem dL_law_426 : decode cL_law 426 = .ok (.iload_n 3, 1) := by decide +kernel
theorem dL_law_427 : decode cL_law 427 = .ok (.iconst 1, 1) := by decide +kernel
theorem dL_law_428 : decode cL_law 428 = .ok (.iadd, 1) := by decide +kernel
theorem dL_law_429 : decode cL_law 429 = .ok (.iaload, 1) := by decide +kernel
theorem dL_law_430 : decode cL_law 430 = .ok (.invokevirtual 64, 3) := by decide +kernel
theorem dL_law_433 : decode cL_law 433 = .ok (.aload_n 2, 1) := by decide +kernel
theorem dL_law_434 : decode cL_law 434 = .ok (.aload_n 0, 1) := by decide +kernel
theorem dL_law_435 : decode cL_law 435 = .ok (.iload_n 3, 1) := by decide +kernel
theorem dL_law_436 : decode cL_law 436 = .ok (.iconst 1, 1) := by decide +kernel
theorem dL_law_437 : decode cL_law 437 = .ok (.iadd, 1) := by decide +kernel
theorem dL_law_438 : decode cL_law 438 = .ok (.iaload, 1) := by decide +kernel
theorem dL_law_439 : decode cL_law 439 = .ok (.invokevirtual 67, 3) := by decide +kernel
theorem dL_law_442 : decode cL_law 442 = .ok (.if_icmp .eq 301, 3) := by decide +kernel
theorem dL_law_445 : decode cL_law 445 = .ok (.iconst 0, 1) := by decide +kernel
theorem dL_law_446 : decode cL_law 446 = .ok (.ireturn, 1) := by decide +kernel
theorem dL_law_447 : decode cL_law 447 = .ok (.aload_n 1, 1) := by decide +kernel
theorem dL_law_448 : decode cL_law 448 = .ok (.aload_n 0, 1) := by decide +kernel
theorem dL_law_449 : decode cL_law 449 = .ok (.iload_n 3, 1) := by decide +kernel
theorem dL_law_450 : decode cL_law 450 = .ok (.iconst 1, 1) := by decide +kernel
theorem dL_law_451 : decode cL_law 451 = .ok (.iadd, 1) := by decide +kernel
theorem dL_law_452 : decode cL_law 452 = .ok (.iaload, 1) := by decide +kernel
theorem dL_law_453 : decode cL_law 453 = .ok (.aload_n 0, 1) := by decide +kernel
theorem dL_law_454 : decode cL_law 454 = .ok (.iload_n 3, 1) := by decide +kernel
theorem dL_law_455 : decode cL_law 455 = .ok (.iconst 2, 1) := by decide +kernel
theorem dL_law_456 : decode cL_law 456 = .ok (.iadd, 1) := by decide +kernel
theorem dL_law_457 : decode cL_law 457 = .ok (.iaload, 1) := by decide +kernel
theorem dL_law_458 : decode cL_law 458 = .ok (.invokevirtual 68, 3) := by decide +kernel
theorem dL_law_461 : decode cL_law 461 = .ok (.aload_n 2, 1) := by decide +kernel
theorem dL_law_462 : decode cL_law 462 = .ok (.aload_n 0, 1) := by decide +kernel
theorem dL_law_463 : decode cL_law 463 = .ok (.iload_n 3, 1) := by decide +kernel
theorem dL_law_464 : decode cL_law 464 = .ok (.iconst 1, 1) := by decide +kernel
theorem dL_law_465 : decode cL_law 465 = .ok (.iadd, 1) := by decide +kernel
theorem dL_law_466 : decode cL_law 466 = .ok (.iaload, 1) := by decide +kernel
theorem dL_law_467 : decode cL_law 467 = .ok (.aload_n 0, 1) := by decide +kernel
theorem dL_law_468 : decode cL_law 468 = .ok (.iload_n 3, 1) := by decide +kernel
theorem dL_law_469 : decode cL_law 469 = .ok (.iconst 2, 1) := by decide +kernel
theorem dL_law_470 : decode cL_law 470 = .ok (.iadd, 1) := by decide +kernel
theorem dL_law_471 : decode cL_law 471 = .ok (.iaload, 1) := by decide +kernel
theorem dL_law_472 : decode cL_law 472 = .ok (.invokevirtual 71, 3) := by decide +kernel
theorem dL_law_475 : decode cL_law 475 = .ok (.if_icmp .eq 268, 3) := by decide +kernel
theorem dL_law_478 : decode cL_law 478 = .ok (.iconst 0, 1) := by decide +kernel
theorem dL_law_479 : decode cL_law 479 = .ok (.ireturn, 1) := by decide +kernel
theorem dL_law_480 : decode cL_law 480 = .ok (.aload_n 1, 1) := by decide +kernel
theorem dL_law_481 : decode cL_law 481 = .ok (.invokevirtual 72, 3) := by decide +kernel
theorem dL_law_484 : decode cL_law 484 = .ok (.aload_n 2, 1) := by decide +kernel
theorem dL_law_485 : decode cL_law 485 = .ok (.invokevirtual 75, 3) := by decide +kernel
theorem dL_law_488 : decode cL_law 488 = .ok (.if_icmp .eq 255, 3) := by decide +kernel
theorem dL_law_491 : decode cL_law 491 = .ok (.iconst 0, 1) := by decide +kernel
theorem dL_law_492 : decode cL_law 492 = .ok (.ireturn, 1) := by decide +kernel
theorem dL_law_493 : decode cL_law 493 = .ok (.aload_n 1, 1) := by decide +kernel
theorem dL_law_494 : decode cL_law 494 = .ok (.aload_n 0, 1) := by decide +kernel
theorem dL_law_495 : decode cL_law 495 = .ok (.iload_n 3, 1) := by decide +kernel
theorem dL_law_496 : decode cL_law 496 = .ok (.iconst 1, 1) := by decide +kernel
theorem dL_law_497 : decode cL_law 497 = .ok (.iadd, 1) := by decide +kernel
theorem dL_law_498 : decode cL_law 498 = .ok (.iaload, 1) := by decide +kernel
theorem dL_law_499 : decode cL_law 499 = .ok (.invokevirtual 76, 3) := by decide +kernel
theorem dL_law_502 : decode cL_law 502 = .ok (.aload_n 2, 1) := by decide +kernel
theorem dL_law_503 : decode cL_law 503 = .ok (.aload_n 0, 1) := by decide +kernel
theorem dL_law_504 : decode cL_law 504 = .ok (.iload_n 3, 1) := by decide +kernel
theorem dL_law_505 : decode cL_law 505 = .ok (.iconst 1, 1) := by decide +kernel
theorem dL_law_506 : decode cL_law 506 = .ok (.iadd, 1) := by decide +kernel
theorem dL_law_507 : decode cL_law 507 = .ok (.iaload, 1) := by decide +kernel
theorem dL_law_508 : decode cL_law 508 = .ok (.invokevirtual 79, 3) := by decide +kernel
theorem dL_law_511 : decode cL_law 511 = .ok (.if_icmp .eq 232, 3) := by decide +kernel
theorem dL_law_514 : decode cL_law 514 = .ok (.iconst 0, 1) := by decide +kernel
theorem dL_law_515 : decode cL_law 515 = .ok (.ireturn, 1) := by decide +kernel
theorem dL_law_516 : decode cL_law 516 = .ok (.aload_n 1, 1) := by decide +kernel
theorem dL_law_517 : decode cL_law 517 = .ok (.aload_n 0, 1) := by decide +kernel
theorem dL_law_518 : decode cL_law 518 = .ok (.iload_n 3, 1) := by decide +kernel
theorem dL_law_519 : decode cL_law 519 = .ok (.iconst 1, 1) := by decide +kernel
theorem dL_law_520 : decode cL_law 520 = .ok (.iadd, 1) := by decide +kernel
theorem dL_law_521 : decode cL_law 521 = .ok (.iaload, 1) := by decide +kernel
theorem dL_law_522 : decode cL_law 522 = .ok (.invokevirtual 80, 3) := by decide +kernel
theorem dL_law_525 : decode cL_law 525 = .ok (.aload_n 2, 1) := by decide +kernel
theorem dL_law_526 : decode cL_law 526 = .ok (.aload_n 0, 1) := by decide +kernel
theorem dL_law_527 : decode cL_law 527 = .ok (.iload_n 3, 1) := by decide +kernel
theorem dL_law_528 : decode cL_law 528 = .ok (.iconst 1, 1) := by decide +kernel
theorem dL_law_529 : decode cL_law 529 = .ok (.iadd, 1) := by decide +kernel
theorem dL_law_530 : decode cL_law 530 = .ok (.iaload, 1) := by decide +kernel
theorem dL_law_531 : decode cL_law 531 = .ok (.invokevirtual 83, 3) := by decide +kernel
theorem dL_law_534 : decode cL_law 534 = .ok (.if_icmp .eq 209, 3) := by decide +kernel
theorem dL_law_537 : decode cL_law 537 = .ok (.iconst 0, 1) := by decide +kernel
theorem dL_law_538 : decode cL_law 538 = .ok (.ireturn, 1) := by decide +kernel
theorem dL_law_539 : decode cL_law 539 = .ok (.aload_n 1, 1) := by decide +kernel
theorem dL_law_540 : decode cL_law 540 = .ok (.aload_n 0, 1) := by decide +kernel
theorem dL_law_541 : decode cL_law 541 = .ok (.iload_n 3, 1) := by decide +kernel
theorem dL_law_542 : decode cL_law 542 = .ok (.iconst 1, 1) := by decide +kernel
theorem dL_law_543 : decode cL_law 543 = .ok (.iadd, 1) := by decide +kernel
theorem dL_law_544 : decode cL_law 544 = .ok (.iaload, 1) := by decide +kernel
theorem dL_law_545 : decode cL_law 545 = .ok (.aload_n 0, 1) := by decide +kernel
theorem dL_law_546 : decode cL_law 546 = .ok (.iload_n 3, 1) := by decide +kernel
theorem dL_law_547 : decode cL_law 547 = .ok (.iconst 2, 1) := by decide +kernel
theorem dL_law_548 : decode cL_law 548 = .ok (.iadd, 1) := by decide +kernel
theorem dL_law_549 : decode cL_law 549 = .ok (.iaload, 1) := by decide +kernel
theorem dL_law_550 : decode cL_law 550 = .ok (.invokevirtual 84, 3) := by decide +kernel
theorem dL_law_553 : decode cL_law 553 = .ok (.aload_n 2, 1) := by decide +kernel
theorem dL_law_554 : decode cL_law 554 = .ok (.aload_n 0, 1) := by decide +kernel
theorem dL_law_555 : decode cL_law 555 = .ok (.iload_n 3, 1) := by decide +kernel
theorem dL_law_556 : decode cL_law 556 = .ok (.iconst 1, 1) := by decide +kernel
theorem dL_law_557 : decode cL_law 557 = .ok (.iadd, 1) := by decide +kernel
theorem dL_law_558 : decode cL_law 558 = .ok (.iaload, 1) := by decide +kernel
theorem dL_law_559 : decode cL_law 559 = .ok (.aload_n 0, 1) := by decide +kernel
theorem dL_law_560 : decode cL_law 560 = .ok (.iload_n 3, 1) := by decide +kernel
theorem dL_law_561 : decode cL_law 561 = .ok (.iconst 2, 1) := by decide +kernel
theorem dL_law_562 : decode cL_law 562 = .ok (.iadd, 1) := by decide +kernel
theorem dL_law_563 : decode cL_law 563 = .ok (.iaload, 1) := by decide +kernel
theorem dL_law_564 : decode cL_law 564 = .ok (.invokevirtual 87, 3) := by decide +kernel
theorem dL_law_567 : decode cL_law 567 = .ok (.if_icmp .eq 176, 3) := by decide +kernel
theorem dL_law_570 : decode cL_law 570 = .ok (.iconst 0, 1) := by decide +kernel
theorem dL_law_571 : decode cL_law 571 = .ok (.ireturn, 1) := by decide +kernel
theorem dL_law_572 : decode cL_law 572 = .ok (.aload_n 1, 1) := by decide +kernel
theorem dL_law_573 : decode cL_law 573 = .ok (.invokevirtual 88, 3) := by decide +kernel
theorem dL_law_576 : decode cL_law 576 = .ok (.aload_n 2, 1) := by decide +kernel
theorem dL_law_577 : decode cL_law 577 = .ok (.invokevirtual 91, 3) := by decide +kernel
theorem dL_law_580 : decode cL_law 580 = .ok (.if_icmp .eq 163, 3) := by decide +kernel
theorem dL_law_583 : decode cL_law 583 = .ok (.iconst 0, 1) := by decide +kernel
theorem dL_law_584 : decode cL_law 584 = .ok (.ireturn, 1) := by decide +kernel
theorem dL_law_585 : decode cL_law 585 = .ok (.aload_n 1, 1) := by decide +kernel
theorem dL_law_586 : decode cL_law 586 = .ok (.aload_n 0, 1) := by decide +kernel
theorem dL_law_587 : decode cL_law 587 = .ok (.iload_n 3, 1) := by decide +kernel
theorem dL_law_588 : decode cL_law 588 = .ok (.iconst 1, 1) := by decide +kernel
theorem dL_law_589 : decode cL_law 589 = .ok (.iadd, 1) := by decide +kernel
theorem dL_law_590 : decode cL_law 590 = .ok (.iaload, 1) := by decide +kernel
theorem dL_law_591 : decode cL_law 591 = .ok (.invokevirtual 92, 3) := by decide +kernel
theorem dL_law_594 : decode cL_law 594 = .ok (.aload_n 2, 1) := by decide +kernel
theorem dL_law_595 : decode cL_law 595 = .ok (.aload_n 0, 1) := by decide +kernel
theorem dL_law_596 : decode cL_law 596 = .ok (.iload_n 3, 1) := by decide +kernel
theorem dL_law_597 : decode cL_law 597 = .ok (.iconst 1, 1) := by decide +kernel
theorem dL_law_598 : decode cL_law 598 = .ok (.iadd, 1) := by decide +kernel
theorem dL_law_599 : decode cL_law 599 = .ok (.iaload, 1) := by decide +kernel
theorem dL_law_600 : decode cL_law 600 = .ok (.invokevirtual 95, 3) := by decide +kernel
theorem dL_law_603 : decode cL_law 603 = .ok (.if_icmp .eq 140, 3) := by decide +kernel
theorem dL_law_606 : decode cL_law 606 = .ok (.iconst 0, 1) := by decide +kernel
theorem dL_law_607 : decode cL_law 607 = .ok (.ireturn, 1) := by decide +kernel
theorem dL_law_608 : decode cL_law 608 = .ok (.aload_n 1, 1) := by decide +kernel
theorem dL_law_609 : decode cL_law 609 = .ok (.aload_n 0, 1) := by decide +kernel
theorem dL_law_610 : decode cL_law 610 = .ok (.iload_n 3, 1) := by decide +kernel
theorem dL_law_611 : decode cL_law 611 = .ok (.iconst 1, 1) := by decide +kernel
theorem dL_law_612 : decode cL_law 612 = .ok (.iadd, 1) := by decide +kernel
theorem dL_law_613 : decode cL_law 613 = .ok (.iaload, 1) := by decide +kernel
theorem dL_law_614 : decode cL_law 614 = .ok (.aload_n 0, 1) := by decide +kernel
theorem dL_law_615 : decode cL_law 615 = .ok (.iload_n 3, 1) := by decide +kernel
theorem dL_law_616 : decode cL_law 616 = .ok (.iconst 2, 1) := by decide +kernel
theorem dL_law_617 : decode cL_law 617 = .ok (.iadd, 1) := by decide +kernel
theorem dL_law_618 : decode cL_law 618 = .ok (.iaload, 1) := by decide +kernel
theorem dL_law_619 : decode cL_law 619 = .ok (.aload_n 0, 1) := by decide +kernel
theorem dL_law_620 : decode cL_law 620 = .ok (.iload_n 3, 1) := by decide +kernel
theorem dL_law_621 : decode cL_law 621 = .ok (.iconst 3, 1) := by decide +kernel
theorem dL_law_622 : decode cL_law 622 = .ok (.iadd, 1) := by decide +kernel
theorem dL_law_623 : decode cL_law 623 = .ok (.iaload, 1) := by decide +kernel
theorem dL_law_624 : decode cL_law 624 = .ok (.invokevirtual 96, 3) := by decide +kernel
theorem dL_law_627 : decode cL_law 627 = .ok (.aload_n 2, 1) := by decide +kernel
theorem dL_law_628 : decode cL_law 628 = .ok (.aload_n 0, 1) := by decide +kernel
theorem dL_law_629 : decode cL_law 629 = .ok (.iload_n 3, 1) := by decide +kernel
theorem dL_law_630 : decode cL_law 630 = .ok (.iconst 1, 1) := by decide +kernel
theorem dL_law_631 : decode cL_law 631 = .ok (.iadd, 1) := by decide +kernel
theorem dL_law_632 : decode cL_law 632 = .ok (.iaload, 1) := by decide +kernel
theorem dL_law_633 : decode cL_law 633 = .ok (.aload_n 0, 1) := by decide +kernel
theorem dL_law_634 : decode cL_law 634 = .ok (.iload_n 3, 1) := by decide +kernel
theorem dL_law_635 : decode cL_law 635 = .ok (.iconst 2, 1) := by decide +kernel
theorem dL_law_636 : decode cL_law 636 = .ok (.iadd, 1) := by decide +kernel
theorem dL_law_637 : decode cL_law 637 = .ok (.iaload, 1) := by decide +kernel
theorem dL_law_638 : decode cL_law 638 = .ok (.aload_n 0, 1) := by decide +kernel
theorem dL_law_639 : decode cL_law 639 = .ok (.iload_n 3, 1) := by decide +kernel
theorem dL_law_640 : decode cL_law 640 = .ok (.iconst 3, 1) := by decide +kernel
theorem dL_law_641 : decode cL_law 641 = .ok (.iadd, 1) := by decide +kernel
theorem dL_law_642 : decode cL_law 642 = .ok (.iaload, 1) := by decide +kernel
theorem dL_law_643 : decode cL_law 643 = .ok (.invokevirtual 100, 3) := by decide +kernel
theorem dL_law_646 : decode cL_law 646 = .ok (.if_icmp .eq 97, 3) := by decide +kernel
theorem dL_law_649 : decode cL_law 649 = .ok (.iconst 0, 1) := by decide +kernel
theorem dL_law_650 : decode cL_law 650 = .ok (.ireturn, 1) := by decide +kernel
theorem dL_law_651 : decode cL_law 651 = .ok (.aload_n 1, 1) := by decide +kernel
theorem dL_law_652 : decode cL_law 652 = .ok (.aload_n 0, 1) := by decide +kernel
theorem dL_law_653 : decode cL_law 653 = .ok (.iload_n 3, 1) := by decide +kernel
theorem dL_law_654 : decode cL_law 654 = .ok (.iconst 1, 1) := by decide +kernel
theorem dL_law_655 : decode cL_law 655 = .ok (.iadd, 1) := by decide +kernel
theorem dL_law_656 : decode cL_law 656 = .ok (.iaload, 1) := by decide +kernel
theorem dL_law_657 : decode cL_law 657 = .ok (.aload_n 0, 1) := by decide +kernel
theorem dL_law_658 : decode cL_law 658 = .ok (.iload_n 3, 1) := by decide +kernel
theorem dL_law_659 : decode cL_law 659 = .ok (.iconst 2, 1) := by decide +kernel
theorem dL_law_660 : decode cL_law 660 = .ok (.iadd, 1) := by decide +kernel
theorem dL_law_661 : decode cL_law 661 = .ok (.iaload, 1) := by decide +kernel
theorem dL_law_662 : decode cL_law 662 = .ok (.aload_n 0, 1) := by decide +kernel
theorem dL_law_663 : decode cL_law 663 = .ok (.iload_n 3, 1) := by decide +kernel
theorem dL_law_664 : decode cL_law 664 = .ok (.iconst 3, 1) := by decide +kernel
theorem dL_law_665 : decode cL_law 665 = .ok (.iadd, 1) := by decide +kernel
theorem dL_law_666 : decode cL_law 666 = .ok (.iaload, 1) := by decide +kernel
theorem dL_law_667 : decode cL_law 667 = .ok (.invokevirtual 101, 3) := by decide +kernel
theorem dL_law_670 : decode cL_law 670 = .ok (.aload_n 2, 1) := by decide +kernel
theorem dL_law_671 : decode cL_law 671 = .ok (.aload_n 0, 1) := by decide +kernel
theorem dL_law_672 : decode cL_law 672 = .ok (.iload_n 3, 1) := by decide +kernel
theorem dL_law_673 : decode cL_law 673 = .ok (.iconst 1, 1) := by decide +kernel
theorem dL_law_674 : decode cL_law 674 = .ok (.iadd, 1) := by decide +kernel
theorem dL_law_675 : decode cL_law 675 = .ok (.iaload, 1) := by decide +kernel
theorem dL_law_676 : decode cL_law 676 = .ok (.aload_n 0, 1) := by decide +kernel
theorem dL_law_677 : decode cL_law 677 = .ok (.iload_n 3, 1) := by decide +kernel
theorem dL_law_678 : decode cL_law 678 = .ok (.iconst 2, 1) := by decide +kernel
theorem dL_law_679 : decode cL_law 679 = .ok (.iadd, 1) := by decide +kernel
theorem dL_law_680 : decode cL_law 680 = .ok (.iaload, 1) := by decide +kernel
theorem dL_law_681 : decode cL_law 681 = .ok (.aload_n 0, 1) := by decide +kernel
theorem dL_law_682 : decode cL_law 682 = .ok (.iload_n 3, 1) := by decide +kernel
theorem dL_law_683 : decode cL_law 683 = .ok (.iconst 3, 1) := by decide +kernel
theorem dL_law_684 : decode cL_law 684 = .ok (.iadd, 1) := by decide +kernel
theorem dL_law_685 : decode cL_law 685 = .ok (.iaload, 1) := by decide +kernel
theorem dL_law_686 : decode cL_law 686 = .ok (.invokevirtual 104, 3) := by decide +kernel
theorem dL_law_689 : decode cL_law 689 = .ok (.if_icmp .eq 54, 3) := by decide +kernel
theorem dL_law_692 : decode cL_law 692 = .ok (.iconst 0, 1) := by decide +kernel
theorem dL_law_693 : decode cL_law 693 = .ok (.ireturn, 1) := by decide +kernel
theorem dL_law_694 : decode cL_law 694 = .ok (.aload_n 1, 1) := by decide +kernel
theorem dL_law_695 : decode cL_law 695 = .ok (.invokevirtual 105, 3) := by decide +kernel
theorem dL_law_698 : decode cL_law 698 = .ok (.aload_n 2, 1) := by decide +kernel
theorem dL_law_699 : decode cL_law 699 = .ok (.invokevirtual 108, 3) := by decide +kernel
theorem dL_law_702 : decode cL_law 702 = .ok (.if_icmp .eq 41, 3) := by decide +kernel
theorem dL_law_705 : decode cL_law 705 = .ok (.iconst 0, 1) := by decide +kernel
theorem dL_law_706 : decode cL_law 706 = .ok (.ireturn, 1) := by decide +kernel
theorem dL_law_707 : decode cL_law 707 = .ok (.aload_n 1, 1) := by decide +kernel
theorem dL_law_708 : decode cL_law 708 = .ok (.invokevirtual 109, 3) := by decide +kernel
theorem dL_law_711 : decode cL_law 711 = .ok (.aload_n 2, 1) := by decide +kernel
theorem dL_law_712 : decode cL_law 712 = .ok (.invokevirtual 112, 3) := by decide +kernel
theorem dL_law_715 : decode cL_law 715 = .ok (.if_icmp .eq 28, 3) := by decide +kernel
theorem dL_law_718 : decode cL_law 718 = .ok (.iconst 0, 1) := by decide +kernel
theorem dL_law_719 : decode cL_law 719 = .ok (.ireturn, 1) := by decide +kernel
theorem dL_law_720 : decode cL_law 720 = .ok (.aload_n 1, 1) := by decide +kernel
theorem dL_law_721 : decode cL_law 721 = .ok (.aload_n 0, 1) := by decide +kernel
theorem dL_law_722 : decode cL_law 722 = .ok (.iload_n 3, 1) := by decide +kernel
theorem dL_law_723 : decode cL_law 723 = .ok (.iconst 1, 1) := by decide +kernel
theorem dL_law_724 : decode cL_law 724 = .ok (.iadd, 1) := by decide +kernel
theorem dL_law_725 : decode cL_law 725 = .ok (.iaload, 1) := by decide +kernel
theorem dL_law_726 : decode cL_law 726 = .ok (.invokevirtual 113, 3) := by decide +kernel
theorem dL_law_729 : decode cL_law 729 = .ok (.aload_n 2, 1) := by decide +kernel
theorem dL_law_730 : decode cL_law 730 = .ok (.aload_n 0, 1) := by decide +kernel
theorem dL_law_731 : decode cL_law 731 = .ok (.iload_n 3, 1) := by decide +kernel
theorem dL_law_732 : decode cL_law 732 = .ok (.iconst 1, 1) := by decide +kernel
theorem dL_law_733 : decode cL_law 733 = .ok (.iadd, 1) := by decide +kernel
theorem dL_law_734 : decode cL_law 734 = .ok (.iaload, 1) := by decide +kernel
theorem dL_law_735 : decode cL_law 735 = .ok (.invokevirtual 116, 3) := by decide +kernel
theorem dL_law_738 : decode cL_law 738 = .ok (.if_icmp .eq 5, 3) := by decide +kernel
theorem dL_law_741 : decode cL_law 741 = .ok (.iconst 0, 1) := by decide +kernel
theorem dL_law_742 : decode cL_law 742 = .ok (.ireturn, 1) := by decide +kernel
theorem dL_law_743 : decode cL_law 743 = .ok (.iinc 3 4, 3) := by decide +kernel
theorem dL_law_746 : decode cL_law 746 = .ok (.goto (-728), 3) := by decide +kernel
theorem dL_law_749 : decode cL_law 749 = .ok (.iconst 1, 1) := by decide +kernel
theorem dL_law_750 : decode cL_law 750 = .ok (.ireturn, 1) := by decide +kernel
