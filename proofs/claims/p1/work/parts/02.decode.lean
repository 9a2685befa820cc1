theorem dX0_init_0 : decode cX0_init 0 = .ok (.aload_n 0, 1) := by decide +kernel
theorem dX0_init_1 : decode cX0_init 1 = .ok (.invokespecial 3, 3) := by decide +kernel
theorem dX0_init_4 : decode cX0_init 4 = .ok (.aload_n 0, 1) := by decide +kernel
theorem dX0_init_5 : decode cX0_init 5 = .ok (.new 9, 3) := by decide +kernel
theorem dX0_init_8 : decode cX0_init 8 = .ok (.dup, 1) := by decide +kernel
theorem dX0_init_9 : decode cX0_init 9 = .ok (.invokespecial 11, 3) := by decide +kernel
theorem dX0_init_12 : decode cX0_init 12 = .ok (.putfield 12, 3) := by decide +kernel
theorem dX0_init_15 : decode cX0_init 15 = .ok (.aload_n 0, 1) := by decide +kernel
theorem dX0_init_16 : decode cX0_init 16 = .ok (.iconst 0, 1) := by decide +kernel
theorem dX0_init_17 : decode cX0_init 17 = .ok (.putfield 18, 3) := by decide +kernel
theorem dX0_init_20 : decode cX0_init 20 = .ok (.aload_n 0, 1) := by decide +kernel
theorem dX0_init_21 : decode cX0_init 21 = .ok (.iconst (-1), 1) := by decide +kernel
theorem dX0_init_22 : decode cX0_init 22 = .ok (.putfield 22, 3) := by decide +kernel
theorem dX0_init_25 : decode cX0_init 25 = .ok (.aload_n 0, 1) := by decide +kernel
theorem dX0_init_26 : decode cX0_init 26 = .ok (.iconst 0, 1) := by decide +kernel
theorem dX0_init_27 : decode cX0_init 27 = .ok (.putfield 25, 3) := by decide +kernel
theorem dX0_init_30 : decode cX0_init 30 = .ok (.aload_n 0, 1) := by decide +kernel
theorem dX0_init_31 : decode cX0_init 31 = .ok (.iconst (-1), 1) := by decide +kernel
theorem dX0_init_32 : decode cX0_init 32 = .ok (.putfield 28, 3) := by decide +kernel
theorem dX0_init_35 : decode cX0_init 35 = .ok (.aload_n 0, 1) := by decide +kernel
theorem dX0_init_36 : decode cX0_init 36 = .ok (.iconst 0, 1) := by decide +kernel
theorem dX0_init_37 : decode cX0_init 37 = .ok (.putfield 31, 3) := by decide +kernel
theorem dX0_init_40 : decode cX0_init 40 = .ok (.aload_n 0, 1) := by decide +kernel
theorem dX0_init_41 : decode cX0_init 41 = .ok (.iconst 0, 1) := by decide +kernel
theorem dX0_init_42 : decode cX0_init 42 = .ok (.putfield 34, 3) := by decide +kernel
theorem dX0_init_45 : decode cX0_init 45 = .ok (.aload_n 0, 1) := by decide +kernel
theorem dX0_init_46 : decode cX0_init 46 = .ok (.iconst 0, 1) := by decide +kernel
theorem dX0_init_47 : decode cX0_init 47 = .ok (.putfield 37, 3) := by decide +kernel
theorem dX0_init_50 : decode cX0_init 50 = .ok (.new 40, 3) := by decide +kernel
theorem dX0_init_53 : decode cX0_init 53 = .ok (.dup, 1) := by decide +kernel
theorem dX0_init_54 : decode cX0_init 54 = .ok (.invokespecial 42, 3) := by decide +kernel
theorem dX0_init_57 : decode cX0_init 57 = .ok (.astore 4, 2) := by decide +kernel
theorem dX0_init_59 : decode cX0_init 59 = .ok (.aload_n 0, 1) := by decide +kernel
theorem dX0_init_60 : decode cX0_init 60 = .ok (.aload_n 1, 1) := by decide +kernel
theorem dX0_init_61 : decode cX0_init 61 = .ok (.putfield 43, 3) := by decide +kernel
theorem dX0_init_64 : decode cX0_init 64 = .ok (.aload_n 0, 1) := by decide +kernel
theorem dX0_init_65 : decode cX0_init 65 = .ok (.aload_n 2, 1) := by decide +kernel
theorem dX0_init_66 : decode cX0_init 66 = .ok (.putfield 47, 3) := by decide +kernel
theorem dX0_init_69 : decode cX0_init 69 = .ok (.aload_n 0, 1) := by decide +kernel
theorem dX0_init_70 : decode cX0_init 70 = .ok (.aload_n 3, 1) := by decide +kernel
theorem dX0_init_71 : decode cX0_init 71 = .ok (.putfield 51, 3) := by decide +kernel
theorem dX0_init_74 : decode cX0_init 74 = .ok (.aload_n 0, 1) := by decide +kernel
theorem dX0_init_75 : decode cX0_init 75 = .ok (.new 55, 3) := by decide +kernel
theorem dX0_init_78 : decode cX0_init 78 = .ok (.dup, 1) := by decide +kernel
theorem dX0_init_79 : decode cX0_init 79 = .ok (.aload_n 2, 1) := by decide +kernel
theorem dX0_init_80 : decode cX0_init 80 = .ok (.invokespecial 57, 3) := by decide +kernel
theorem dX0_init_83 : decode cX0_init 83 = .ok (.putfield 60, 3) := by decide +kernel
theorem dX0_init_86 : decode cX0_init 86 = .ok (.aload_n 0, 1) := by decide +kernel
theorem dX0_init_87 : decode cX0_init 87 = .ok (.new 64, 3) := by decide +kernel
theorem dX0_init_90 : decode cX0_init 90 = .ok (.dup, 1) := by decide +kernel
theorem dX0_init_91 : decode cX0_init 91 = .ok (.aload_n 1, 1) := by decide +kernel
theorem dX0_init_92 : decode cX0_init 92 = .ok (.aload_n 2, 1) := by decide +kernel
theorem dX0_init_93 : decode cX0_init 93 = .ok (.aload_n 0, 1) := by decide +kernel
theorem dX0_init_94 : decode cX0_init 94 = .ok (.getfield 60, 3) := by decide +kernel
theorem dX0_init_97 : decode cX0_init 97 = .ok (.invokespecial 66, 3) := by decide +kernel
theorem dX0_init_100 : decode cX0_init 100 = .ok (.putfield 69, 3) := by decide +kernel
theorem dX0_init_103 : decode cX0_init 103 = .ok (.aload_n 0, 1) := by decide +kernel
theorem dX0_init_104 : decode cX0_init 104 = .ok (.new 73, 3) := by decide +kernel
theorem dX0_init_107 : decode cX0_init 107 = .ok (.dup, 1) := by decide +kernel
theorem dX0_init_108 : decode cX0_init 108 = .ok (.aload_n 1, 1) := by decide +kernel
theorem dX0_init_109 : decode cX0_init 109 = .ok (.aload_n 2, 1) := by decide +kernel
theorem dX0_init_110 : decode cX0_init 110 = .ok (.aload_n 0, 1) := by decide +kernel
theorem dX0_init_111 : decode cX0_init 111 = .ok (.getfield 60, 3) := by decide +kernel
theorem dX0_init_114 : decode cX0_init 114 = .ok (.aload 4, 2) := by decide +kernel
theorem dX0_init_116 : decode cX0_init 116 = .ok (.invokespecial 75, 3) := by decide +kernel
theorem dX0_init_119 : decode cX0_init 119 = .ok (.putfield 78, 3) := by decide +kernel
theorem dX0_init_122 : decode cX0_init 122 = .ok (.aload_n 0, 1) := by decide +kernel
theorem dX0_init_123 : decode cX0_init 123 = .ok (.new 82, 3) := by decide +kernel
theorem dX0_init_126 : decode cX0_init 126 = .ok (.dup, 1) := by decide +kernel
theorem dX0_init_127 : decode cX0_init 127 = .ok (.aload_n 1, 1) := by decide +kernel
theorem dX0_init_128 : decode cX0_init 128 = .ok (.aload_n 2, 1) := by decide +kernel
theorem dX0_init_129 : decode cX0_init 129 = .ok (.aload 4, 2) := by decide +kernel
theorem dX0_init_131 : decode cX0_init 131 = .ok (.invokespecial 84, 3) := by decide +kernel
theorem dX0_init_134 : decode cX0_init 134 = .ok (.putfield 87, 3) := by decide +kernel
theorem dX0_init_137 : decode cX0_init 137 = .ok (.return_, 1) := by decide +kernel
theorem dX0_tellText_0 : decode cX0_tellText 0 = .ok (.aload_n 0, 1) := by decide +kernel
theorem dX0_tellText_1 : decode cX0_tellText 1 = .ok (.invokevirtual 91, 3) := by decide +kernel
theorem dX0_tellText_4 : decode cX0_tellText 4 = .ok (.aload_n 0, 1) := by decide +kernel
theorem dX0_tellText_5 : decode cX0_tellText 5 = .ok (.getfield 43, 3) := by decide +kernel
theorem dX0_tellText_8 : decode cX0_tellText 8 = .ok (.getfield 94, 3) := by decide +kernel
theorem dX0_tellText_11 : decode cX0_tellText 11 = .ok (.istore_n 1, 1) := by decide +kernel
theorem dX0_tellText_12 : decode cX0_tellText 12 = .ok (.iconst 0, 1) := by decide +kernel
theorem dX0_tellText_13 : decode cX0_tellText 13 = .ok (.istore_n 2, 1) := by decide +kernel
theorem dX0_tellText_14 : decode cX0_tellText 14 = .ok (.iload_n 2, 1) := by decide +kernel
theorem dX0_tellText_15 : decode cX0_tellText 15 = .ok (.ldc 99, 2) := by decide +kernel
theorem dX0_tellText_17 : decode cX0_tellText 17 = .ok (.if_icmp .ge 144, 3) := by decide +kernel
theorem dX0_tellText_20 : decode cX0_tellText 20 = .ok (.aload_n 0, 1) := by decide +kernel
theorem dX0_tellText_21 : decode cX0_tellText 21 = .ok (.getfield 25, 3) := by decide +kernel
theorem dX0_tellText_24 : decode cX0_tellText 24 = .ok (.ifCond .ne 137, 3) := by decide +kernel
theorem dX0_tellText_27 : decode cX0_tellText 27 = .ok (.aload_n 0, 1) := by decide +kernel
theorem dX0_tellText_28 : decode cX0_tellText 28 = .ok (.getfield 12, 3) := by decide +kernel
theorem dX0_tellText_31 : decode cX0_tellText 31 = .ok (.getfield 100, 3) := by decide +kernel
theorem dX0_tellText_34 : decode cX0_tellText 34 = .ok (.ifCond .gt 11, 3) := by decide +kernel
theorem dX0_tellText_37 : decode cX0_tellText 37 = .ok (.aload_n 0, 1) := by decide +kernel
theorem dX0_tellText_38 : decode cX0_tellText 38 = .ok (.getfield 18, 3) := by decide +kernel
theorem dX0_tellText_41 : decode cX0_tellText 41 = .ok (.iload_n 1, 1) := by decide +kernel
theorem dX0_tellText_42 : decode cX0_tellText 42 = .ok (.if_icmp .ge 119, 3) := by decide +kernel
theorem dX0_tellText_45 : decode cX0_tellText 45 = .ok (.aload_n 0, 1) := by decide +kernel
theorem dX0_tellText_46 : decode cX0_tellText 46 = .ok (.getfield 12, 3) := by decide +kernel
theorem dX0_tellText_49 : decode cX0_tellText 49 = .ok (.getfield 100, 3) := by decide +kernel
theorem dX0_tellText_52 : decode cX0_tellText 52 = .ok (.ifCond .le 10, 3) := by decide +kernel
theorem dX0_tellText_55 : decode cX0_tellText 55 = .ok (.aload_n 0, 1) := by decide +kernel
theorem dX0_tellText_56 : decode cX0_tellText 56 = .ok (.invokevirtual 101, 3) := by decide +kernel
theorem dX0_tellText_59 : decode cX0_tellText 59 = .ok (.goto 7, 3) := by decide +kernel
theorem dX0_tellText_62 : decode cX0_tellText 62 = .ok (.aload_n 0, 1) := by decide +kernel
theorem dX0_tellText_63 : decode cX0_tellText 63 = .ok (.invokevirtual 105, 3) := by decide +kernel
theorem dX0_tellText_66 : decode cX0_tellText 66 = .ok (.istore_n 3, 1) := by decide +kernel
theorem dX0_tellText_67 : decode cX0_tellText 67 = .ok (.iload_n 3, 1) := by decide +kernel
theorem dX0_tellText_68 : decode cX0_tellText 68 = .ok (.iconst (-1), 1) := by decide +kernel
theorem dX0_tellText_69 : decode cX0_tellText 69 = .ok (.if_icmp .ne 6, 3) := by decide +kernel
theorem dX0_tellText_72 : decode cX0_tellText 72 = .ok (.goto 83, 3) := by decide +kernel
theorem dX0_tellText_75 : decode cX0_tellText 75 = .ok (.aload_n 0, 1) := by decide +kernel
theorem dX0_tellText_76 : decode cX0_tellText 76 = .ok (.iload_n 3, 1) := by decide +kernel
theorem dX0_tellText_77 : decode cX0_tellText 77 = .ok (.invokevirtual 108, 3) := by decide +kernel
theorem dX0_tellText_80 : decode cX0_tellText 80 = .ok (.istore 4, 2) := by decide +kernel
theorem dX0_tellText_82 : decode cX0_tellText 82 = .ok (.aload_n 0, 1) := by decide +kernel
theorem dX0_tellText_83 : decode cX0_tellText 83 = .ok (.getfield 43, 3) := by decide +kernel
theorem dX0_tellText_86 : decode cX0_tellText 86 = .ok (.iload_n 3, 1) := by decide +kernel
theorem dX0_tellText_87 : decode cX0_tellText 87 = .ok (.invokevirtual 112, 3) := by decide +kernel
theorem dX0_tellText_90 : decode cX0_tellText 90 = .ok (.ifCond .ne 11, 3) := by decide +kernel
theorem dX0_tellText_93 : decode cX0_tellText 93 = .ok (.aload_n 0, 1) := by decide +kernel
theorem dX0_tellText_94 : decode cX0_tellText 94 = .ok (.iload_n 3, 1) := by decide +kernel
theorem dX0_tellText_95 : decode cX0_tellText 95 = .ok (.invokevirtual 116, 3) := by decide +kernel
theorem dX0_tellText_98 : decode cX0_tellText 98 = .ok (.goto 57, 3) := by decide +kernel
theorem dX0_tellText_101 : decode cX0_tellText 101 = .ok (.aload_n 0, 1) := by decide +kernel
theorem dX0_tellText_102 : decode cX0_tellText 102 = .ok (.iload_n 3, 1) := by decide +kernel
theorem dX0_tellText_103 : decode cX0_tellText 103 = .ok (.invokevirtual 120, 3) := by decide +kernel
theorem dX0_tellText_106 : decode cX0_tellText 106 = .ok (.ifCond .ne 6, 3) := by decide +kernel
theorem dX0_tellText_109 : decode cX0_tellText 109 = .ok (.goto 52, 3) := by decide +kernel
theorem dX0_tellText_112 : decode cX0_tellText 112 = .ok (.iload 4, 2) := by decide +kernel
theorem dX0_tellText_114 : decode cX0_tellText 114 = .ok (.invokestatic 123, 3) := by decide +kernel
theorem dX0_tellText_117 : decode cX0_tellText 117 = .ok (.ifCond .eq 13, 3) := by decide +kernel
theorem dX0_tellText_120 : decode cX0_tellText 120 = .ok (.aload_n 0, 1) := by decide +kernel
theorem dX0_tellText_121 : decode cX0_tellText 121 = .ok (.iload_n 3, 1) := by decide +kernel
theorem dX0_tellText_122 : decode cX0_tellText 122 = .ok (.iload 4, 2) := by decide +kernel
theorem dX0_tellText_124 : decode cX0_tellText 124 = .ok (.invokevirtual 126, 3) := by decide +kernel
theorem dX0_tellText_127 : decode cX0_tellText 127 = .ok (.goto 28, 3) := by decide +kernel
theorem dX0_tellText_130 : decode cX0_tellText 130 = .ok (.iload 4, 2) := by decide +kernel
theorem dX0_tellText_132 : decode cX0_tellText 132 = .ok (.invokestatic 130, 3) := by decide +kernel
theorem dX0_tellText_135 : decode cX0_tellText 135 = .ok (.ifCond .eq 15, 3) := by decide +kernel
theorem dX0_tellText_138 : decode cX0_tellText 138 = .ok (.aload_n 0, 1) := by decide +kernel
theorem dX0_tellText_139 : decode cX0_tellText 139 = .ok (.iload_n 3, 1) := by decide +kernel
theorem dX0_tellText_140 : decode cX0_tellText 140 = .ok (.iload 4, 2) := by decide +kernel
theorem dX0_tellText_142 : decode cX0_tellText 142 = .ok (.iconst 2, 1) := by decide +kernel
theorem dX0_tellText_143 : decode cX0_tellText 143 = .ok (.ishr, 1) := by decide +kernel
theorem dX0_tellText_144 : decode cX0_tellText 144 = .ok (.invokevirtual 133, 3) := by decide +kernel
theorem dX0_tellText_147 : decode cX0_tellText 147 = .ok (.goto 8, 3) := by decide +kernel
theorem dX0_tellText_150 : decode cX0_tellText 150 = .ok (.aload_n 0, 1) := by decide +kernel
theorem dX0_tellText_151 : decode cX0_tellText 151 = .ok (.iload_n 3, 1) := by decide +kernel
theorem dX0_tellText_152 : decode cX0_tellText 152 = .ok (.invokevirtual 136, 3) := by decide +kernel
theorem dX0_tellText_155 : decode cX0_tellText 155 = .ok (.iinc 2 1, 3) := by decide +kernel
theorem dX0_tellText_158 : decode cX0_tellText 158 = .ok (.goto (-144), 3) := by decide +kernel
theorem dX0_tellText_161 : decode cX0_tellText 161 = .ok (.aload_n 0, 1) := by decide +kernel
theorem dX0_tellText_162 : decode cX0_tellText 162 = .ok (.getfield 60, 3) := by decide +kernel
theorem dX0_tellText_165 : decode cX0_tellText 165 = .ok (.iconst 0, 1) := by decide +kernel
theorem dX0_tellText_166 : decode cX0_tellText 166 = .ok (.invokevirtual 139, 3) := by decide +kernel
theorem dX0_tellText_169 : decode cX0_tellText 169 = .ok (.aload_n 0, 1) := by decide +kernel
theorem dX0_tellText_170 : decode cX0_tellText 170 = .ok (.getfield 25, 3) := by decide +kernel
theorem dX0_tellText_173 : decode cX0_tellText 173 = .ok (.ifCond .ne 20, 3) := by decide +kernel
theorem dX0_tellText_176 : decode cX0_tellText 176 = .ok (.aload_n 0, 1) := by decide +kernel
theorem dX0_tellText_177 : decode cX0_tellText 177 = .ok (.getfield 51, 3) := by decide +kernel
theorem dX0_tellText_180 : decode cX0_tellText 180 = .ok (.getfield 142, 3) := by decide +kernel
theorem dX0_tellText_183 : decode cX0_tellText 183 = .ok (.sipush 4000, 3) := by decide +kernel
theorem dX0_tellText_186 : decode cX0_tellText 186 = .ok (.if_icmp .le 7, 3) := by decide +kernel
theorem dX0_tellText_189 : decode cX0_tellText 189 = .ok (.iconst 2, 1) := by decide +kernel
theorem dX0_tellText_190 : decode cX0_tellText 190 = .ok (.goto 7, 3) := by decide +kernel
theorem dX0_tellText_193 : decode cX0_tellText 193 = .ok (.aload_n 0, 1) := by decide +kernel
theorem dX0_tellText_194 : decode cX0_tellText 194 = .ok (.getfield 25, 3) := by decide +kernel
theorem dX0_tellText_197 : decode cX0_tellText 197 = .ok (.ireturn, 1) := by decide +kernel
theorem dX0_startText_0 : decode cX0_startText 0 = .ok (.aload_n 0, 1) := by decide +kernel
theorem dX0_startText_1 : decode cX0_startText 1 = .ok (.sipush 4000, 3) := by decide +kernel
theorem dX0_startText_4 : decode cX0_startText 4 = .ok (.putfield 18, 3) := by decide +kernel
theorem dX0_startText_7 : decode cX0_startText 7 = .ok (.aload_n 0, 1) := by decide +kernel
theorem dX0_startText_8 : decode cX0_startText 8 = .ok (.getfield 12, 3) := by decide +kernel
theorem dX0_startText_11 : decode cX0_startText 11 = .ok (.iconst 0, 1) := by decide +kernel
theorem dX0_startText_12 : decode cX0_startText 12 = .ok (.putfield 100, 3) := by decide +kernel
theorem dX0_startText_15 : decode cX0_startText 15 = .ok (.aload_n 0, 1) := by decide +kernel
theorem dX0_startText_16 : decode cX0_startText 16 = .ok (.iconst (-1), 1) := by decide +kernel
theorem dX0_startText_17 : decode cX0_startText 17 = .ok (.putfield 22, 3) := by decide +kernel
theorem dX0_startText_20 : decode cX0_startText 20 = .ok (.aload_n 0, 1) := by decide +kernel
theorem dX0_startText_21 : decode cX0_startText 21 = .ok (.iconst 0, 1) := by decide +kernel
theorem dX0_startText_22 : decode cX0_startText 22 = .ok (.putfield 25, 3) := by decide +kernel
theorem dX0_startText_25 : decode cX0_startText 25 = .ok (.aload_n 0, 1) := by decide +kernel
theorem dX0_startText_26 : decode cX0_startText 26 = .ok (.iconst (-1), 1) := by decide +kernel
theorem dX0_startText_27 : decode cX0_startText 27 = .ok (.putfield 28, 3) := by decide +kernel
theorem dX0_startText_30 : decode cX0_startText 30 = .ok (.aload_n 0, 1) := by decide +kernel
theorem dX0_startText_31 : decode cX0_startText 31 = .ok (.iconst 0, 1) := by decide +kernel
theorem dX0_startText_32 : decode cX0_startText 32 = .ok (.putfield 31, 3) := by decide +kernel
theorem dX0_startText_35 : decode cX0_startText 35 = .ok (.aload_n 0, 1) := by decide +kernel
theorem dX0_startText_36 : decode cX0_startText 36 = .ok (.iconst 0, 1) := by decide +kernel
theorem dX0_startText_37 : decode cX0_startText 37 = .ok (.putfield 34, 3) := by decide +kernel
theorem dX0_startText_40 : decode cX0_startText 40 = .ok (.aload_n 0, 1) := by decide +kernel
theorem dX0_startText_41 : decode cX0_startText 41 = .ok (.iconst 0, 1) := by decide +kernel
theorem dX0_startText_42 : decode cX0_startText 42 = .ok (.putfield 37, 3) := by decide +kernel
theorem dX0_startText_45 : decode cX0_startText 45 = .ok (.return_, 1) := by decide +kernel
theorem dX1_init_0 : decode cX1_init 0 = .ok (.aload_n 0, 1) := by decide +kernel
theorem dX1_init_1 : decode cX1_init 1 = .ok (.invokespecial 3, 3) := by decide +kernel
theorem dX1_init_4 : decode cX1_init 4 = .ok (.aload_n 0, 1) := by decide +kernel
theorem dX1_init_5 : decode cX1_init 5 = .ok (.sipush 10000, 3) := by decide +kernel
theorem dX1_init_8 : decode cX1_init 8 = .ok (.newarray .int, 2) := by decide +kernel
theorem dX1_init_10 : decode cX1_init 10 = .ok (.putfield 11, 3) := by decide +kernel
theorem dX1_init_13 : decode cX1_init 13 = .ok (.aload_n 0, 1) := by decide +kernel
theorem dX1_init_14 : decode cX1_init 14 = .ok (.sipush 10000, 3) := by decide +kernel
theorem dX1_init_17 : decode cX1_init 17 = .ok (.newarray .int, 2) := by decide +kernel
theorem dX1_init_19 : decode cX1_init 19 = .ok (.putfield 15, 3) := by decide +kernel
theorem dX1_init_22 : decode cX1_init 22 = .ok (.aload_n 0, 1) := by decide +kernel
theorem dX1_init_23 : decode cX1_init 23 = .ok (.sipush 4000, 3) := by decide +kernel
theorem dX1_init_26 : decode cX1_init 26 = .ok (.putfield 18, 3) := by decide +kernel
theorem dX1_init_29 : decode cX1_init 29 = .ok (.aload_n 0, 1) := by decide +kernel
theorem dX1_init_30 : decode cX1_init 30 = .ok (.iconst 0, 1) := by decide +kernel
theorem dX1_init_31 : decode cX1_init 31 = .ok (.putfield 22, 3) := by decide +kernel
theorem dX1_init_34 : decode cX1_init 34 = .ok (.return_, 1) := by decide +kernel
theorem dX1_startText_0 : decode cX1_startText 0 = .ok (.aload_n 0, 1) := by decide +kernel
theorem dX1_startText_1 : decode cX1_startText 1 = .ok (.sipush 4000, 3) := by decide +kernel
theorem dX1_startText_4 : decode cX1_startText 4 = .ok (.putfield 18, 3) := by decide +kernel
theorem dX1_startText_7 : decode cX1_startText 7 = .ok (.return_, 1) := by decide +kernel
theorem dX2_init_0 : decode cX2_init 0 = .ok (.aload_n 0, 1) := by decide +kernel
theorem dX2_init_1 : decode cX2_init 1 = .ok (.invokespecial 3, 3) := by decide +kernel
theorem dX2_init_4 : decode cX2_init 4 = .ok (.aload_n 0, 1) := by decide +kernel
theorem dX2_init_5 : decode cX2_init 5 = .ok (.bipush 101, 2) := by decide +kernel
theorem dX2_init_7 : decode cX2_init 7 = .ok (.newarray .int, 2) := by decide +kernel
theorem dX2_init_9 : decode cX2_init 9 = .ok (.putfield 11, 3) := by decide +kernel
theorem dX2_init_12 : decode cX2_init 12 = .ok (.aload_n 0, 1) := by decide +kernel
theorem dX2_init_13 : decode cX2_init 13 = .ok (.bipush 101, 2) := by decide +kernel
theorem dX2_init_15 : decode cX2_init 15 = .ok (.newarray .int, 2) := by decide +kernel
theorem dX2_init_17 : decode cX2_init 17 = .ok (.putfield 15, 3) := by decide +kernel
theorem dX2_init_20 : decode cX2_init 20 = .ok (.aload_n 0, 1) := by decide +kernel
theorem dX2_init_21 : decode cX2_init 21 = .ok (.bipush 101, 2) := by decide +kernel
theorem dX2_init_23 : decode cX2_init 23 = .ok (.newarray .boolean, 2) := by decide +kernel
theorem dX2_init_25 : decode cX2_init 25 = .ok (.putfield 18, 3) := by decide +kernel
theorem dX2_init_28 : decode cX2_init 28 = .ok (.aload_n 0, 1) := by decide +kernel
theorem dX2_init_29 : decode cX2_init 29 = .ok (.bipush 101, 2) := by decide +kernel
theorem dX2_init_31 : decode cX2_init 31 = .ok (.newarray .int, 2) := by decide +kernel
theorem dX2_init_33 : decode cX2_init 33 = .ok (.putfield 22, 3) := by decide +kernel
theorem dX2_init_36 : decode cX2_init 36 = .ok (.aload_n 0, 1) := by decide +kernel
theorem dX2_init_37 : decode cX2_init 37 = .ok (.bipush 101, 2) := by decide +kernel
theorem dX2_init_39 : decode cX2_init 39 = .ok (.newarray .int, 2) := by decide +kernel
theorem dX2_init_41 : decode cX2_init 41 = .ok (.putfield 25, 3) := by decide +kernel
theorem dX2_init_44 : decode cX2_init 44 = .ok (.aload_n 0, 1) := by decide +kernel
theorem dX2_init_45 : decode cX2_init 45 = .ok (.bipush 101, 2) := by decide +kernel
theorem dX2_init_47 : decode cX2_init 47 = .ok (.newarray .int, 2) := by decide +kernel
theorem dX2_init_49 : decode cX2_init 49 = .ok (.putfield 28, 3) := by decide +kernel
theorem dX2_init_52 : decode cX2_init 52 = .ok (.aload_n 0, 1) := by decide +kernel
theorem dX2_init_53 : decode cX2_init 53 = .ok (.iconst 0, 1) := by decide +kernel
theorem dX2_init_54 : decode cX2_init 54 = .ok (.putfield 31, 3) := by decide +kernel
theorem dX2_init_57 : decode cX2_init 57 = .ok (.return_, 1) := by decide +kernel
theorem dX3_init_0 : decode cX3_init 0 = .ok (.aload_n 0, 1) := by decide +kernel
theorem dX3_init_1 : decode cX3_init 1 = .ok (.invokespecial 3, 3) := by decide +kernel
theorem dX3_init_4 : decode cX3_init 4 = .ok (.aload_n 0, 1) := by decide +kernel
theorem dX3_init_5 : decode cX3_init 5 = .ok (.iconst 0, 1) := by decide +kernel
theorem dX3_init_6 : decode cX3_init 6 = .ok (.putfield 9, 3) := by decide +kernel
theorem dX3_init_9 : decode cX3_init 9 = .ok (.aload_n 0, 1) := by decide +kernel
theorem dX3_init_10 : decode cX3_init 10 = .ok (.iconst 0, 1) := by decide +kernel
theorem dX3_init_11 : decode cX3_init 11 = .ok (.putfield 15, 3) := by decide +kernel
theorem dX3_init_14 : decode cX3_init 14 = .ok (.aload_n 0, 1) := by decide +kernel
theorem dX3_init_15 : decode cX3_init 15 = .ok (.iconst 0, 1) := by decide +kernel
theorem dX3_init_16 : decode cX3_init 16 = .ok (.putfield 18, 3) := by decide +kernel
theorem dX3_init_19 : decode cX3_init 19 = .ok (.aload_n 0, 1) := by decide +kernel
theorem dX3_init_20 : decode cX3_init 20 = .ok (.aload_n 1, 1) := by decide +kernel
theorem dX3_init_21 : decode cX3_init 21 = .ok (.putfield 22, 3) := by decide +kernel
theorem dX3_init_24 : decode cX3_init 24 = .ok (.aload_n 0, 1) := by decide +kernel
theorem dX3_init_25 : decode cX3_init 25 = .ok (.aload_n 2, 1) := by decide +kernel
theorem dX3_init_26 : decode cX3_init 26 = .ok (.putfield 26, 3) := by decide +kernel
theorem dX3_init_29 : decode cX3_init 29 = .ok (.aload_n 0, 1) := by decide +kernel
theorem dX3_init_30 : decode cX3_init 30 = .ok (.aload_n 3, 1) := by decide +kernel
theorem dX3_init_31 : decode cX3_init 31 = .ok (.putfield 30, 3) := by decide +kernel
theorem dX3_init_34 : decode cX3_init 34 = .ok (.return_, 1) := by decide +kernel
theorem dX4_init_0 : decode cX4_init 0 = .ok (.aload_n 0, 1) := by decide +kernel
theorem dX4_init_1 : decode cX4_init 1 = .ok (.invokespecial 3, 3) := by decide +kernel
theorem dX4_init_4 : decode cX4_init 4 = .ok (.aload_n 0, 1) := by decide +kernel
theorem dX4_init_5 : decode cX4_init 5 = .ok (.iconst (-1), 1) := by decide +kernel
theorem dX4_init_6 : decode cX4_init 6 = .ok (.putfield 9, 3) := by decide +kernel
theorem dX4_init_9 : decode cX4_init 9 = .ok (.aload_n 0, 1) := by decide +kernel
theorem dX4_init_10 : decode cX4_init 10 = .ok (.iconst 0, 1) := by decide +kernel
theorem dX4_init_11 : decode cX4_init 11 = .ok (.putfield 15, 3) := by decide +kernel
theorem dX4_init_14 : decode cX4_init 14 = .ok (.aload_n 0, 1) := by decide +kernel
theorem dX4_init_15 : decode cX4_init 15 = .ok (.aload_n 1, 1) := by decide +kernel
theorem dX4_init_16 : decode cX4_init 16 = .ok (.putfield 18, 3) := by decide +kernel
theorem dX4_init_19 : decode cX4_init 19 = .ok (.aload_n 0, 1) := by decide +kernel
theorem dX4_init_20 : decode cX4_init 20 = .ok (.aload_n 2, 1) := by decide +kernel
theorem dX4_init_21 : decode cX4_init 21 = .ok (.putfield 22, 3) := by decide +kernel
theorem dX4_init_24 : decode cX4_init 24 = .ok (.aload_n 0, 1) := by decide +kernel
theorem dX4_init_25 : decode cX4_init 25 = .ok (.aload_n 3, 1) := by decide +kernel
theorem dX4_init_26 : decode cX4_init 26 = .ok (.putfield 26, 3) := by decide +kernel
theorem dX4_init_29 : decode cX4_init 29 = .ok (.aload_n 0, 1) := by decide +kernel
theorem dX4_init_30 : decode cX4_init 30 = .ok (.aload 4, 2) := by decide +kernel
theorem dX4_init_32 : decode cX4_init 32 = .ok (.putfield 30, 3) := by decide +kernel
theorem dX4_init_35 : decode cX4_init 35 = .ok (.return_, 1) := by decide +kernel
theorem dX5_init_0 : decode cX5_init 0 = .ok (.aload_n 0, 1) := by decide +kernel
theorem dX5_init_1 : decode cX5_init 1 = .ok (.invokespecial 3, 3) := by decide +kernel
theorem dX5_init_4 : decode cX5_init 4 = .ok (.aload_n 0, 1) := by decide +kernel
theorem dX5_init_5 : decode cX5_init 5 = .ok (.sipush 3000, 3) := by decide +kernel
theorem dX5_init_8 : decode cX5_init 8 = .ok (.newarray .int, 2) := by decide +kernel
theorem dX5_init_10 : decode cX5_init 10 = .ok (.putfield 9, 3) := by decide +kernel
theorem dX5_init_13 : decode cX5_init 13 = .ok (.aload_n 0, 1) := by decide +kernel
theorem dX5_init_14 : decode cX5_init 14 = .ok (.sipush 3000, 3) := by decide +kernel
theorem dX5_init_17 : decode cX5_init 17 = .ok (.newarray .int, 2) := by decide +kernel
theorem dX5_init_19 : decode cX5_init 19 = .ok (.putfield 15, 3) := by decide +kernel
theorem dX5_init_22 : decode cX5_init 22 = .ok (.aload_n 0, 1) := by decide +kernel
theorem dX5_init_23 : decode cX5_init 23 = .ok (.sipush 3000, 3) := by decide +kernel
theorem dX5_init_26 : decode cX5_init 26 = .ok (.newarray .int, 2) := by decide +kernel
theorem dX5_init_28 : decode cX5_init 28 = .ok (.putfield 18, 3) := by decide +kernel
theorem dX5_init_31 : decode cX5_init 31 = .ok (.aload_n 0, 1) := by decide +kernel
theorem dX5_init_32 : decode cX5_init 32 = .ok (.sipush 3000, 3) := by decide +kernel
theorem dX5_init_35 : decode cX5_init 35 = .ok (.newarray .int, 2) := by decide +kernel
theorem dX5_init_37 : decode cX5_init 37 = .ok (.putfield 21, 3) := by decide +kernel
theorem dX5_init_40 : decode cX5_init 40 = .ok (.aload_n 0, 1) := by decide +kernel
theorem dX5_init_41 : decode cX5_init 41 = .ok (.iconst 0, 1) := by decide +kernel
theorem dX5_init_42 : decode cX5_init 42 = .ok (.putfield 24, 3) := by decide +kernel
theorem dX5_init_45 : decode cX5_init 45 = .ok (.aload_n 0, 1) := by decide +kernel
theorem dX5_init_46 : decode cX5_init 46 = .ok (.iconst 0, 1) := by decide +kernel
theorem dX5_init_47 : decode cX5_init 47 = .ok (.putfield 28, 3) := by decide +kernel
theorem dX5_init_50 : decode cX5_init 50 = .ok (.return_, 1) := by decide +kernel
theorem dX6_init_0 : decode cX6_init 0 = .ok (.aload_n 0, 1) := by decide +kernel
theorem dX6_init_1 : decode cX6_init 1 = .ok (.invokespecial 3, 3) := by decide +kernel
theorem dX6_init_4 : decode cX6_init 4 = .ok (.aload_n 0, 1) := by decide +kernel
theorem dX6_init_5 : decode cX6_init 5 = .ok (.sipush 2560, 3) := by decide +kernel
theorem dX6_init_8 : decode cX6_init 8 = .ok (.newarray .long, 2) := by decide +kernel
theorem dX6_init_10 : decode cX6_init 10 = .ok (.putfield 9, 3) := by decide +kernel
theorem dX6_init_13 : decode cX6_init 13 = .ok (.aload_n 0, 1) := by decide +kernel
theorem dX6_init_14 : decode cX6_init 14 = .ok (.sipush 2560, 3) := by decide +kernel
theorem dX6_init_17 : decode cX6_init 17 = .ok (.newarray .long, 2) := by decide +kernel
theorem dX6_init_19 : decode cX6_init 19 = .ok (.putfield 15, 3) := by decide +kernel
theorem dX6_init_22 : decode cX6_init 22 = .ok (.aload_n 0, 1) := by decide +kernel
theorem dX6_init_23 : decode cX6_init 23 = .ok (.sipush 2560, 3) := by decide +kernel
theorem dX6_init_26 : decode cX6_init 26 = .ok (.newarray .int, 2) := by decide +kernel
theorem dX6_init_28 : decode cX6_init 28 = .ok (.putfield 18, 3) := by decide +kernel
theorem dX6_init_31 : decode cX6_init 31 = .ok (.aload_n 0, 1) := by decide +kernel
theorem dX6_init_32 : decode cX6_init 32 = .ok (.sipush 2560, 3) := by decide +kernel
theorem dX6_init_35 : decode cX6_init 35 = .ok (.newarray .int, 2) := by decide +kernel
theorem dX6_init_37 : decode cX6_init 37 = .ok (.putfield 22, 3) := by decide +kernel
theorem dX6_init_40 : decode cX6_init 40 = .ok (.aload_n 0, 1) := by decide +kernel
theorem dX6_init_41 : decode cX6_init 41 = .ok (.iconst 0, 1) := by decide +kernel
theorem dX6_init_42 : decode cX6_init 42 = .ok (.putfield 25, 3) := by decide +kernel
theorem dX6_init_45 : decode cX6_init 45 = .ok (.aload_n 0, 1) := by decide +kernel
theorem dX6_init_46 : decode cX6_init 46 = .ok (.iconst 0, 1) := by decide +kernel
theorem dX6_init_47 : decode cX6_init 47 = .ok (.putfield 29, 3) := by decide +kernel
theorem dX6_init_50 : decode cX6_init 50 = .ok (.aload_n 0, 1) := by decide +kernel
theorem dX6_init_51 : decode cX6_init 51 = .ok (.sipush 3760, 3) := by decide +kernel
theorem dX6_init_54 : decode cX6_init 54 = .ok (.newarray .int, 2) := by decide +kernel
theorem dX6_init_56 : decode cX6_init 56 = .ok (.putfield 32, 3) := by decide +kernel
theorem dX6_init_59 : decode cX6_init 59 = .ok (.aload_n 0, 1) := by decide +kernel
theorem dX6_init_60 : decode cX6_init 60 = .ok (.sipush 3760, 3) := by decide +kernel
theorem dX6_init_63 : decode cX6_init 63 = .ok (.newarray .int, 2) := by decide +kernel
theorem dX6_init_65 : decode cX6_init 65 = .ok (.putfield 35, 3) := by decide +kernel
theorem dX6_init_68 : decode cX6_init 68 = .ok (.aload_n 0, 1) := by decide +kernel
theorem dX6_init_69 : decode cX6_init 69 = .ok (.sipush 3760, 3) := by decide +kernel
theorem dX6_init_72 : decode cX6_init 72 = .ok (.newarray .int, 2) := by decide +kernel
theorem dX6_init_74 : decode cX6_init 74 = .ok (.putfield 38, 3) := by decide +kernel
theorem dX6_init_77 : decode cX6_init 77 = .ok (.aload_n 0, 1) := by decide +kernel
theorem dX6_init_78 : decode cX6_init 78 = .ok (.sipush 3760, 3) := by decide +kernel
theorem dX6_init_81 : decode cX6_init 81 = .ok (.newarray .int, 2) := by decide +kernel
theorem dX6_init_83 : decode cX6_init 83 = .ok (.putfield 41, 3) := by decide +kernel
theorem dX6_init_86 : decode cX6_init 86 = .ok (.aload_n 0, 1) := by decide +kernel
theorem dX6_init_87 : decode cX6_init 87 = .ok (.sipush 3760, 3) := by decide +kernel
theorem dX6_init_90 : decode cX6_init 90 = .ok (.newarray .int, 2) := by decide +kernel
theorem dX6_init_92 : decode cX6_init 92 = .ok (.putfield 44, 3) := by decide +kernel
theorem dX6_init_95 : decode cX6_init 95 = .ok (.aload_n 0, 1) := by decide +kernel
theorem dX6_init_96 : decode cX6_init 96 = .ok (.iconst 0, 1) := by decide +kernel
theorem dX6_init_97 : decode cX6_init 97 = .ok (.putfield 47, 3) := by decide +kernel
theorem dX6_init_100 : decode cX6_init 100 = .ok (.aload_n 0, 1) := by decide +kernel
theorem dX6_init_101 : decode cX6_init 101 = .ok (.iconst 0, 1) := by decide +kernel
theorem dX6_init_102 : decode cX6_init 102 = .ok (.putfield 50, 3) := by decide +kernel
theorem dX6_init_105 : decode cX6_init 105 = .ok (.aload_n 0, 1) := by decide +kernel
theorem dX6_init_106 : decode cX6_init 106 = .ok (.ldc 53, 2) := by decide +kernel
theorem dX6_init_108 : decode cX6_init 108 = .ok (.invokevirtual 55, 3) := by decide +kernel
theorem dX6_init_111 : decode cX6_init 111 = .ok (.aload_n 0, 1) := by decide +kernel
theorem dX6_init_112 : decode cX6_init 112 = .ok (.ldc 59, 2) := by decide +kernel
theorem dX6_init_114 : decode cX6_init 114 = .ok (.invokevirtual 55, 3) := by decide +kernel
theorem dX6_init_117 : decode cX6_init 117 = .ok (.aload_n 0, 1) := by decide +kernel
theorem dX6_init_118 : decode cX6_init 118 = .ok (.ldc 61, 2) := by decide +kernel
theorem dX6_init_120 : decode cX6_init 120 = .ok (.invokevirtual 55, 3) := by decide +kernel
theorem dX6_init_123 : decode cX6_init 123 = .ok (.aload_n 0, 1) := by decide +kernel
theorem dX6_init_124 : decode cX6_init 124 = .ok (.ldc 63, 2) := by decide +kernel
theorem dX6_init_126 : decode cX6_init 126 = .ok (.invokevirtual 55, 3) := by decide +kernel
theorem dX6_init_129 : decode cX6_init 129 = .ok (.aload_n 0, 1) := by decide +kernel
theorem dX6_init_130 : decode cX6_init 130 = .ok (.ldc 65, 2) := by decide +kernel
theorem dX6_init_132 : decode cX6_init 132 = .ok (.invokevirtual 55, 3) := by decide +kernel
theorem dX6_init_135 : decode cX6_init 135 = .ok (.aload_n 0, 1) := by decide +kernel
theorem dX6_init_136 : decode cX6_init 136 = .ok (.ldc 67, 2) := by decide +kernel
theorem dX6_init_138 : decode cX6_init 138 = .ok (.invokevirtual 55, 3) := by decide +kernel
theorem dX6_init_141 : decode cX6_init 141 = .ok (.aload_n 0, 1) := by decide +kernel
theorem dX6_init_142 : decode cX6_init 142 = .ok (.ldc 69, 2) := by decide +kernel
theorem dX6_init_144 : decode cX6_init 144 = .ok (.invokevirtual 55, 3) := by decide +kernel
theorem dX6_init_147 : decode cX6_init 147 = .ok (.aload_n 0, 1) := by decide +kernel
theorem dX6_init_148 : decode cX6_init 148 = .ok (.ldc 71, 2) := by decide +kernel
theorem dX6_init_150 : decode cX6_init 150 = .ok (.invokevirtual 55, 3) := by decide +kernel
theorem dX6_init_153 : decode cX6_init 153 = .ok (.aload_n 0, 1) := by decide +kernel
theorem dX6_init_154 : decode cX6_init 154 = .ok (.ldc 73, 2) := by decide +kernel
theorem dX6_init_156 : decode cX6_init 156 = .ok (.invokevirtual 55, 3) := by decide +kernel
theorem dX6_init_159 : decode cX6_init 159 = .ok (.return_, 1) := by decide +kernel
theorem dX6_addGiven_0 : decode cX6_addGiven 0 = .ok (.aload_n 1, 1) := by decide +kernel
theorem dX6_addGiven_1 : decode cX6_addGiven 1 = .ok (.invokevirtual 75, 3) := by decide +kernel
theorem dX6_addGiven_4 : decode cX6_addGiven 4 = .ok (.astore_n 2, 1) := by decide +kernel
theorem dX6_addGiven_5 : decode cX6_addGiven 5 = .ok (.aload_n 0, 1) := by decide +kernel
theorem dX6_addGiven_6 : decode cX6_addGiven 6 = .ok (.aload_n 2, 1) := by decide +kernel
theorem dX6_addGiven_7 : decode cX6_addGiven 7 = .ok (.iconst 0, 1) := by decide +kernel
theorem dX6_addGiven_8 : decode cX6_addGiven 8 = .ok (.aload_n 2, 1) := by decide +kernel
theorem dX6_addGiven_9 : decode cX6_addGiven 9 = .ok (.arraylength, 1) := by decide +kernel
theorem dX6_addGiven_10 : decode cX6_addGiven 10 = .ok (.invokestatic 81, 3) := by decide +kernel
theorem dX6_addGiven_13 : decode cX6_addGiven 13 = .ok (.aload_n 2, 1) := by decide +kernel
theorem dX6_addGiven_14 : decode cX6_addGiven 14 = .ok (.bipush 8, 2) := by decide +kernel
theorem dX6_addGiven_16 : decode cX6_addGiven 16 = .ok (.aload_n 2, 1) := by decide +kernel
theorem dX6_addGiven_17 : decode cX6_addGiven 17 = .ok (.arraylength, 1) := by decide +kernel
theorem dX6_addGiven_18 : decode cX6_addGiven 18 = .ok (.invokestatic 81, 3) := by decide +kernel
theorem dX6_addGiven_21 : decode cX6_addGiven 21 = .ok (.invokevirtual 85, 3) := by decide +kernel
theorem dX6_addGiven_24 : decode cX6_addGiven 24 = .ok (.pop, 1) := by decide +kernel
theorem dX6_addGiven_25 : decode cX6_addGiven 25 = .ok (.return_, 1) := by decide +kernel
theorem dX6_half_0 : decode cX6_half 0 = .ok (.lconst 0, 1) := by decide +kernel
theorem dX6_half_1 : decode cX6_half 1 = .ok (.lstore_n 3, 1) := by decide +kernel
theorem dX6_half_2 : decode cX6_half 2 = .ok (.iload_n 1, 1) := by decide +kernel
theorem dX6_half_3 : decode cX6_half 3 = .ok (.istore 5, 2) := by decide +kernel
theorem dX6_half_5 : decode cX6_half 5 = .ok (.iload 5, 2) := by decide +kernel
theorem dX6_half_7 : decode cX6_half 7 = .ok (.iload_n 2, 1) := by decide +kernel
theorem dX6_half_8 : decode cX6_half 8 = .ok (.if_icmp .ge 41, 3) := by decide +kernel
theorem dX6_half_11 : decode cX6_half 11 = .ok (.iload 5, 2) := by decide +kernel
theorem dX6_half_13 : decode cX6_half 13 = .ok (.iload_n 1, 1) := by decide +kernel
theorem dX6_half_14 : decode cX6_half 14 = .ok (.bipush 8, 2) := by decide +kernel
theorem dX6_half_16 : decode cX6_half 16 = .ok (.iadd, 1) := by decide +kernel
theorem dX6_half_17 : decode cX6_half 17 = .ok (.if_icmp .ge 32, 3) := by decide +kernel
theorem dX6_half_20 : decode cX6_half 20 = .ok (.iload 5, 2) := by decide +kernel
theorem dX6_half_22 : decode cX6_half 22 = .ok (.ifCond .lt 27, 3) := by decide +kernel
theorem dX6_half_25 : decode cX6_half 25 = .ok (.iload 5, 2) := by decide +kernel
theorem dX6_half_27 : decode cX6_half 27 = .ok (.aload_n 0, 1) := by decide +kernel
theorem dX6_half_28 : decode cX6_half 28 = .ok (.arraylength, 1) := by decide +kernel
theorem dX6_half_29 : decode cX6_half 29 = .ok (.if_icmp .ge 20, 3) := by decide +kernel
theorem dX6_half_32 : decode cX6_half 32 = .ok (.lload_n 3, 1) := by decide +kernel
theorem dX6_half_33 : decode cX6_half 33 = .ok (.bipush 8, 2) := by decide +kernel
theorem dX6_half_35 : decode cX6_half 35 = .ok (.lshl, 1) := by decide +kernel
theorem dX6_half_36 : decode cX6_half 36 = .ok (.aload_n 0, 1) := by decide +kernel
theorem dX6_half_37 : decode cX6_half 37 = .ok (.iload 5, 2) := by decide +kernel
theorem dX6_half_39 : decode cX6_half 39 = .ok (.caload, 1) := by decide +kernel
theorem dX6_half_40 : decode cX6_half 40 = .ok (.i2l, 1) := by decide +kernel
theorem dX6_half_41 : decode cX6_half 41 = .ok (.lor, 1) := by decide +kernel
theorem dX6_half_42 : decode cX6_half 42 = .ok (.lstore_n 3, 1) := by decide +kernel
theorem dX6_half_43 : decode cX6_half 43 = .ok (.iinc 5 1, 3) := by decide +kernel
theorem dX6_half_46 : decode cX6_half 46 = .ok (.goto (-41), 3) := by decide +kernel
theorem dX6_half_49 : decode cX6_half 49 = .ok (.lload_n 3, 1) := by decide +kernel
theorem dX6_half_50 : decode cX6_half 50 = .ok (.lreturn, 1) := by decide +kernel
theorem dX6_startText_0 : decode cX6_startText 0 = .ok (.aload_n 0, 1) := by decide +kernel
theorem dX6_startText_1 : decode cX6_startText 1 = .ok (.aload_n 0, 1) := by decide +kernel
theorem dX6_startText_2 : decode cX6_startText 2 = .ok (.getfield 25, 3) := by decide +kernel
theorem dX6_startText_5 : decode cX6_startText 5 = .ok (.putfield 47, 3) := by decide +kernel
theorem dX6_startText_8 : decode cX6_startText 8 = .ok (.aload_n 0, 1) := by decide +kernel
theorem dX6_startText_9 : decode cX6_startText 9 = .ok (.aload_n 0, 1) := by decide +kernel
theorem dX6_startText_10 : decode cX6_startText 10 = .ok (.getfield 25, 3) := by decide +kernel
theorem dX6_startText_13 : decode cX6_startText 13 = .ok (.putfield 29, 3) := by decide +kernel
theorem dX6_startText_16 : decode cX6_startText 16 = .ok (.aload_n 0, 1) := by decide +kernel
theorem dX6_startText_17 : decode cX6_startText 17 = .ok (.getfield 18, 3) := by decide +kernel
theorem dX6_startText_20 : decode cX6_startText 20 = .ok (.iconst 0, 1) := by decide +kernel
theorem dX6_startText_21 : decode cX6_startText 21 = .ok (.aload_n 0, 1) := by decide +kernel
theorem dX6_startText_22 : decode cX6_startText 22 = .ok (.getfield 22, 3) := by decide +kernel
theorem dX6_startText_25 : decode cX6_startText 25 = .ok (.iconst 0, 1) := by decide +kernel
theorem dX6_startText_26 : decode cX6_startText 26 = .ok (.aload_n 0, 1) := by decide +kernel
theorem dX6_startText_27 : decode cX6_startText 27 = .ok (.getfield 25, 3) := by decide +kernel
theorem dX6_startText_30 : decode cX6_startText 30 = .ok (.invokestatic 89, 3) := by decide +kernel
theorem dX6_startText_33 : decode cX6_startText 33 = .ok (.return_, 1) := by decide +kernel
theorem dX6_take_0 : decode cX6_take 0 = .ok (.iload_n 1, 1) := by decide +kernel
theorem dX6_take_1 : decode cX6_take 1 = .ok (.ifCond .ne 11, 3) := by decide +kernel
theorem dX6_take_4 : decode cX6_take 4 = .ok (.aload_n 0, 1) := by decide +kernel
theorem dX6_take_5 : decode cX6_take 5 = .ok (.aload_n 0, 1) := by decide +kernel
theorem dX6_take_6 : decode cX6_take 6 = .ok (.getfield 29, 3) := by decide +kernel
theorem dX6_take_9 : decode cX6_take 9 = .ok (.putfield 25, 3) := by decide +kernel
theorem dX6_take_12 : decode cX6_take 12 = .ok (.return_, 1) := by decide +kernel
theorem dX6_addSymbol_0 : decode cX6_addSymbol 0 = .ok (.aload_n 0, 1) := by decide +kernel
theorem dX6_addSymbol_1 : decode cX6_addSymbol 1 = .ok (.getfield 25, 3) := by decide +kernel
theorem dX6_addSymbol_4 : decode cX6_addSymbol 4 = .ok (.sipush 2560, 3) := by decide +kernel
theorem dX6_addSymbol_7 : decode cX6_addSymbol 7 = .ok (.if_icmp .lt 5, 3) := by decide +kernel
theorem dX6_addSymbol_10 : decode cX6_addSymbol 10 = .ok (.iconst (-1), 1) := by decide +kernel
theorem dX6_addSymbol_11 : decode cX6_addSymbol 11 = .ok (.ireturn, 1) := by decide +kernel
theorem dX6_addSymbol_12 : decode cX6_addSymbol 12 = .ok (.aload_n 0, 1) := by decide +kernel
theorem dX6_addSymbol_13 : decode cX6_addSymbol 13 = .ok (.getfield 9, 3) := by decide +kernel
theorem dX6_addSymbol_16 : decode cX6_addSymbol 16 = .ok (.aload_n 0, 1) := by decide +kernel
theorem dX6_addSymbol_17 : decode cX6_addSymbol 17 = .ok (.getfield 25, 3) := by decide +kernel
theorem dX6_addSymbol_20 : decode cX6_addSymbol 20 = .ok (.lload_n 1, 1) := by decide +kernel
theorem dX6_addSymbol_21 : decode cX6_addSymbol 21 = .ok (.lastore, 1) := by decide +kernel
theorem dX6_addSymbol_22 : decode cX6_addSymbol 22 = .ok (.aload_n 0, 1) := by decide +kernel
theorem dX6_addSymbol_23 : decode cX6_addSymbol 23 = .ok (.getfield 15, 3) := by decide +kernel
theorem dX6_addSymbol_26 : decode cX6_addSymbol 26 = .ok (.aload_n 0, 1) := by decide +kernel
theorem dX6_addSymbol_27 : decode cX6_addSymbol 27 = .ok (.getfield 25, 3) := by decide +kernel
theorem dX6_addSymbol_30 : decode cX6_addSymbol 30 = .ok (.lload_n 3, 1) := by decide +kernel
theorem dX6_addSymbol_31 : decode cX6_addSymbol 31 = .ok (.lastore, 1) := by decide +kernel
theorem dX6_addSymbol_32 : decode cX6_addSymbol 32 = .ok (.aload_n 0, 1) := by decide +kernel
theorem dX6_addSymbol_33 : decode cX6_addSymbol 33 = .ok (.getfield 18, 3) := by decide +kernel
theorem dX6_addSymbol_36 : decode cX6_addSymbol 36 = .ok (.aload_n 0, 1) := by decide +kernel
theorem dX6_addSymbol_37 : decode cX6_addSymbol 37 = .ok (.getfield 25, 3) := by decide +kernel
theorem dX6_addSymbol_40 : decode cX6_addSymbol 40 = .ok (.iconst (-1), 1) := by decide +kernel
theorem dX6_addSymbol_41 : decode cX6_addSymbol 41 = .ok (.iastore, 1) := by decide +kernel
theorem dX6_addSymbol_42 : decode cX6_addSymbol 42 = .ok (.aload_n 0, 1) := by decide +kernel
theorem dX6_addSymbol_43 : decode cX6_addSymbol 43 = .ok (.dup, 1) := by decide +kernel
theorem dX6_addSymbol_44 : decode cX6_addSymbol 44 = .ok (.getfield 25, 3) := by decide +kernel
theorem dX6_addSymbol_47 : decode cX6_addSymbol 47 = .ok (.iconst 1, 1) := by decide +kernel
theorem dX6_addSymbol_48 : decode cX6_addSymbol 48 = .ok (.iadd, 1) := by decide +kernel
theorem dX6_addSymbol_49 : decode cX6_addSymbol 49 = .ok (.putfield 25, 3) := by decide +kernel
theorem dX6_addSymbol_52 : decode cX6_addSymbol 52 = .ok (.aload_n 0, 1) := by decide +kernel
theorem dX6_addSymbol_53 : decode cX6_addSymbol 53 = .ok (.iconst (-1), 1) := by decide +kernel
theorem dX6_addSymbol_54 : decode cX6_addSymbol 54 = .ok (.iconst 0, 1) := by decide +kernel
theorem dX6_addSymbol_55 : decode cX6_addSymbol 55 = .ok (.invokevirtual 95, 3) := by decide +kernel
theorem dX6_addSymbol_58 : decode cX6_addSymbol 58 = .ok (.ireturn, 1) := by decide +kernel
theorem dX6_addName_0 : decode cX6_addName 0 = .ok (.aload_n 0, 1) := by decide +kernel
theorem dX6_addName_1 : decode cX6_addName 1 = .ok (.getfield 47, 3) := by decide +kernel
theorem dX6_addName_4 : decode cX6_addName 4 = .ok (.aload_n 0, 1) := by decide +kernel
theorem dX6_addName_5 : decode cX6_addName 5 = .ok (.getfield 32, 3) := by decide +kernel
theorem dX6_addName_8 : decode cX6_addName 8 = .ok (.arraylength, 1) := by decide +kernel
theorem dX6_addName_9 : decode cX6_addName 9 = .ok (.if_icmp .lt 5, 3) := by decide +kernel
theorem dX6_addName_12 : decode cX6_addName 12 = .ok (.iconst (-1), 1) := by decide +kernel
theorem dX6_addName_13 : decode cX6_addName 13 = .ok (.ireturn, 1) := by decide +kernel
theorem dX6_addName_14 : decode cX6_addName 14 = .ok (.aload_n 0, 1) := by decide +kernel
theorem dX6_addName_15 : decode cX6_addName 15 = .ok (.getfield 32, 3) := by decide +kernel
theorem dX6_addName_18 : decode cX6_addName 18 = .ok (.aload_n 0, 1) := by decide +kernel
theorem dX6_addName_19 : decode cX6_addName 19 = .ok (.getfield 47, 3) := by decide +kernel
theorem dX6_addName_22 : decode cX6_addName 22 = .ok (.iload_n 1, 1) := by decide +kernel
theorem dX6_addName_23 : decode cX6_addName 23 = .ok (.iastore, 1) := by decide +kernel
theorem dX6_addName_24 : decode cX6_addName 24 = .ok (.aload_n 0, 1) := by decide +kernel
theorem dX6_addName_25 : decode cX6_addName 25 = .ok (.getfield 35, 3) := by decide +kernel
theorem dX6_addName_28 : decode cX6_addName 28 = .ok (.aload_n 0, 1) := by decide +kernel
theorem dX6_addName_29 : decode cX6_addName 29 = .ok (.getfield 47, 3) := by decide +kernel
theorem dX6_addName_32 : decode cX6_addName 32 = .ok (.iload_n 2, 1) := by decide +kernel
theorem dX6_addName_33 : decode cX6_addName 33 = .ok (.iastore, 1) := by decide +kernel
theorem dX6_addName_34 : decode cX6_addName 34 = .ok (.aload_n 0, 1) := by decide +kernel
theorem dX6_addName_35 : decode cX6_addName 35 = .ok (.getfield 38, 3) := by decide +kernel
theorem dX6_addName_38 : decode cX6_addName 38 = .ok (.aload_n 0, 1) := by decide +kernel
theorem dX6_addName_39 : decode cX6_addName 39 = .ok (.getfield 47, 3) := by decide +kernel
theorem dX6_addName_42 : decode cX6_addName 42 = .ok (.iconst (-1), 1) := by decide +kernel
theorem dX6_addName_43 : decode cX6_addName 43 = .ok (.iastore, 1) := by decide +kernel
theorem dX6_addName_44 : decode cX6_addName 44 = .ok (.aload_n 0, 1) := by decide +kernel
theorem dX6_addName_45 : decode cX6_addName 45 = .ok (.getfield 41, 3) := by decide +kernel
theorem dX6_addName_48 : decode cX6_addName 48 = .ok (.aload_n 0, 1) := by decide +kernel
theorem dX6_addName_49 : decode cX6_addName 49 = .ok (.getfield 47, 3) := by decide +kernel
theorem dX6_addName_52 : decode cX6_addName 52 = .ok (.iconst 0, 1) := by decide +kernel
theorem dX6_addName_53 : decode cX6_addName 53 = .ok (.iastore, 1) := by decide +kernel
theorem dX6_addName_54 : decode cX6_addName 54 = .ok (.aload_n 0, 1) := by decide +kernel
theorem dX6_addName_55 : decode cX6_addName 55 = .ok (.dup, 1) := by decide +kernel
theorem dX6_addName_56 : decode cX6_addName 56 = .ok (.getfield 47, 3) := by decide +kernel
theorem dX6_addName_59 : decode cX6_addName 59 = .ok (.iconst 1, 1) := by decide +kernel
theorem dX6_addName_60 : decode cX6_addName 60 = .ok (.iadd, 1) := by decide +kernel
theorem dX6_addName_61 : decode cX6_addName 61 = .ok (.putfield 47, 3) := by decide +kernel
theorem dX6_addName_64 : decode cX6_addName 64 = .ok (.aload_n 0, 1) := by decide +kernel
theorem dX6_addName_65 : decode cX6_addName 65 = .ok (.getfield 47, 3) := by decide +kernel
theorem dX6_addName_68 : decode cX6_addName 68 = .ok (.iconst 1, 1) := by decide +kernel
theorem dX6_addName_69 : decode cX6_addName 69 = .ok (.isub, 1) := by decide +kernel
theorem dX6_addName_70 : decode cX6_addName 70 = .ok (.ireturn, 1) := by decide +kernel
theorem dX6_macros_0 : decode cX6_macros 0 = .ok (.iconst 0, 1) := by decide +kernel
theorem dX6_macros_1 : decode cX6_macros 1 = .ok (.istore_n 1, 1) := by decide +kernel
theorem dX6_macros_2 : decode cX6_macros 2 = .ok (.iconst 0, 1) := by decide +kernel
theorem dX6_macros_3 : decode cX6_macros 3 = .ok (.istore_n 2, 1) := by decide +kernel
theorem dX6_macros_4 : decode cX6_macros 4 = .ok (.iload_n 2, 1) := by decide +kernel
theorem dX6_macros_5 : decode cX6_macros 5 = .ok (.aload_n 0, 1) := by decide +kernel
theorem dX6_macros_6 : decode cX6_macros 6 = .ok (.getfield 25, 3) := by decide +kernel
theorem dX6_macros_9 : decode cX6_macros 9 = .ok (.if_icmp .ge 22, 3) := by decide +kernel
theorem dX6_macros_12 : decode cX6_macros 12 = .ok (.aload_n 0, 1) := by decide +kernel
theorem dX6_macros_13 : decode cX6_macros 13 = .ok (.getfield 18, 3) := by decide +kernel
theorem dX6_macros_16 : decode cX6_macros 16 = .ok (.iload_n 2, 1) := by decide +kernel
theorem dX6_macros_17 : decode cX6_macros 17 = .ok (.iaload, 1) := by decide +kernel
theorem dX6_macros_18 : decode cX6_macros 18 = .ok (.iconst (-1), 1) := by decide +kernel
theorem dX6_macros_19 : decode cX6_macros 19 = .ok (.if_icmp .eq 6, 3) := by decide +kernel
theorem dX6_macros_22 : decode cX6_macros 22 = .ok (.iinc 1 1, 3) := by decide +kernel
theorem dX6_macros_25 : decode cX6_macros 25 = .ok (.iinc 2 1, 3) := by decide +kernel
theorem dX6_macros_28 : decode cX6_macros 28 = .ok (.goto (-24), 3) := by decide +kernel
theorem dX6_macros_31 : decode cX6_macros 31 = .ok (.iload_n 1, 1) := by decide +kernel
theorem dX6_macros_32 : decode cX6_macros 32 = .ok (.ireturn, 1) := by decide +kernel
theorem dX7_init_0 : decode cX7_init 0 = .ok (.aload_n 0, 1) := by decide +kernel
theorem dX7_init_1 : decode cX7_init 1 = .ok (.invokespecial 3, 3) := by decide +kernel
theorem dX7_init_4 : decode cX7_init 4 = .ok (.aload_n 0, 1) := by decide +kernel
theorem dX7_init_5 : decode cX7_init 5 = .ok (.bipush 61, 2) := by decide +kernel
theorem dX7_init_7 : decode cX7_init 7 = .ok (.newarray .int, 2) := by decide +kernel
theorem dX7_init_9 : decode cX7_init 9 = .ok (.putfield 9, 3) := by decide +kernel
theorem dX7_init_12 : decode cX7_init 12 = .ok (.aload_n 0, 1) := by decide +kernel
theorem dX7_init_13 : decode cX7_init 13 = .ok (.iconst 0, 1) := by decide +kernel
theorem dX7_init_14 : decode cX7_init 14 = .ok (.putfield 15, 3) := by decide +kernel
theorem dX7_init_17 : decode cX7_init 17 = .ok (.aload_n 0, 1) := by decide +kernel
theorem dX7_init_18 : decode cX7_init 18 = .ok (.aload_n 1, 1) := by decide +kernel
theorem dX7_init_19 : decode cX7_init 19 = .ok (.putfield 19, 3) := by decide +kernel
theorem dX7_init_22 : decode cX7_init 22 = .ok (.aload_n 0, 1) := by decide +kernel
theorem dX7_init_23 : decode cX7_init 23 = .ok (.aload_n 2, 1) := by decide +kernel
theorem dX7_init_24 : decode cX7_init 24 = .ok (.putfield 23, 3) := by decide +kernel
theorem dX7_init_27 : decode cX7_init 27 = .ok (.return_, 1) := by decide +kernel
theorem dX7_addForms_0 : decode cX7_addForms 0 = .ok (.aload_n 0, 1) := by decide +kernel
theorem dX7_addForms_1 : decode cX7_addForms 1 = .ok (.iconst 0, 1) := by decide +kernel
theorem dX7_addForms_2 : decode cX7_addForms 2 = .ok (.putfield 15, 3) := by decide +kernel
theorem dX7_addForms_5 : decode cX7_addForms 5 = .ok (.iconst 0, 1) := by decide +kernel
theorem dX7_addForms_6 : decode cX7_addForms 6 = .ok (.istore_n 3, 1) := by decide +kernel
theorem dX7_addForms_7 : decode cX7_addForms 7 = .ok (.iconst 0, 1) := by decide +kernel
theorem dX7_addForms_8 : decode cX7_addForms 8 = .ok (.istore 4, 2) := by decide +kernel
theorem dX7_addForms_10 : decode cX7_addForms 10 = .ok (.aload_n 0, 1) := by decide +kernel
theorem dX7_addForms_11 : decode cX7_addForms 11 = .ok (.aload_n 1, 1) := by decide +kernel
theorem dX7_addForms_12 : decode cX7_addForms 12 = .ok (.iconst 0, 1) := by decide +kernel
theorem dX7_addForms_13 : decode cX7_addForms 13 = .ok (.iload_n 2, 1) := by decide +kernel
theorem dX7_addForms_14 : decode cX7_addForms 14 = .ok (.invokevirtual 27, 3) := by decide +kernel
theorem dX7_addForms_17 : decode cX7_addForms 17 = .ok (.istore 5, 2) := by decide +kernel
theorem dX7_addForms_19 : decode cX7_addForms 19 = .ok (.iload 5, 2) := by decide +kernel
theorem dX7_addForms_21 : decode cX7_addForms 21 = .ok (.iload_n 2, 1) := by decide +kernel
theorem dX7_addForms_22 : decode cX7_addForms 22 = .ok (.if_icmp .ge 51, 3) := by decide +kernel
theorem dX7_addForms_25 : decode cX7_addForms 25 = .ok (.iload_n 3, 1) := by decide +kernel
theorem dX7_addForms_26 : decode cX7_addForms 26 = .ok (.ifCond .ne 47, 3) := by decide +kernel
theorem dX7_addForms_29 : decode cX7_addForms 29 = .ok (.aload_n 0, 1) := by decide +kernel
theorem dX7_addForms_30 : decode cX7_addForms 30 = .ok (.aload_n 1, 1) := by decide +kernel
theorem dX7_addForms_31 : decode cX7_addForms 31 = .ok (.iload 5, 2) := by decide +kernel
theorem dX7_addForms_33 : decode cX7_addForms 33 = .ok (.iload_n 2, 1) := by decide +kernel
theorem dX7_addForms_34 : decode cX7_addForms 34 = .ok (.invokevirtual 31, 3) := by decide +kernel
theorem dX7_addForms_37 : decode cX7_addForms 37 = .ok (.istore 6, 2) := by decide +kernel
theorem dX7_addForms_39 : decode cX7_addForms 39 = .ok (.aload_n 0, 1) := by decide +kernel
theorem dX7_addForms_40 : decode cX7_addForms 40 = .ok (.aload_n 1, 1) := by decide +kernel
theorem dX7_addForms_41 : decode cX7_addForms 41 = .ok (.iload 5, 2) := by decide +kernel
theorem dX7_addForms_43 : decode cX7_addForms 43 = .ok (.iload 6, 2) := by decide +kernel
theorem dX7_addForms_45 : decode cX7_addForms 45 = .ok (.invokevirtual 34, 3) := by decide +kernel
theorem dX7_addForms_48 : decode cX7_addForms 48 = .ok (.istore_n 3, 1) := by decide +kernel
theorem dX7_addForms_49 : decode cX7_addForms 49 = .ok (.aload_n 0, 1) := by decide +kernel
theorem dX7_addForms_50 : decode cX7_addForms 50 = .ok (.aload_n 1, 1) := by decide +kernel
theorem dX7_addForms_51 : decode cX7_addForms 51 = .ok (.iload 6, 2) := by decide +kernel
theorem dX7_addForms_53 : decode cX7_addForms 53 = .ok (.iload_n 2, 1) := by decide +kernel
theorem dX7_addForms_54 : decode cX7_addForms 54 = .ok (.invokevirtual 27, 3) := by decide +kernel
theorem dX7_addForms_57 : decode cX7_addForms 57 = .ok (.istore 4, 2) := by decide +kernel
theorem dX7_addForms_59 : decode cX7_addForms 59 = .ok (.iload 5, 2) := by decide +kernel
theorem dX7_addForms_61 : decode cX7_addForms 61 = .ok (.iconst 1, 1) := by decide +kernel
theorem dX7_addForms_62 : decode cX7_addForms 62 = .ok (.iadd, 1) := by decide +kernel
theorem dX7_addForms_63 : decode cX7_addForms 63 = .ok (.iload 4, 2) := by decide +kernel
theorem dX7_addForms_65 : decode cX7_addForms 65 = .ok (.invokestatic 37, 3) := by decide +kernel
theorem dX7_addForms_68 : decode cX7_addForms 68 = .ok (.istore 5, 2) := by decide +kernel
theorem dX7_addForms_70 : decode cX7_addForms 70 = .ok (.goto (-51), 3) := by decide +kernel
theorem dX7_addForms_73 : decode cX7_addForms 73 = .ok (.iload_n 3, 1) := by decide +kernel
theorem dX7_addForms_74 : decode cX7_addForms 74 = .ok (.ifCond .ne 14, 3) := by decide +kernel
theorem dX7_addForms_77 : decode cX7_addForms 77 = .ok (.aload_n 0, 1) := by decide +kernel
theorem dX7_addForms_78 : decode cX7_addForms 78 = .ok (.getfield 15, 3) := by decide +kernel
theorem dX7_addForms_81 : decode cX7_addForms 81 = .ok (.ifCond .le 7, 3) := by decide +kernel
theorem dX7_addForms_84 : decode cX7_addForms 84 = .ok (.iconst 1, 1) := by decide +kernel
theorem dX7_addForms_85 : decode cX7_addForms 85 = .ok (.goto 4, 3) := by decide +kernel
theorem dX7_addForms_88 : decode cX7_addForms 88 = .ok (.iload_n 3, 1) := by decide +kernel
theorem dX7_addForms_89 : decode cX7_addForms 89 = .ok (.ireturn, 1) := by decide +kernel
theorem dX7_tokenFrom_0 : decode cX7_tokenFrom 0 = .ok (.iload_n 2, 1) := by decide +kernel
theorem dX7_tokenFrom_1 : decode cX7_tokenFrom 1 = .ok (.istore 4, 2) := by decide +kernel
theorem dX7_tokenFrom_3 : decode cX7_tokenFrom 3 = .ok (.iload 4, 2) := by decide +kernel
theorem dX7_tokenFrom_5 : decode cX7_tokenFrom 5 = .ok (.ifCond .lt 31, 3) := by decide +kernel
theorem dX7_tokenFrom_8 : decode cX7_tokenFrom 8 = .ok (.iload 4, 2) := by decide +kernel
theorem dX7_tokenFrom_10 : decode cX7_tokenFrom 10 = .ok (.iload_n 3, 1) := by decide +kernel
theorem dX7_tokenFrom_11 : decode cX7_tokenFrom 11 = .ok (.if_icmp .ge 25, 3) := by decide +kernel
theorem dX7_tokenFrom_14 : decode cX7_tokenFrom 14 = .ok (.iload 4, 2) := by decide +kernel
theorem dX7_tokenFrom_16 : decode cX7_tokenFrom 16 = .ok (.aload_n 1, 1) := by decide +kernel
theorem dX7_tokenFrom_17 : decode cX7_tokenFrom 17 = .ok (.arraylength, 1) := by decide +kernel
theorem dX7_tokenFrom_18 : decode cX7_tokenFrom 18 = .ok (.if_icmp .ge 18, 3) := by decide +kernel
theorem dX7_tokenFrom_21 : decode cX7_tokenFrom 21 = .ok (.aload_n 1, 1) := by decide +kernel
theorem dX7_tokenFrom_22 : decode cX7_tokenFrom 22 = .ok (.iload 4, 2) := by decide +kernel
theorem dX7_tokenFrom_24 : decode cX7_tokenFrom 24 = .ok (.caload, 1) := by decide +kernel
theorem dX7_tokenFrom_25 : decode cX7_tokenFrom 25 = .ok (.bipush 32, 2) := by decide +kernel
theorem dX7_tokenFrom_27 : decode cX7_tokenFrom 27 = .ok (.if_icmp .ne 9, 3) := by decide +kernel
theorem dX7_tokenFrom_30 : decode cX7_tokenFrom 30 = .ok (.iinc 4 1, 3) := by decide +kernel
theorem dX7_tokenFrom_33 : decode cX7_tokenFrom 33 = .ok (.goto (-30), 3) := by decide +kernel
theorem dX7_tokenFrom_36 : decode cX7_tokenFrom 36 = .ok (.iload 4, 2) := by decide +kernel
theorem dX7_tokenFrom_38 : decode cX7_tokenFrom 38 = .ok (.ireturn, 1) := by decide +kernel
theorem dX7_tokenEnd_0 : decode cX7_tokenEnd 0 = .ok (.iload_n 2, 1) := by decide +kernel
theorem dX7_tokenEnd_1 : decode cX7_tokenEnd 1 = .ok (.istore 4, 2) := by decide +kernel
theorem dX7_tokenEnd_3 : decode cX7_tokenEnd 3 = .ok (.iload 4, 2) := by decide +kernel
theorem dX7_tokenEnd_5 : decode cX7_tokenEnd 5 = .ok (.ifCond .lt 32, 3) := by decide +kernel
theorem dX7_tokenEnd_8 : decode cX7_tokenEnd 8 = .ok (.iload 4, 2) := by decide +kernel
theorem dX7_tokenEnd_10 : decode cX7_tokenEnd 10 = .ok (.iload_n 3, 1) := by decide +kernel
theorem dX7_tokenEnd_11 : decode cX7_tokenEnd 11 = .ok (.if_icmp .ge 26, 3) := by decide +kernel
theorem dX7_tokenEnd_14 : decode cX7_tokenEnd 14 = .ok (.iload 4, 2) := by decide +kernel
theorem dX7_tokenEnd_16 : decode cX7_tokenEnd 16 = .ok (.aload_n 1, 1) := by decide +kernel
theorem dX7_tokenEnd_17 : decode cX7_tokenEnd 17 = .ok (.arraylength, 1) := by decide +kernel
theorem dX7_tokenEnd_18 : decode cX7_tokenEnd 18 = .ok (.if_icmp .ge 19, 3) := by decide +kernel
theorem dX7_tokenEnd_21 : decode cX7_tokenEnd 21 = .ok (.aload_n 1, 1) := by decide +kernel
theorem dX7_tokenEnd_22 : decode cX7_tokenEnd 22 = .ok (.iload 4, 2) := by decide +kernel
theorem dX7_tokenEnd_24 : decode cX7_tokenEnd 24 = .ok (.caload, 1) := by decide +kernel
theorem dX7_tokenEnd_25 : decode cX7_tokenEnd 25 = .ok (.invokestatic 91, 3) := by decide +kernel
theorem dX7_tokenEnd_28 : decode cX7_tokenEnd 28 = .ok (.ifCond .ne 9, 3) := by decide +kernel
theorem dX7_tokenEnd_31 : decode cX7_tokenEnd 31 = .ok (.iinc 4 1, 3) := by decide +kernel
theorem dX7_tokenEnd_34 : decode cX7_tokenEnd 34 = .ok (.goto (-31), 3) := by decide +kernel
theorem dX7_tokenEnd_37 : decode cX7_tokenEnd 37 = .ok (.iload 4, 2) := by decide +kernel
theorem dX7_tokenEnd_39 : decode cX7_tokenEnd 39 = .ok (.iload_n 2, 1) := by decide +kernel
theorem dX7_tokenEnd_40 : decode cX7_tokenEnd 40 = .ok (.if_icmp .ne 14, 3) := by decide +kernel
theorem dX7_tokenEnd_43 : decode cX7_tokenEnd 43 = .ok (.iload_n 2, 1) := by decide +kernel
theorem dX7_tokenEnd_44 : decode cX7_tokenEnd 44 = .ok (.iload_n 3, 1) := by decide +kernel
theorem dX7_tokenEnd_45 : decode cX7_tokenEnd 45 = .ok (.if_icmp .ge 9, 3) := by decide +kernel
theorem dX7_tokenEnd_48 : decode cX7_tokenEnd 48 = .ok (.iload_n 2, 1) := by decide +kernel
theorem dX7_tokenEnd_49 : decode cX7_tokenEnd 49 = .ok (.iconst 1, 1) := by decide +kernel
theorem dX7_tokenEnd_50 : decode cX7_tokenEnd 50 = .ok (.iadd, 1) := by decide +kernel
theorem dX7_tokenEnd_51 : decode cX7_tokenEnd 51 = .ok (.goto 5, 3) := by decide +kernel
theorem dX7_tokenEnd_54 : decode cX7_tokenEnd 54 = .ok (.iload 4, 2) := by decide +kernel
theorem dX7_tokenEnd_56 : decode cX7_tokenEnd 56 = .ok (.ireturn, 1) := by decide +kernel
theorem dX7_isSymbol_0 : decode cX7_isSymbol 0 = .ok (.iload_n 2, 1) := by decide +kernel
theorem dX7_isSymbol_1 : decode cX7_isSymbol 1 = .ok (.ifCond .lt 32, 3) := by decide +kernel
theorem dX7_isSymbol_4 : decode cX7_isSymbol 4 = .ok (.iload_n 2, 1) := by decide +kernel
theorem dX7_isSymbol_5 : decode cX7_isSymbol 5 = .ok (.iload_n 3, 1) := by decide +kernel
theorem dX7_isSymbol_6 : decode cX7_isSymbol 6 = .ok (.if_icmp .ge 27, 3) := by decide +kernel
theorem dX7_isSymbol_9 : decode cX7_isSymbol 9 = .ok (.iload_n 3, 1) := by decide +kernel
theorem dX7_isSymbol_10 : decode cX7_isSymbol 10 = .ok (.aload_n 1, 1) := by decide +kernel
theorem dX7_isSymbol_11 : decode cX7_isSymbol 11 = .ok (.arraylength, 1) := by decide +kernel
theorem dX7_isSymbol_12 : decode cX7_isSymbol 12 = .ok (.if_icmp .gt 21, 3) := by decide +kernel
theorem dX7_isSymbol_15 : decode cX7_isSymbol 15 = .ok (.aload_n 1, 1) := by decide +kernel
theorem dX7_isSymbol_16 : decode cX7_isSymbol 16 = .ok (.iload_n 2, 1) := by decide +kernel
theorem dX7_isSymbol_17 : decode cX7_isSymbol 17 = .ok (.caload, 1) := by decide +kernel
theorem dX7_isSymbol_18 : decode cX7_isSymbol 18 = .ok (.invokestatic 91, 3) := by decide +kernel
theorem dX7_isSymbol_21 : decode cX7_isSymbol 21 = .ok (.ifCond .ne 12, 3) := by decide +kernel
theorem dX7_isSymbol_24 : decode cX7_isSymbol 24 = .ok (.aload_n 1, 1) := by decide +kernel
theorem dX7_isSymbol_25 : decode cX7_isSymbol 25 = .ok (.iload_n 2, 1) := by decide +kernel
theorem dX7_isSymbol_26 : decode cX7_isSymbol 26 = .ok (.iload_n 3, 1) := by decide +kernel
theorem dX7_isSymbol_27 : decode cX7_isSymbol 27 = .ok (.invokestatic 95, 3) := by decide +kernel
theorem dX7_isSymbol_30 : decode cX7_isSymbol 30 = .ok (.ifCond .eq 5, 3) := by decide +kernel
theorem dX7_isSymbol_33 : decode cX7_isSymbol 33 = .ok (.iconst 0, 1) := by decide +kernel
theorem dX7_isSymbol_34 : decode cX7_isSymbol 34 = .ok (.ireturn, 1) := by decide +kernel
theorem dX7_isSymbol_35 : decode cX7_isSymbol 35 = .ok (.iload_n 3, 1) := by decide +kernel
theorem dX7_isSymbol_36 : decode cX7_isSymbol 36 = .ok (.iload_n 2, 1) := by decide +kernel
theorem dX7_isSymbol_37 : decode cX7_isSymbol 37 = .ok (.isub, 1) := by decide +kernel
theorem dX7_isSymbol_38 : decode cX7_isSymbol 38 = .ok (.bipush 12, 2) := by decide +kernel
theorem dX7_isSymbol_40 : decode cX7_isSymbol 40 = .ok (.if_icmp .le 23, 3) := by decide +kernel
theorem dX7_isSymbol_43 : decode cX7_isSymbol 43 = .ok (.iload_n 3, 1) := by decide +kernel
theorem dX7_isSymbol_44 : decode cX7_isSymbol 44 = .ok (.iload_n 2, 1) := by decide +kernel
theorem dX7_isSymbol_45 : decode cX7_isSymbol 45 = .ok (.isub, 1) := by decide +kernel
theorem dX7_isSymbol_46 : decode cX7_isSymbol 46 = .ok (.bipush 16, 2) := by decide +kernel
theorem dX7_isSymbol_48 : decode cX7_isSymbol 48 = .ok (.if_icmp .gt 19, 3) := by decide +kernel
theorem dX7_isSymbol_51 : decode cX7_isSymbol 51 = .ok (.aload_n 0, 1) := by decide +kernel
theorem dX7_isSymbol_52 : decode cX7_isSymbol 52 = .ok (.aload_n 1, 1) := by decide +kernel
theorem dX7_isSymbol_53 : decode cX7_isSymbol 53 = .ok (.iload_n 2, 1) := by decide +kernel
theorem dX7_isSymbol_54 : decode cX7_isSymbol 54 = .ok (.iload_n 3, 1) := by decide +kernel
theorem dX7_isSymbol_55 : decode cX7_isSymbol 55 = .ok (.invokevirtual 76, 3) := by decide +kernel
theorem dX7_isSymbol_58 : decode cX7_isSymbol 58 = .ok (.bipush 6, 2) := by decide +kernel
theorem dX7_isSymbol_60 : decode cX7_isSymbol 60 = .ok (.if_icmp .ne 7, 3) := by decide +kernel
theorem dX7_isSymbol_63 : decode cX7_isSymbol 63 = .ok (.iconst 1, 1) := by decide +kernel
theorem dX7_isSymbol_64 : decode cX7_isSymbol 64 = .ok (.goto 4, 3) := by decide +kernel
theorem dX7_isSymbol_67 : decode cX7_isSymbol 67 = .ok (.iconst 0, 1) := by decide +kernel
theorem dX7_isSymbol_68 : decode cX7_isSymbol 68 = .ok (.ireturn, 1) := by decide +kernel
theorem dX8_init_0 : decode cX8_init 0 = .ok (.aload_n 0, 1) := by decide +kernel
theorem dX8_init_1 : decode cX8_init 1 = .ok (.invokespecial 3, 3) := by decide +kernel
theorem dX8_init_4 : decode cX8_init 4 = .ok (.aload_n 0, 1) := by decide +kernel
theorem dX8_init_5 : decode cX8_init 5 = .ok (.iconst (-1), 1) := by decide +kernel
theorem dX8_init_6 : decode cX8_init 6 = .ok (.putfield 9, 3) := by decide +kernel
theorem dX8_init_9 : decode cX8_init 9 = .ok (.aload_n 0, 1) := by decide +kernel
theorem dX8_init_10 : decode cX8_init 10 = .ok (.aload_n 1, 1) := by decide +kernel
theorem dX8_init_11 : decode cX8_init 11 = .ok (.putfield 15, 3) := by decide +kernel
theorem dX8_init_14 : decode cX8_init 14 = .ok (.aload_n 0, 1) := by decide +kernel
theorem dX8_init_15 : decode cX8_init 15 = .ok (.aload_n 2, 1) := by decide +kernel
theorem dX8_init_16 : decode cX8_init 16 = .ok (.putfield 19, 3) := by decide +kernel
theorem dX8_init_19 : decode cX8_init 19 = .ok (.aload_n 0, 1) := by decide +kernel
theorem dX8_init_20 : decode cX8_init 20 = .ok (.aload_n 3, 1) := by decide +kernel
theorem dX8_init_21 : decode cX8_init 21 = .ok (.putfield 23, 3) := by decide +kernel
theorem dX8_init_24 : decode cX8_init 24 = .ok (.return_, 1) := by decide +kernel
theorem dX9_init_0 : decode cX9_init 0 = .ok (.aload_n 0, 1) := by decide +kernel
theorem dX9_init_1 : decode cX9_init 1 = .ok (.invokespecial 3, 3) := by decide +kernel
theorem dX9_init_4 : decode cX9_init 4 = .ok (.aload_n 0, 1) := by decide +kernel
theorem dX9_init_5 : decode cX9_init 5 = .ok (.sipush 606, 3) := by decide +kernel
theorem dX9_init_8 : decode cX9_init 8 = .ok (.newarray .int, 2) := by decide +kernel
theorem dX9_init_10 : decode cX9_init 10 = .ok (.putfield 11, 3) := by decide +kernel
theorem dX9_init_13 : decode cX9_init 13 = .ok (.aload_n 0, 1) := by decide +kernel
theorem dX9_init_14 : decode cX9_init 14 = .ok (.sipush 606, 3) := by decide +kernel
theorem dX9_init_17 : decode cX9_init 17 = .ok (.newarray .int, 2) := by decide +kernel
theorem dX9_init_19 : decode cX9_init 19 = .ok (.putfield 15, 3) := by decide +kernel
theorem dX9_init_22 : decode cX9_init 22 = .ok (.aload_n 0, 1) := by decide +kernel
theorem dX9_init_23 : decode cX9_init 23 = .ok (.sipush 606, 3) := by decide +kernel
theorem dX9_init_26 : decode cX9_init 26 = .ok (.newarray .int, 2) := by decide +kernel
theorem dX9_init_28 : decode cX9_init 28 = .ok (.putfield 18, 3) := by decide +kernel
theorem dX9_init_31 : decode cX9_init 31 = .ok (.aload_n 0, 1) := by decide +kernel
theorem dX9_init_32 : decode cX9_init 32 = .ok (.sipush 606, 3) := by decide +kernel
theorem dX9_init_35 : decode cX9_init 35 = .ok (.newarray .int, 2) := by decide +kernel
theorem dX9_init_37 : decode cX9_init 37 = .ok (.putfield 21, 3) := by decide +kernel
theorem dX9_init_40 : decode cX9_init 40 = .ok (.aload_n 0, 1) := by decide +kernel
theorem dX9_init_41 : decode cX9_init 41 = .ok (.iconst 0, 1) := by decide +kernel
theorem dX9_init_42 : decode cX9_init 42 = .ok (.putfield 24, 3) := by decide +kernel
theorem dX9_init_45 : decode cX9_init 45 = .ok (.aload_n 0, 1) := by decide +kernel
theorem dX9_init_46 : decode cX9_init 46 = .ok (.aload_n 1, 1) := by decide +kernel
theorem dX9_init_47 : decode cX9_init 47 = .ok (.putfield 28, 3) := by decide +kernel
theorem dX9_init_50 : decode cX9_init 50 = .ok (.return_, 1) := by decide +kernel
theorem dX9_leaveTo_0 : decode cX9_leaveTo 0 = .ok (.aload_n 0, 1) := by decide +kernel
theorem dX9_leaveTo_1 : decode cX9_leaveTo 1 = .ok (.getfield 24, 3) := by decide +kernel
theorem dX9_leaveTo_4 : decode cX9_leaveTo 4 = .ok (.ifCond .le 69, 3) := by decide +kernel
theorem dX9_leaveTo_7 : decode cX9_leaveTo 7 = .ok (.aload_n 0, 1) := by decide +kernel
theorem dX9_leaveTo_8 : decode cX9_leaveTo 8 = .ok (.getfield 24, 3) := by decide +kernel
theorem dX9_leaveTo_11 : decode cX9_leaveTo 11 = .ok (.iload_n 1, 1) := by decide +kernel
theorem dX9_leaveTo_12 : decode cX9_leaveTo 12 = .ok (.if_icmp .le 61, 3) := by decide +kernel
theorem dX9_leaveTo_15 : decode cX9_leaveTo 15 = .ok (.aload_n 0, 1) := by decide +kernel
theorem dX9_leaveTo_16 : decode cX9_leaveTo 16 = .ok (.dup, 1) := by decide +kernel
theorem dX9_leaveTo_17 : decode cX9_leaveTo 17 = .ok (.getfield 24, 3) := by decide +kernel
theorem dX9_leaveTo_20 : decode cX9_leaveTo 20 = .ok (.iconst 1, 1) := by decide +kernel
theorem dX9_leaveTo_21 : decode cX9_leaveTo 21 = .ok (.isub, 1) := by decide +kernel
theorem dX9_leaveTo_22 : decode cX9_leaveTo 22 = .ok (.putfield 24, 3) := by decide +kernel
theorem dX9_leaveTo_25 : decode cX9_leaveTo 25 = .ok (.aload_n 0, 1) := by decide +kernel
theorem dX9_leaveTo_26 : decode cX9_leaveTo 26 = .ok (.getfield 28, 3) := by decide +kernel
theorem dX9_leaveTo_29 : decode cX9_leaveTo 29 = .ok (.aload_n 0, 1) := by decide +kernel
theorem dX9_leaveTo_30 : decode cX9_leaveTo 30 = .ok (.getfield 11, 3) := by decide +kernel
theorem dX9_leaveTo_33 : decode cX9_leaveTo 33 = .ok (.aload_n 0, 1) := by decide +kernel
theorem dX9_leaveTo_34 : decode cX9_leaveTo 34 = .ok (.getfield 24, 3) := by decide +kernel
theorem dX9_leaveTo_37 : decode cX9_leaveTo 37 = .ok (.iaload, 1) := by decide +kernel
theorem dX9_leaveTo_38 : decode cX9_leaveTo 38 = .ok (.invokevirtual 36, 3) := by decide +kernel
theorem dX9_leaveTo_41 : decode cX9_leaveTo 41 = .ok (.ifCond .eq (-41), 3) := by decide +kernel
theorem dX9_leaveTo_44 : decode cX9_leaveTo 44 = .ok (.aload_n 0, 1) := by decide +kernel
theorem dX9_leaveTo_45 : decode cX9_leaveTo 45 = .ok (.getfield 28, 3) := by decide +kernel
theorem dX9_leaveTo_48 : decode cX9_leaveTo 48 = .ok (.getfield 42, 3) := by decide +kernel
theorem dX9_leaveTo_51 : decode cX9_leaveTo 51 = .ok (.aload_n 0, 1) := by decide +kernel
theorem dX9_leaveTo_52 : decode cX9_leaveTo 52 = .ok (.getfield 11, 3) := by decide +kernel
theorem dX9_leaveTo_55 : decode cX9_leaveTo 55 = .ok (.aload_n 0, 1) := by decide +kernel
theorem dX9_leaveTo_56 : decode cX9_leaveTo 56 = .ok (.getfield 24, 3) := by decide +kernel
theorem dX9_leaveTo_59 : decode cX9_leaveTo 59 = .ok (.iaload, 1) := by decide +kernel
theorem dX9_leaveTo_60 : decode cX9_leaveTo 60 = .ok (.aload_n 0, 1) := by decide +kernel
theorem dX9_leaveTo_61 : decode cX9_leaveTo 61 = .ok (.getfield 15, 3) := by decide +kernel
theorem dX9_leaveTo_64 : decode cX9_leaveTo 64 = .ok (.aload_n 0, 1) := by decide +kernel
theorem dX9_leaveTo_65 : decode cX9_leaveTo 65 = .ok (.getfield 24, 3) := by decide +kernel
theorem dX9_leaveTo_68 : decode cX9_leaveTo 68 = .ok (.iaload, 1) := by decide +kernel
theorem dX9_leaveTo_69 : decode cX9_leaveTo 69 = .ok (.iastore, 1) := by decide +kernel
theorem dX9_leaveTo_70 : decode cX9_leaveTo 70 = .ok (.goto (-70), 3) := by decide +kernel
theorem dX9_leaveTo_73 : decode cX9_leaveTo 73 = .ok (.return_, 1) := by decide +kernel
theorem dX10_init_0 : decode cX10_init 0 = .ok (.aload_n 0, 1) := by decide +kernel
theorem dX10_init_1 : decode cX10_init 1 = .ok (.invokespecial 3, 3) := by decide +kernel
theorem dX10_init_4 : decode cX10_init 4 = .ok (.aload_n 0, 1) := by decide +kernel
theorem dX10_init_5 : decode cX10_init 5 = .ok (.sipush 4000, 3) := by decide +kernel
theorem dX10_init_8 : decode cX10_init 8 = .ok (.newarray .char, 2) := by decide +kernel
theorem dX10_init_10 : decode cX10_init 10 = .ok (.putfield 9, 3) := by decide +kernel
theorem dX10_init_13 : decode cX10_init 13 = .ok (.aload_n 0, 1) := by decide +kernel
theorem dX10_init_14 : decode cX10_init 14 = .ok (.iconst 0, 1) := by decide +kernel
theorem dX10_init_15 : decode cX10_init 15 = .ok (.putfield 15, 3) := by decide +kernel
theorem dX10_init_18 : decode cX10_init 18 = .ok (.aload_n 0, 1) := by decide +kernel
theorem dX10_init_19 : decode cX10_init 19 = .ok (.sipush 4000, 3) := by decide +kernel
theorem dX10_init_22 : decode cX10_init 22 = .ok (.newarray .char, 2) := by decide +kernel
theorem dX10_init_24 : decode cX10_init 24 = .ok (.putfield 19, 3) := by decide +kernel
theorem dX10_init_27 : decode cX10_init 27 = .ok (.aload_n 0, 1) := by decide +kernel
theorem dX10_init_28 : decode cX10_init 28 = .ok (.iconst 0, 1) := by decide +kernel
theorem dX10_init_29 : decode cX10_init 29 = .ok (.putfield 22, 3) := by decide +kernel
theorem dX10_init_32 : decode cX10_init 32 = .ok (.aload_n 0, 1) := by decide +kernel
theorem dX10_init_33 : decode cX10_init 33 = .ok (.bipush 32, 2) := by decide +kernel
theorem dX10_init_35 : decode cX10_init 35 = .ok (.putfield 25, 3) := by decide +kernel
theorem dX10_init_38 : decode cX10_init 38 = .ok (.return_, 1) := by decide +kernel
theorem dX10_startText_0 : decode cX10_startText 0 = .ok (.aload_n 0, 1) := by decide +kernel
theorem dX10_startText_1 : decode cX10_startText 1 = .ok (.iconst 0, 1) := by decide +kernel
theorem dX10_startText_2 : decode cX10_startText 2 = .ok (.putfield 22, 3) := by decide +kernel
theorem dX10_startText_5 : decode cX10_startText 5 = .ok (.return_, 1) := by decide +kernel
theorem dX10_take_0 : decode cX10_take 0 = .ok (.aload_n 0, 1) := by decide +kernel
theorem dX10_take_1 : decode cX10_take 1 = .ok (.getfield 9, 3) := by decide +kernel
theorem dX10_take_4 : decode cX10_take 4 = .ok (.astore_n 1, 1) := by decide +kernel
theorem dX10_take_5 : decode cX10_take 5 = .ok (.aload_n 0, 1) := by decide +kernel
theorem dX10_take_6 : decode cX10_take 6 = .ok (.aload_n 0, 1) := by decide +kernel
theorem dX10_take_7 : decode cX10_take 7 = .ok (.getfield 19, 3) := by decide +kernel
theorem dX10_take_10 : decode cX10_take 10 = .ok (.putfield 9, 3) := by decide +kernel
theorem dX10_take_13 : decode cX10_take 13 = .ok (.aload_n 0, 1) := by decide +kernel
theorem dX10_take_14 : decode cX10_take 14 = .ok (.aload_n 0, 1) := by decide +kernel
theorem dX10_take_15 : decode cX10_take 15 = .ok (.getfield 22, 3) := by decide +kernel
theorem dX10_take_18 : decode cX10_take 18 = .ok (.putfield 15, 3) := by decide +kernel
theorem dX10_take_21 : decode cX10_take 21 = .ok (.aload_n 0, 1) := by decide +kernel
theorem dX10_take_22 : decode cX10_take 22 = .ok (.aload_n 1, 1) := by decide +kernel
theorem dX10_take_23 : decode cX10_take 23 = .ok (.putfield 19, 3) := by decide +kernel
theorem dX10_take_26 : decode cX10_take 26 = .ok (.return_, 1) := by decide +kernel
theorem dX10_at_0 : decode cX10_at 0 = .ok (.iload_n 1, 1) := by decide +kernel
theorem dX10_at_1 : decode cX10_at 1 = .ok (.ifCond .lt 29, 3) := by decide +kernel
theorem dX10_at_4 : decode cX10_at 4 = .ok (.iload_n 1, 1) := by decide +kernel
theorem dX10_at_5 : decode cX10_at 5 = .ok (.aload_n 0, 1) := by decide +kernel
theorem dX10_at_6 : decode cX10_at 6 = .ok (.getfield 15, 3) := by decide +kernel
theorem dX10_at_9 : decode cX10_at 9 = .ok (.if_icmp .ge 21, 3) := by decide +kernel
theorem dX10_at_12 : decode cX10_at 12 = .ok (.iload_n 1, 1) := by decide +kernel
theorem dX10_at_13 : decode cX10_at 13 = .ok (.aload_n 0, 1) := by decide +kernel
theorem dX10_at_14 : decode cX10_at 14 = .ok (.getfield 9, 3) := by decide +kernel
theorem dX10_at_17 : decode cX10_at 17 = .ok (.arraylength, 1) := by decide +kernel
theorem dX10_at_18 : decode cX10_at 18 = .ok (.if_icmp .ge 12, 3) := by decide +kernel
theorem dX10_at_21 : decode cX10_at 21 = .ok (.aload_n 0, 1) := by decide +kernel
theorem dX10_at_22 : decode cX10_at 22 = .ok (.getfield 9, 3) := by decide +kernel
theorem dX10_at_25 : decode cX10_at 25 = .ok (.iload_n 1, 1) := by decide +kernel
theorem dX10_at_26 : decode cX10_at 26 = .ok (.caload, 1) := by decide +kernel
theorem dX10_at_27 : decode cX10_at 27 = .ok (.goto 4, 3) := by decide +kernel
theorem dX10_at_30 : decode cX10_at 30 = .ok (.iconst (-1), 1) := by decide +kernel
theorem dX10_at_31 : decode cX10_at 31 = .ok (.ireturn, 1) := by decide +kernel
theorem dX10_canBeRead_0 : decode cX10_canBeRead 0 = .ok (.iconst 0, 1) := by decide +kernel
theorem dX10_canBeRead_1 : decode cX10_canBeRead 1 = .ok (.istore_n 1, 1) := by decide +kernel
theorem dX10_canBeRead_2 : decode cX10_canBeRead 2 = .ok (.iconst 0, 1) := by decide +kernel
theorem dX10_canBeRead_3 : decode cX10_canBeRead 3 = .ok (.istore_n 2, 1) := by decide +kernel
theorem dX10_canBeRead_4 : decode cX10_canBeRead 4 = .ok (.iload_n 2, 1) := by decide +kernel
theorem dX10_canBeRead_5 : decode cX10_canBeRead 5 = .ok (.aload_n 0, 1) := by decide +kernel
theorem dX10_canBeRead_6 : decode cX10_canBeRead 6 = .ok (.getfield 15, 3) := by decide +kernel
theorem dX10_canBeRead_9 : decode cX10_canBeRead 9 = .ok (.if_icmp .ge 61, 3) := by decide +kernel
theorem dX10_canBeRead_12 : decode cX10_canBeRead 12 = .ok (.iload_n 2, 1) := by decide +kernel
theorem dX10_canBeRead_13 : decode cX10_canBeRead 13 = .ok (.aload_n 0, 1) := by decide +kernel
theorem dX10_canBeRead_14 : decode cX10_canBeRead 14 = .ok (.getfield 9, 3) := by decide +kernel
theorem dX10_canBeRead_17 : decode cX10_canBeRead 17 = .ok (.arraylength, 1) := by decide +kernel
theorem dX10_canBeRead_18 : decode cX10_canBeRead 18 = .ok (.if_icmp .ge 52, 3) := by decide +kernel
theorem dX10_canBeRead_21 : decode cX10_canBeRead 21 = .ok (.aload_n 0, 1) := by decide +kernel
theorem dX10_canBeRead_22 : decode cX10_canBeRead 22 = .ok (.getfield 9, 3) := by decide +kernel
theorem dX10_canBeRead_25 : decode cX10_canBeRead 25 = .ok (.iload_n 2, 1) := by decide +kernel
theorem dX10_canBeRead_26 : decode cX10_canBeRead 26 = .ok (.caload, 1) := by decide +kernel
theorem dX10_canBeRead_27 : decode cX10_canBeRead 27 = .ok (.bipush 40, 2) := by decide +kernel
theorem dX10_canBeRead_29 : decode cX10_canBeRead 29 = .ok (.if_icmp .ne 9, 3) := by decide +kernel
theorem dX10_canBeRead_32 : decode cX10_canBeRead 32 = .ok (.iinc 1 1, 3) := by decide +kernel
theorem dX10_canBeRead_35 : decode cX10_canBeRead 35 = .ok (.goto 17, 3) := by decide +kernel
theorem dX10_canBeRead_38 : decode cX10_canBeRead 38 = .ok (.aload_n 0, 1) := by decide +kernel
theorem dX10_canBeRead_39 : decode cX10_canBeRead 39 = .ok (.getfield 9, 3) := by decide +kernel
theorem dX10_canBeRead_42 : decode cX10_canBeRead 42 = .ok (.iload_n 2, 1) := by decide +kernel
theorem dX10_canBeRead_43 : decode cX10_canBeRead 43 = .ok (.caload, 1) := by decide +kernel
theorem dX10_canBeRead_44 : decode cX10_canBeRead 44 = .ok (.bipush 41, 2) := by decide +kernel
theorem dX10_canBeRead_46 : decode cX10_canBeRead 46 = .ok (.if_icmp .ne 6, 3) := by decide +kernel
theorem dX10_canBeRead_49 : decode cX10_canBeRead 49 = .ok (.iinc 1 (-1), 3) := by decide +kernel
theorem dX10_canBeRead_52 : decode cX10_canBeRead 52 = .ok (.iload_n 1, 1) := by decide +kernel
theorem dX10_canBeRead_53 : decode cX10_canBeRead 53 = .ok (.ifCond .lt 9, 3) := by decide +kernel
theorem dX10_canBeRead_56 : decode cX10_canBeRead 56 = .ok (.iload_n 1, 1) := by decide +kernel
theorem dX10_canBeRead_57 : decode cX10_canBeRead 57 = .ok (.bipush 61, 2) := by decide +kernel
theorem dX10_canBeRead_59 : decode cX10_canBeRead 59 = .ok (.if_icmp .le 5, 3) := by decide +kernel
theorem dX10_canBeRead_62 : decode cX10_canBeRead 62 = .ok (.iconst 0, 1) := by decide +kernel
theorem dX10_canBeRead_63 : decode cX10_canBeRead 63 = .ok (.ireturn, 1) := by decide +kernel
theorem dX10_canBeRead_64 : decode cX10_canBeRead 64 = .ok (.iinc 2 1, 3) := by decide +kernel
theorem dX10_canBeRead_67 : decode cX10_canBeRead 67 = .ok (.goto (-63), 3) := by decide +kernel
theorem dX10_canBeRead_70 : decode cX10_canBeRead 70 = .ok (.iload_n 1, 1) := by decide +kernel
theorem dX10_canBeRead_71 : decode cX10_canBeRead 71 = .ok (.ifCond .ne 7, 3) := by decide +kernel
theorem dX10_canBeRead_74 : decode cX10_canBeRead 74 = .ok (.iconst 1, 1) := by decide +kernel
theorem dX10_canBeRead_75 : decode cX10_canBeRead 75 = .ok (.goto 4, 3) := by decide +kernel
theorem dX10_canBeRead_78 : decode cX10_canBeRead 78 = .ok (.iconst 0, 1) := by decide +kernel
theorem dX10_canBeRead_79 : decode cX10_canBeRead 79 = .ok (.ireturn, 1) := by decide +kernel
theorem dX11_init_0 : decode cX11_init 0 = .ok (.aload_n 0, 1) := by decide +kernel
theorem dX11_init_1 : decode cX11_init 1 = .ok (.invokespecial 1, 3) := by decide +kernel
theorem dX11_init_4 : decode cX11_init 4 = .ok (.aload_n 0, 1) := by decide +kernel
theorem dX11_init_5 : decode cX11_init 5 = .ok (.sipush 3000, 3) := by decide +kernel
theorem dX11_init_8 : decode cX11_init 8 = .ok (.newarray .char, 2) := by decide +kernel
theorem dX11_init_10 : decode cX11_init 10 = .ok (.putfield 9, 3) := by decide +kernel
theorem dX11_init_13 : decode cX11_init 13 = .ok (.aload_n 0, 1) := by decide +kernel
theorem dX11_init_14 : decode cX11_init 14 = .ok (.new 13, 3) := by decide +kernel
theorem dX11_init_17 : decode cX11_init 17 = .ok (.dup, 1) := by decide +kernel
theorem dX11_init_18 : decode cX11_init 18 = .ok (.invokespecial 15, 3) := by decide +kernel
theorem dX11_init_21 : decode cX11_init 21 = .ok (.putfield 16, 3) := by decide +kernel
theorem dX11_init_24 : decode cX11_init 24 = .ok (.aload_n 0, 1) := by decide +kernel
theorem dX11_init_25 : decode cX11_init 25 = .ok (.new 20, 3) := by decide +kernel
theorem dX11_init_28 : decode cX11_init 28 = .ok (.dup, 1) := by decide +kernel
theorem dX11_init_29 : decode cX11_init 29 = .ok (.invokespecial 22, 3) := by decide +kernel
theorem dX11_init_32 : decode cX11_init 32 = .ok (.putfield 23, 3) := by decide +kernel
theorem dX11_init_35 : decode cX11_init 35 = .ok (.aload_n 0, 1) := by decide +kernel
theorem dX11_init_36 : decode cX11_init 36 = .ok (.new 27, 3) := by decide +kernel
theorem dX11_init_39 : decode cX11_init 39 = .ok (.dup, 1) := by decide +kernel
theorem dX11_init_40 : decode cX11_init 40 = .ok (.invokespecial 29, 3) := by decide +kernel
theorem dX11_init_43 : decode cX11_init 43 = .ok (.putfield 30, 3) := by decide +kernel
theorem dX11_init_46 : decode cX11_init 46 = .ok (.aload_n 0, 1) := by decide +kernel
theorem dX11_init_47 : decode cX11_init 47 = .ok (.new 34, 3) := by decide +kernel
theorem dX11_init_50 : decode cX11_init 50 = .ok (.dup, 1) := by decide +kernel
theorem dX11_init_51 : decode cX11_init 51 = .ok (.aload_n 0, 1) := by decide +kernel
theorem dX11_init_52 : decode cX11_init 52 = .ok (.getfield 23, 3) := by decide +kernel
theorem dX11_init_55 : decode cX11_init 55 = .ok (.aload_n 0, 1) := by decide +kernel
theorem dX11_init_56 : decode cX11_init 56 = .ok (.getfield 16, 3) := by decide +kernel
theorem dX11_init_59 : decode cX11_init 59 = .ok (.invokespecial 36, 3) := by decide +kernel
theorem dX11_init_62 : decode cX11_init 62 = .ok (.putfield 39, 3) := by decide +kernel
theorem dX11_init_65 : decode cX11_init 65 = .ok (.aload_n 0, 1) := by decide +kernel
theorem dX11_init_66 : decode cX11_init 66 = .ok (.new 43, 3) := by decide +kernel
theorem dX11_init_69 : decode cX11_init 69 = .ok (.dup, 1) := by decide +kernel
theorem dX11_init_70 : decode cX11_init 70 = .ok (.aload_n 0, 1) := by decide +kernel
theorem dX11_init_71 : decode cX11_init 71 = .ok (.getfield 23, 3) := by decide +kernel
theorem dX11_init_74 : decode cX11_init 74 = .ok (.aload_n 0, 1) := by decide +kernel
theorem dX11_init_75 : decode cX11_init 75 = .ok (.getfield 16, 3) := by decide +kernel
theorem dX11_init_78 : decode cX11_init 78 = .ok (.aload_n 0, 1) := by decide +kernel
theorem dX11_init_79 : decode cX11_init 79 = .ok (.getfield 30, 3) := by decide +kernel
theorem dX11_init_82 : decode cX11_init 82 = .ok (.invokespecial 45, 3) := by decide +kernel
theorem dX11_init_85 : decode cX11_init 85 = .ok (.putfield 48, 3) := by decide +kernel
theorem dX11_init_88 : decode cX11_init 88 = .ok (.aload_n 0, 1) := by decide +kernel
theorem dX11_init_89 : decode cX11_init 89 = .ok (.iconst 0, 1) := by decide +kernel
theorem dX11_init_90 : decode cX11_init 90 = .ok (.putfield 52, 3) := by decide +kernel
theorem dX11_init_93 : decode cX11_init 93 = .ok (.aload_n 0, 1) := by decide +kernel
theorem dX11_init_94 : decode cX11_init 94 = .ok (.iconst (-1), 1) := by decide +kernel
theorem dX11_init_95 : decode cX11_init 95 = .ok (.putfield 56, 3) := by decide +kernel
theorem dX11_init_98 : decode cX11_init 98 = .ok (.aload_n 0, 1) := by decide +kernel
theorem dX11_init_99 : decode cX11_init 99 = .ok (.iconst 0, 1) := by decide +kernel
theorem dX11_init_100 : decode cX11_init 100 = .ok (.putfield 59, 3) := by decide +kernel
theorem dX11_init_103 : decode cX11_init 103 = .ok (.aload_n 0, 1) := by decide +kernel
theorem dX11_init_104 : decode cX11_init 104 = .ok (.iconst 0, 1) := by decide +kernel
theorem dX11_init_105 : decode cX11_init 105 = .ok (.putfield 62, 3) := by decide +kernel
theorem dX11_init_108 : decode cX11_init 108 = .ok (.aload_n 0, 1) := by decide +kernel
theorem dX11_init_109 : decode cX11_init 109 = .ok (.iconst 0, 1) := by decide +kernel
theorem dX11_init_110 : decode cX11_init 110 = .ok (.putfield 65, 3) := by decide +kernel
theorem dX11_init_113 : decode cX11_init 113 = .ok (.return_, 1) := by decide +kernel
theorem dX11_type_0 : decode cX11_type 0 = .ok (.iload_n 3, 1) := by decide +kernel
theorem dX11_type_1 : decode cX11_type 1 = .ok (.iconst 1, 1) := by decide +kernel
theorem dX11_type_2 : decode cX11_type 2 = .ok (.if_icmp .lt 21, 3) := by decide +kernel
theorem dX11_type_5 : decode cX11_type 5 = .ok (.iload_n 3, 1) := by decide +kernel
theorem dX11_type_6 : decode cX11_type 6 = .ok (.bipush 8, 2) := by decide +kernel
theorem dX11_type_8 : decode cX11_type 8 = .ok (.if_icmp .gt 15, 3) := by decide +kernel
theorem dX11_type_11 : decode cX11_type 11 = .ok (.aload_n 0, 1) := by decide +kernel
theorem dX11_type_12 : decode cX11_type 12 = .ok (.getfield 52, 3) := by decide +kernel
theorem dX11_type_15 : decode cX11_type 15 = .ok (.iload_n 3, 1) := by decide +kernel
theorem dX11_type_16 : decode cX11_type 16 = .ok (.iadd, 1) := by decide +kernel
theorem dX11_type_17 : decode cX11_type 17 = .ok (.sipush 3000, 3) := by decide +kernel
theorem dX11_type_20 : decode cX11_type 20 = .ok (.if_icmp .le 5, 3) := by decide +kernel
theorem dX11_type_23 : decode cX11_type 23 = .ok (.iconst (-1), 1) := by decide +kernel
theorem dX11_type_24 : decode cX11_type 24 = .ok (.ireturn, 1) := by decide +kernel
theorem dX11_type_25 : decode cX11_type 25 = .ok (.iconst 0, 1) := by decide +kernel
theorem dX11_type_26 : decode cX11_type 26 = .ok (.istore 4, 2) := by decide +kernel
theorem dX11_type_28 : decode cX11_type 28 = .ok (.iload 4, 2) := by decide +kernel
theorem dX11_type_30 : decode cX11_type 30 = .ok (.iload_n 3, 1) := by decide +kernel
theorem dX11_type_31 : decode cX11_type 31 = .ok (.if_icmp .ge 33, 3) := by decide +kernel
theorem dX11_type_34 : decode cX11_type 34 = .ok (.lload_n 1, 1) := by decide +kernel
theorem dX11_type_35 : decode cX11_type 35 = .ok (.iload 4, 2) := by decide +kernel
theorem dX11_type_37 : decode cX11_type 37 = .ok (.invokestatic 68, 3) := by decide +kernel
theorem dX11_type_40 : decode cX11_type 40 = .ok (.istore 5, 2) := by decide +kernel
theorem dX11_type_42 : decode cX11_type 42 = .ok (.iload 5, 2) := by decide +kernel
theorem dX11_type_44 : decode cX11_type 44 = .ok (.bipush 32, 2) := by decide +kernel
theorem dX11_type_46 : decode cX11_type 46 = .ok (.if_icmp .lt 10, 3) := by decide +kernel
theorem dX11_type_49 : decode cX11_type 49 = .ok (.iload 5, 2) := by decide +kernel
theorem dX11_type_51 : decode cX11_type 51 = .ok (.bipush 126, 2) := by decide +kernel
theorem dX11_type_53 : decode cX11_type 53 = .ok (.if_icmp .le 5, 3) := by decide +kernel
theorem dX11_type_56 : decode cX11_type 56 = .ok (.iconst (-1), 1) := by decide +kernel
theorem dX11_type_57 : decode cX11_type 57 = .ok (.ireturn, 1) := by decide +kernel
theorem dX11_type_58 : decode cX11_type 58 = .ok (.iinc 4 1, 3) := by decide +kernel
theorem dX11_type_61 : decode cX11_type 61 = .ok (.goto (-33), 3) := by decide +kernel
theorem dX11_type_64 : decode cX11_type 64 = .ok (.iload_n 3, 1) := by decide +kernel
theorem dX11_type_65 : decode cX11_type 65 = .ok (.iconst 1, 1) := by decide +kernel
theorem dX11_type_66 : decode cX11_type 66 = .ok (.isub, 1) := by decide +kernel
theorem dX11_type_67 : decode cX11_type 67 = .ok (.istore 4, 2) := by decide +kernel
theorem dX11_type_69 : decode cX11_type 69 = .ok (.iload 4, 2) := by decide +kernel
theorem dX11_type_71 : decode cX11_type 71 = .ok (.ifCond .lt 35, 3) := by decide +kernel
theorem dX11_type_74 : decode cX11_type 74 = .ok (.aload_n 0, 1) := by decide +kernel
theorem dX11_type_75 : decode cX11_type 75 = .ok (.getfield 9, 3) := by decide +kernel
theorem dX11_type_78 : decode cX11_type 78 = .ok (.aload_n 0, 1) := by decide +kernel
theorem dX11_type_79 : decode cX11_type 79 = .ok (.getfield 52, 3) := by decide +kernel
theorem dX11_type_82 : decode cX11_type 82 = .ok (.lload_n 1, 1) := by decide +kernel
theorem dX11_type_83 : decode cX11_type 83 = .ok (.iload 4, 2) := by decide +kernel
theorem dX11_type_85 : decode cX11_type 85 = .ok (.invokestatic 68, 3) := by decide +kernel
theorem dX11_type_88 : decode cX11_type 88 = .ok (.i2c, 1) := by decide +kernel
theorem dX11_type_89 : decode cX11_type 89 = .ok (.castore, 1) := by decide +kernel
theorem dX11_type_90 : decode cX11_type 90 = .ok (.aload_n 0, 1) := by decide +kernel
theorem dX11_type_91 : decode cX11_type 91 = .ok (.dup, 1) := by decide +kernel
theorem dX11_type_92 : decode cX11_type 92 = .ok (.getfield 52, 3) := by decide +kernel
theorem dX11_type_95 : decode cX11_type 95 = .ok (.iconst 1, 1) := by decide +kernel
theorem dX11_type_96 : decode cX11_type 96 = .ok (.iadd, 1) := by decide +kernel
theorem dX11_type_97 : decode cX11_type 97 = .ok (.putfield 52, 3) := by decide +kernel
theorem dX11_type_100 : decode cX11_type 100 = .ok (.iinc 4 (-1), 3) := by decide +kernel
theorem dX11_type_103 : decode cX11_type 103 = .ok (.goto (-34), 3) := by decide +kernel
theorem dX11_type_106 : decode cX11_type 106 = .ok (.aload_n 0, 1) := by decide +kernel
theorem dX11_type_107 : decode cX11_type 107 = .ok (.getfield 52, 3) := by decide +kernel
theorem dX11_type_110 : decode cX11_type 110 = .ok (.ireturn, 1) := by decide +kernel
theorem dX11_read_0 : decode cX11_read 0 = .ok (.aload_n 0, 1) := by decide +kernel
theorem dX11_read_1 : decode cX11_read 1 = .ok (.getfield 23, 3) := by decide +kernel
theorem dX11_read_4 : decode cX11_read 4 = .ok (.getfield 72, 3) := by decide +kernel
theorem dX11_read_7 : decode cX11_read 7 = .ok (.istore_n 1, 1) := by decide +kernel
theorem dX11_read_8 : decode cX11_read 8 = .ok (.aload_n 0, 1) := by decide +kernel
theorem dX11_read_9 : decode cX11_read 9 = .ok (.getfield 16, 3) := by decide +kernel
theorem dX11_read_12 : decode cX11_read 12 = .ok (.invokevirtual 75, 3) := by decide +kernel
theorem dX11_read_15 : decode cX11_read 15 = .ok (.aload_n 0, 1) := by decide +kernel
theorem dX11_read_16 : decode cX11_read 16 = .ok (.getfield 23, 3) := by decide +kernel
theorem dX11_read_19 : decode cX11_read 19 = .ok (.invokevirtual 78, 3) := by decide +kernel
theorem dX11_read_22 : decode cX11_read 22 = .ok (.aload_n 0, 1) := by decide +kernel
theorem dX11_read_23 : decode cX11_read 23 = .ok (.getfield 30, 3) := by decide +kernel
theorem dX11_read_26 : decode cX11_read 26 = .ok (.invokevirtual 79, 3) := by decide +kernel
theorem dX11_read_29 : decode cX11_read 29 = .ok (.aload_n 0, 1) := by decide +kernel
theorem dX11_read_30 : decode cX11_read 30 = .ok (.iconst (-1), 1) := by decide +kernel
theorem dX11_read_31 : decode cX11_read 31 = .ok (.putfield 56, 3) := by decide +kernel
theorem dX11_read_34 : decode cX11_read 34 = .ok (.aload_n 0, 1) := by decide +kernel
theorem dX11_read_35 : decode cX11_read 35 = .ok (.getfield 39, 3) := by decide +kernel
theorem dX11_read_38 : decode cX11_read 38 = .ok (.aload_n 0, 1) := by decide +kernel
theorem dX11_read_39 : decode cX11_read 39 = .ok (.getfield 9, 3) := by decide +kernel
theorem dX11_read_42 : decode cX11_read 42 = .ok (.aload_n 0, 1) := by decide +kernel
theorem dX11_read_43 : decode cX11_read 43 = .ok (.getfield 52, 3) := by decide +kernel
theorem dX11_read_46 : decode cX11_read 46 = .ok (.invokevirtual 80, 3) := by decide +kernel
theorem dX11_read_49 : decode cX11_read 49 = .ok (.istore_n 2, 1) := by decide +kernel
theorem dX11_read_50 : decode cX11_read 50 = .ok (.aload_n 0, 1) := by decide +kernel
theorem dX11_read_51 : decode cX11_read 51 = .ok (.iconst 0, 1) := by decide +kernel
theorem dX11_read_52 : decode cX11_read 52 = .ok (.putfield 52, 3) := by decide +kernel
theorem dX11_read_55 : decode cX11_read 55 = .ok (.iload_n 2, 1) := by decide +kernel
theorem dX11_read_56 : decode cX11_read 56 = .ok (.ifCond .ne 30, 3) := by decide +kernel
theorem dX11_read_59 : decode cX11_read 59 = .ok (.aload_n 0, 1) := by decide +kernel
theorem dX11_read_60 : decode cX11_read 60 = .ok (.getfield 48, 3) := by decide +kernel
theorem dX11_read_63 : decode cX11_read 63 = .ok (.invokevirtual 84, 3) := by decide +kernel
theorem dX11_read_66 : decode cX11_read 66 = .ok (.istore_n 2, 1) := by decide +kernel
theorem dX11_read_67 : decode cX11_read 67 = .ok (.aload_n 0, 1) := by decide +kernel
theorem dX11_read_68 : decode cX11_read 68 = .ok (.iload_n 2, 1) := by decide +kernel
theorem dX11_read_69 : decode cX11_read 69 = .ok (.ifCond .ne 7, 3) := by decide +kernel
theorem dX11_read_72 : decode cX11_read 72 = .ok (.iconst (-1), 1) := by decide +kernel
theorem dX11_read_73 : decode cX11_read 73 = .ok (.goto 10, 3) := by decide +kernel
theorem dX11_read_76 : decode cX11_read 76 = .ok (.aload_n 0, 1) := by decide +kernel
theorem dX11_read_77 : decode cX11_read 77 = .ok (.getfield 48, 3) := by decide +kernel
theorem dX11_read_80 : decode cX11_read 80 = .ok (.getfield 88, 3) := by decide +kernel
theorem dX11_read_83 : decode cX11_read 83 = .ok (.putfield 56, 3) := by decide +kernel
theorem dX11_read_86 : decode cX11_read 86 = .ok (.iload_n 2, 1) := by decide +kernel
theorem dX11_read_87 : decode cX11_read 87 = .ok (.ifCond .ne 26, 3) := by decide +kernel
theorem dX11_read_90 : decode cX11_read 90 = .ok (.aload_n 0, 1) := by decide +kernel
theorem dX11_read_91 : decode cX11_read 91 = .ok (.aload_n 0, 1) := by decide +kernel
theorem dX11_read_92 : decode cX11_read 92 = .ok (.getfield 23, 3) := by decide +kernel
theorem dX11_read_95 : decode cX11_read 95 = .ok (.getfield 72, 3) := by decide +kernel
theorem dX11_read_98 : decode cX11_read 98 = .ok (.iload_n 1, 1) := by decide +kernel
theorem dX11_read_99 : decode cX11_read 99 = .ok (.if_icmp .le 7, 3) := by decide +kernel
theorem dX11_read_102 : decode cX11_read 102 = .ok (.iconst 1, 1) := by decide +kernel
theorem dX11_read_103 : decode cX11_read 103 = .ok (.goto 4, 3) := by decide +kernel
theorem dX11_read_106 : decode cX11_read 106 = .ok (.iconst 0, 1) := by decide +kernel
theorem dX11_read_107 : decode cX11_read 107 = .ok (.invokevirtual 89, 3) := by decide +kernel
theorem dX11_read_110 : decode cX11_read 110 = .ok (.goto 18, 3) := by decide +kernel
theorem dX11_read_113 : decode cX11_read 113 = .ok (.aload_n 0, 1) := by decide +kernel
theorem dX11_read_114 : decode cX11_read 114 = .ok (.getfield 23, 3) := by decide +kernel
theorem dX11_read_117 : decode cX11_read 117 = .ok (.iload_n 1, 1) := by decide +kernel
theorem dX11_read_118 : decode cX11_read 118 = .ok (.putfield 72, 3) := by decide +kernel
theorem dX11_read_121 : decode cX11_read 121 = .ok (.aload_n 0, 1) := by decide +kernel
theorem dX11_read_122 : decode cX11_read 122 = .ok (.getfield 16, 3) := by decide +kernel
theorem dX11_read_125 : decode cX11_read 125 = .ok (.invokevirtual 93, 3) := by decide +kernel
theorem dX11_read_128 : decode cX11_read 128 = .ok (.iload_n 2, 1) := by decide +kernel
theorem dX11_read_129 : decode cX11_read 129 = .ok (.ireturn, 1) := by decide +kernel
theorem dX11_place_0 : decode cX11_place 0 = .ok (.aload_n 0, 1) := by decide +kernel
theorem dX11_place_1 : decode cX11_place 1 = .ok (.getfield 56, 3) := by decide +kernel
theorem dX11_place_4 : decode cX11_place 4 = .ok (.ireturn, 1) := by decide +kernel
theorem dX11_count_0 : decode cX11_count 0 = .ok (.iload_n 1, 1) := by decide +kernel
theorem dX11_count_1 : decode cX11_count 1 = .ok (.tableswitch 78 0 5 #[39, 47, 52, 57, 62, 70], 39) := by decide +kernel
theorem dX11_count_40 : decode cX11_count 40 = .ok (.aload_n 0, 1) := by decide +kernel
theorem dX11_count_41 : decode cX11_count 41 = .ok (.getfield 30, 3) := by decide +kernel
theorem dX11_count_44 : decode cX11_count 44 = .ok (.getfield 96, 3) := by decide +kernel
theorem dX11_count_47 : decode cX11_count 47 = .ok (.ireturn, 1) := by decide +kernel
theorem dX11_count_48 : decode cX11_count 48 = .ok (.aload_n 0, 1) := by decide +kernel
theorem dX11_count_49 : decode cX11_count 49 = .ok (.getfield 59, 3) := by decide +kernel
theorem dX11_count_52 : decode cX11_count 52 = .ok (.ireturn, 1) := by decide +kernel
theorem dX11_count_53 : decode cX11_count 53 = .ok (.aload_n 0, 1) := by decide +kernel
theorem dX11_count_54 : decode cX11_count 54 = .ok (.getfield 62, 3) := by decide +kernel
theorem dX11_count_57 : decode cX11_count 57 = .ok (.ireturn, 1) := by decide +kernel
theorem dX11_count_58 : decode cX11_count 58 = .ok (.aload_n 0, 1) := by decide +kernel
theorem dX11_count_59 : decode cX11_count 59 = .ok (.getfield 65, 3) := by decide +kernel
theorem dX11_count_62 : decode cX11_count 62 = .ok (.ireturn, 1) := by decide +kernel
theorem dX11_count_63 : decode cX11_count 63 = .ok (.aload_n 0, 1) := by decide +kernel
theorem dX11_count_64 : decode cX11_count 64 = .ok (.getfield 16, 3) := by decide +kernel
theorem dX11_count_67 : decode cX11_count 67 = .ok (.invokevirtual 99, 3) := by decide +kernel
theorem dX11_count_70 : decode cX11_count 70 = .ok (.ireturn, 1) := by decide +kernel
theorem dX11_count_71 : decode cX11_count 71 = .ok (.aload_n 0, 1) := by decide +kernel
theorem dX11_count_72 : decode cX11_count 72 = .ok (.getfield 23, 3) := by decide +kernel
theorem dX11_count_75 : decode cX11_count 75 = .ok (.getfield 72, 3) := by decide +kernel
theorem dX11_count_78 : decode cX11_count 78 = .ok (.ireturn, 1) := by decide +kernel
theorem dX11_count_79 : decode cX11_count 79 = .ok (.iconst (-1), 1) := by decide +kernel
theorem dX11_count_80 : decode cX11_count 80 = .ok (.ireturn, 1) := by decide +kernel
theorem dX11_character_0 : decode cX11_character 0 = .ok (.aload_n 0, 1) := by decide +kernel
theorem dX11_character_1 : decode cX11_character 1 = .ok (.getfield 30, 3) := by decide +kernel
theorem dX11_character_4 : decode cX11_character 4 = .ok (.iload_n 1, 1) := by decide +kernel
theorem dX11_character_5 : decode cX11_character 5 = .ok (.invokevirtual 102, 3) := by decide +kernel
theorem dX11_character_8 : decode cX11_character 8 = .ok (.ireturn, 1) := by decide +kernel
theorem dX11_means_0 : decode cX11_means 0 = .ok (.aload_n 0, 1) := by decide +kernel
theorem dX11_means_1 : decode cX11_means 1 = .ok (.getfield 39, 3) := by decide +kernel
theorem dX11_means_4 : decode cX11_means 4 = .ok (.aload_n 0, 1) := by decide +kernel
theorem dX11_means_5 : decode cX11_means 5 = .ok (.getfield 9, 3) := by decide +kernel
theorem dX11_means_8 : decode cX11_means 8 = .ok (.iconst 0, 1) := by decide +kernel
theorem dX11_means_9 : decode cX11_means 9 = .ok (.aload_n 0, 1) := by decide +kernel
theorem dX11_means_10 : decode cX11_means 10 = .ok (.getfield 52, 3) := by decide +kernel
theorem dX11_means_13 : decode cX11_means 13 = .ok (.invokevirtual 106, 3) := by decide +kernel
theorem dX11_means_16 : decode cX11_means 16 = .ok (.istore_n 1, 1) := by decide +kernel
theorem dX11_means_17 : decode cX11_means 17 = .ok (.aload_n 0, 1) := by decide +kernel
theorem dX11_means_18 : decode cX11_means 18 = .ok (.getfield 39, 3) := by decide +kernel
theorem dX11_means_21 : decode cX11_means 21 = .ok (.aload_n 0, 1) := by decide +kernel
theorem dX11_means_22 : decode cX11_means 22 = .ok (.getfield 9, 3) := by decide +kernel
theorem dX11_means_25 : decode cX11_means 25 = .ok (.iload_n 1, 1) := by decide +kernel
theorem dX11_means_26 : decode cX11_means 26 = .ok (.aload_n 0, 1) := by decide +kernel
theorem dX11_means_27 : decode cX11_means 27 = .ok (.getfield 52, 3) := by decide +kernel
theorem dX11_means_30 : decode cX11_means 30 = .ok (.invokevirtual 110, 3) := by decide +kernel
theorem dX11_means_33 : decode cX11_means 33 = .ok (.istore_n 2, 1) := by decide +kernel
theorem dX11_means_34 : decode cX11_means 34 = .ok (.aload_n 0, 1) := by decide +kernel
theorem dX11_means_35 : decode cX11_means 35 = .ok (.getfield 39, 3) := by decide +kernel
theorem dX11_means_38 : decode cX11_means 38 = .ok (.aload_n 0, 1) := by decide +kernel
theorem dX11_means_39 : decode cX11_means 39 = .ok (.getfield 9, 3) := by decide +kernel
theorem dX11_means_42 : decode cX11_means 42 = .ok (.iload_n 2, 1) := by decide +kernel
theorem dX11_means_43 : decode cX11_means 43 = .ok (.aload_n 0, 1) := by decide +kernel
theorem dX11_means_44 : decode cX11_means 44 = .ok (.getfield 52, 3) := by decide +kernel
theorem dX11_means_47 : decode cX11_means 47 = .ok (.invokevirtual 106, 3) := by decide +kernel
theorem dX11_means_50 : decode cX11_means 50 = .ok (.aload_n 0, 1) := by decide +kernel
theorem dX11_means_51 : decode cX11_means 51 = .ok (.getfield 52, 3) := by decide +kernel
theorem dX11_means_54 : decode cX11_means 54 = .ok (.if_icmp .ne 7, 3) := by decide +kernel
theorem dX11_means_57 : decode cX11_means 57 = .ok (.iconst 1, 1) := by decide +kernel
theorem dX11_means_58 : decode cX11_means 58 = .ok (.goto 4, 3) := by decide +kernel
theorem dX11_means_61 : decode cX11_means 61 = .ok (.iconst 0, 1) := by decide +kernel
theorem dX11_means_62 : decode cX11_means 62 = .ok (.istore_n 3, 1) := by decide +kernel
theorem dX11_means_63 : decode cX11_means 63 = .ok (.aload_n 0, 1) := by decide +kernel
theorem dX11_means_64 : decode cX11_means 64 = .ok (.iconst 0, 1) := by decide +kernel
theorem dX11_means_65 : decode cX11_means 65 = .ok (.putfield 52, 3) := by decide +kernel
theorem dX11_means_68 : decode cX11_means 68 = .ok (.iload_n 3, 1) := by decide +kernel
theorem dX11_means_69 : decode cX11_means 69 = .ok (.ifCond .eq 19, 3) := by decide +kernel
theorem dX11_means_72 : decode cX11_means 72 = .ok (.aload_n 0, 1) := by decide +kernel
theorem dX11_means_73 : decode cX11_means 73 = .ok (.getfield 39, 3) := by decide +kernel
theorem dX11_means_76 : decode cX11_means 76 = .ok (.aload_n 0, 1) := by decide +kernel
theorem dX11_means_77 : decode cX11_means 77 = .ok (.getfield 9, 3) := by decide +kernel
theorem dX11_means_80 : decode cX11_means 80 = .ok (.iload_n 1, 1) := by decide +kernel
theorem dX11_means_81 : decode cX11_means 81 = .ok (.iload_n 2, 1) := by decide +kernel
theorem dX11_means_82 : decode cX11_means 82 = .ok (.invokevirtual 113, 3) := by decide +kernel
theorem dX11_means_85 : decode cX11_means 85 = .ok (.ifCond .ne 5, 3) := by decide +kernel
theorem dX11_means_88 : decode cX11_means 88 = .ok (.iconst (-1), 1) := by decide +kernel
theorem dX11_means_89 : decode cX11_means 89 = .ok (.ireturn, 1) := by decide +kernel
theorem dX11_means_90 : decode cX11_means 90 = .ok (.aload_n 0, 1) := by decide +kernel
theorem dX11_means_91 : decode cX11_means 91 = .ok (.getfield 39, 3) := by decide +kernel
theorem dX11_means_94 : decode cX11_means 94 = .ok (.aload_n 0, 1) := by decide +kernel
theorem dX11_means_95 : decode cX11_means 95 = .ok (.getfield 9, 3) := by decide +kernel
theorem dX11_means_98 : decode cX11_means 98 = .ok (.iload_n 1, 1) := by decide +kernel
theorem dX11_means_99 : decode cX11_means 99 = .ok (.iload_n 2, 1) := by decide +kernel
theorem dX11_means_100 : decode cX11_means 100 = .ok (.invokevirtual 117, 3) := by decide +kernel
theorem dX11_means_103 : decode cX11_means 103 = .ok (.istore 4, 2) := by decide +kernel
theorem dX11_means_105 : decode cX11_means 105 = .ok (.iload 4, 2) := by decide +kernel
theorem dX11_means_107 : decode cX11_means 107 = .ok (.iconst (-1), 1) := by decide +kernel
theorem dX11_means_108 : decode cX11_means 108 = .ok (.if_icmp .ne 5, 3) := by decide +kernel
theorem dX11_means_111 : decode cX11_means 111 = .ok (.iconst 0, 1) := by decide +kernel
theorem dX11_means_112 : decode cX11_means 112 = .ok (.ireturn, 1) := by decide +kernel
theorem dX11_means_113 : decode cX11_means 113 = .ok (.iload 4, 2) := by decide +kernel
theorem dX11_means_115 : decode cX11_means 115 = .ok (.bipush 6, 2) := by decide +kernel
theorem dX11_means_117 : decode cX11_means 117 = .ok (.if_icmp .gt 5, 3) := by decide +kernel
theorem dX11_means_120 : decode cX11_means 120 = .ok (.iconst 1, 1) := by decide +kernel
theorem dX11_means_121 : decode cX11_means 121 = .ok (.ireturn, 1) := by decide +kernel
theorem dX11_means_122 : decode cX11_means 122 = .ok (.aload_n 0, 1) := by decide +kernel
theorem dX11_means_123 : decode cX11_means 123 = .ok (.getfield 16, 3) := by decide +kernel
theorem dX11_means_126 : decode cX11_means 126 = .ok (.iload 4, 2) := by decide +kernel
theorem dX11_means_128 : decode cX11_means 128 = .ok (.invokevirtual 120, 3) := by decide +kernel
theorem dX11_means_131 : decode cX11_means 131 = .ok (.iconst (-1), 1) := by decide +kernel
theorem dX11_means_132 : decode cX11_means 132 = .ok (.if_icmp .ne 7, 3) := by decide +kernel
theorem dX11_means_135 : decode cX11_means 135 = .ok (.iconst 0, 1) := by decide +kernel
theorem dX11_means_136 : decode cX11_means 136 = .ok (.goto 4, 3) := by decide +kernel
theorem dX11_means_139 : decode cX11_means 139 = .ok (.iconst 2, 1) := by decide +kernel
theorem dX11_means_140 : decode cX11_means 140 = .ok (.ireturn, 1) := by decide +kernel
theorem dX11_check_0 : decode cX11_check 0 = .ok (.aload_n 0, 1) := by decide +kernel
theorem dX11_check_1 : decode cX11_check 1 = .ok (.getfield 30, 3) := by decide +kernel
theorem dX11_check_4 : decode cX11_check 4 = .ok (.invokevirtual 123, 3) := by decide +kernel
theorem dX11_check_7 : decode cX11_check 7 = .ok (.ifCond .eq 7, 3) := by decide +kernel
theorem dX11_check_10 : decode cX11_check 10 = .ok (.iconst 1, 1) := by decide +kernel
theorem dX11_check_11 : decode cX11_check 11 = .ok (.goto 4, 3) := by decide +kernel
theorem dX11_check_14 : decode cX11_check 14 = .ok (.iconst 0, 1) := by decide +kernel
theorem dX11_check_15 : decode cX11_check 15 = .ok (.ireturn, 1) := by decide +kernel
theorem dX11_byteOf_0 : decode cX11_byteOf 0 = .ok (.lload_n 0, 1) := by decide +kernel
theorem dX11_byteOf_1 : decode cX11_byteOf 1 = .ok (.bipush 8, 2) := by decide +kernel
theorem dX11_byteOf_3 : decode cX11_byteOf 3 = .ok (.iload_n 2, 1) := by decide +kernel
theorem dX11_byteOf_4 : decode cX11_byteOf 4 = .ok (.imul, 1) := by decide +kernel
theorem dX11_byteOf_5 : decode cX11_byteOf 5 = .ok (.lushr, 1) := by decide +kernel
theorem dX11_byteOf_6 : decode cX11_byteOf 6 = .ok (.l2i, 1) := by decide +kernel
theorem dX11_byteOf_7 : decode cX11_byteOf 7 = .ok (.sipush 255, 3) := by decide +kernel
theorem dX11_byteOf_10 : decode cX11_byteOf 10 = .ok (.iand, 1) := by decide +kernel
theorem dX11_byteOf_11 : decode cX11_byteOf 11 = .ok (.ireturn, 1) := by decide +kernel
theorem dX11_takeText_0 : decode cX11_takeText 0 = .ok (.aload_n 0, 1) := by decide +kernel
theorem dX11_takeText_1 : decode cX11_takeText 1 = .ok (.getfield 30, 3) := by decide +kernel
theorem dX11_takeText_4 : decode cX11_takeText 4 = .ok (.invokevirtual 127, 3) := by decide +kernel
theorem dX11_takeText_7 : decode cX11_takeText 7 = .ok (.aload_n 0, 1) := by decide +kernel
theorem dX11_takeText_8 : decode cX11_takeText 8 = .ok (.aload_n 0, 1) := by decide +kernel
theorem dX11_takeText_9 : decode cX11_takeText 9 = .ok (.getfield 48, 3) := by decide +kernel
theorem dX11_takeText_12 : decode cX11_takeText 12 = .ok (.getfield 130, 3) := by decide +kernel
theorem dX11_takeText_15 : decode cX11_takeText 15 = .ok (.putfield 59, 3) := by decide +kernel
theorem dX11_takeText_18 : decode cX11_takeText 18 = .ok (.aload_n 0, 1) := by decide +kernel
theorem dX11_takeText_19 : decode cX11_takeText 19 = .ok (.aload_n 0, 1) := by decide +kernel
theorem dX11_takeText_20 : decode cX11_takeText 20 = .ok (.getfield 48, 3) := by decide +kernel
theorem dX11_takeText_23 : decode cX11_takeText 23 = .ok (.getfield 131, 3) := by decide +kernel
theorem dX11_takeText_26 : decode cX11_takeText 26 = .ok (.putfield 62, 3) := by decide +kernel
theorem dX11_takeText_29 : decode cX11_takeText 29 = .ok (.aload_n 0, 1) := by decide +kernel
theorem dX11_takeText_30 : decode cX11_takeText 30 = .ok (.aload_n 0, 1) := by decide +kernel
theorem dX11_takeText_31 : decode cX11_takeText 31 = .ok (.getfield 48, 3) := by decide +kernel
theorem dX11_takeText_34 : decode cX11_takeText 34 = .ok (.getfield 88, 3) := by decide +kernel
theorem dX11_takeText_37 : decode cX11_takeText 37 = .ok (.iconst 1, 1) := by decide +kernel
theorem dX11_takeText_38 : decode cX11_takeText 38 = .ok (.iadd, 1) := by decide +kernel
theorem dX11_takeText_39 : decode cX11_takeText 39 = .ok (.putfield 65, 3) := by decide +kernel
theorem dX11_takeText_42 : decode cX11_takeText 42 = .ok (.aload_n 0, 1) := by decide +kernel
theorem dX11_takeText_43 : decode cX11_takeText 43 = .ok (.getfield 16, 3) := by decide +kernel
theorem dX11_takeText_46 : decode cX11_takeText 46 = .ok (.iload_n 1, 1) := by decide +kernel
theorem dX11_takeText_47 : decode cX11_takeText 47 = .ok (.invokevirtual 132, 3) := by decide +kernel
theorem dX11_takeText_50 : decode cX11_takeText 50 = .ok (.return_, 1) := by decide +kernel
theorem dX12_init_0 : decode cX12_init 0 = .ok (.aload_n 0, 1) := by decide +kernel
theorem dX12_init_1 : decode cX12_init 1 = .ok (.invokespecial 1, 3) := by decide +kernel
theorem dX12_init_4 : decode cX12_init 4 = .ok (.aload_n 0, 1) := by decide +kernel
theorem dX12_init_5 : decode cX12_init 5 = .ok (.sipush 3000, 3) := by decide +kernel
theorem dX12_init_8 : decode cX12_init 8 = .ok (.newarray .byte, 2) := by decide +kernel
theorem dX12_init_10 : decode cX12_init 10 = .ok (.putfield 7, 3) := by decide +kernel
theorem dX12_init_13 : decode cX12_init 13 = .ok (.aload_n 0, 1) := by decide +kernel
theorem dX12_init_14 : decode cX12_init 14 = .ok (.iconst (-1), 1) := by decide +kernel
theorem dX12_init_15 : decode cX12_init 15 = .ok (.putfield 13, 3) := by decide +kernel
theorem dX12_init_18 : decode cX12_init 18 = .ok (.aload_n 0, 1) := by decide +kernel
theorem dX12_init_19 : decode cX12_init 19 = .ok (.ldc 17, 2) := by decide +kernel
theorem dX12_init_21 : decode cX12_init 21 = .ok (.newarray .byte, 2) := by decide +kernel
theorem dX12_init_23 : decode cX12_init 23 = .ok (.putfield 18, 3) := by decide +kernel
theorem dX12_init_26 : decode cX12_init 26 = .ok (.aload_n 0, 1) := by decide +kernel
theorem dX12_init_27 : decode cX12_init 27 = .ok (.sipush 5001, 3) := by decide +kernel
theorem dX12_init_30 : decode cX12_init 30 = .ok (.newarray .int, 2) := by decide +kernel
theorem dX12_init_32 : decode cX12_init 32 = .ok (.putfield 21, 3) := by decide +kernel
theorem dX12_init_35 : decode cX12_init 35 = .ok (.aload_n 0, 1) := by decide +kernel
theorem dX12_init_36 : decode cX12_init 36 = .ok (.sipush 5000, 3) := by decide +kernel
theorem dX12_init_39 : decode cX12_init 39 = .ok (.newarray .int, 2) := by decide +kernel
theorem dX12_init_41 : decode cX12_init 41 = .ok (.putfield 25, 3) := by decide +kernel
theorem dX12_init_44 : decode cX12_init 44 = .ok (.aload_n 0, 1) := by decide +kernel
theorem dX12_init_45 : decode cX12_init 45 = .ok (.sipush 5000, 3) := by decide +kernel
theorem dX12_init_48 : decode cX12_init 48 = .ok (.newarray .int, 2) := by decide +kernel
theorem dX12_init_50 : decode cX12_init 50 = .ok (.putfield 28, 3) := by decide +kernel
theorem dX12_init_53 : decode cX12_init 53 = .ok (.aload_n 0, 1) := by decide +kernel
theorem dX12_init_54 : decode cX12_init 54 = .ok (.ldc 31, 2) := by decide +kernel
theorem dX12_init_56 : decode cX12_init 56 = .ok (.newarray .byte, 2) := by decide +kernel
theorem dX12_init_58 : decode cX12_init 58 = .ok (.putfield 32, 3) := by decide +kernel
theorem dX12_init_61 : decode cX12_init 61 = .ok (.aload_n 0, 1) := by decide +kernel
theorem dX12_init_62 : decode cX12_init 62 = .ok (.ldc 31, 2) := by decide +kernel
theorem dX12_init_64 : decode cX12_init 64 = .ok (.newarray .int, 2) := by decide +kernel
theorem dX12_init_66 : decode cX12_init 66 = .ok (.putfield 35, 3) := by decide +kernel
theorem dX12_init_69 : decode cX12_init 69 = .ok (.aload_n 0, 1) := by decide +kernel
theorem dX12_init_70 : decode cX12_init 70 = .ok (.ldc 31, 2) := by decide +kernel
theorem dX12_init_72 : decode cX12_init 72 = .ok (.newarray .int, 2) := by decide +kernel
theorem dX12_init_74 : decode cX12_init 74 = .ok (.putfield 38, 3) := by decide +kernel
theorem dX12_init_77 : decode cX12_init 77 = .ok (.aload_n 0, 1) := by decide +kernel
theorem dX12_init_78 : decode cX12_init 78 = .ok (.ldc 31, 2) := by decide +kernel
theorem dX12_init_80 : decode cX12_init 80 = .ok (.newarray .int, 2) := by decide +kernel
theorem dX12_init_82 : decode cX12_init 82 = .ok (.putfield 41, 3) := by decide +kernel
theorem dX12_init_85 : decode cX12_init 85 = .ok (.aload_n 0, 1) := by decide +kernel
theorem dX12_init_86 : decode cX12_init 86 = .ok (.ldc 44, 2) := by decide +kernel
theorem dX12_init_88 : decode cX12_init 88 = .ok (.newarray .int, 2) := by decide +kernel
theorem dX12_init_90 : decode cX12_init 90 = .ok (.putfield 45, 3) := by decide +kernel
theorem dX12_init_93 : decode cX12_init 93 = .ok (.aload_n 0, 1) := by decide +kernel
theorem dX12_init_94 : decode cX12_init 94 = .ok (.ldc 44, 2) := by decide +kernel
theorem dX12_init_96 : decode cX12_init 96 = .ok (.newarray .int, 2) := by decide +kernel
theorem dX12_init_98 : decode cX12_init 98 = .ok (.putfield 48, 3) := by decide +kernel
theorem dX12_init_101 : decode cX12_init 101 = .ok (.aload_n 0, 1) := by decide +kernel
theorem dX12_init_102 : decode cX12_init 102 = .ok (.sipush 260, 3) := by decide +kernel
theorem dX12_init_105 : decode cX12_init 105 = .ok (.newarray .int, 2) := by decide +kernel
theorem dX12_init_107 : decode cX12_init 107 = .ok (.putfield 51, 3) := by decide +kernel
theorem dX12_init_110 : decode cX12_init 110 = .ok (.aload_n 0, 1) := by decide +kernel
theorem dX12_init_111 : decode cX12_init 111 = .ok (.sipush 261, 3) := by decide +kernel
theorem dX12_init_114 : decode cX12_init 114 = .ok (.newarray .int, 2) := by decide +kernel
theorem dX12_init_116 : decode cX12_init 116 = .ok (.putfield 54, 3) := by decide +kernel
theorem dX12_init_119 : decode cX12_init 119 = .ok (.aload_n 0, 1) := by decide +kernel
theorem dX12_init_120 : decode cX12_init 120 = .ok (.sipush 1600, 3) := by decide +kernel
theorem dX12_init_123 : decode cX12_init 123 = .ok (.newarray .int, 2) := by decide +kernel
theorem dX12_init_125 : decode cX12_init 125 = .ok (.putfield 57, 3) := by decide +kernel
theorem dX12_init_128 : decode cX12_init 128 = .ok (.aload_n 0, 1) := by decide +kernel
theorem dX12_init_129 : decode cX12_init 129 = .ok (.sipush 1600, 3) := by decide +kernel
theorem dX12_init_132 : decode cX12_init 132 = .ok (.newarray .int, 2) := by decide +kernel
theorem dX12_init_134 : decode cX12_init 134 = .ok (.putfield 60, 3) := by decide +kernel
theorem dX12_init_137 : decode cX12_init 137 = .ok (.aload_n 0, 1) := by decide +kernel
theorem dX12_init_138 : decode cX12_init 138 = .ok (.sipush 1600, 3) := by decide +kernel
theorem dX12_init_141 : decode cX12_init 141 = .ok (.newarray .int, 2) := by decide +kernel
theorem dX12_init_143 : decode cX12_init 143 = .ok (.putfield 63, 3) := by decide +kernel
theorem dX12_init_146 : decode cX12_init 146 = .ok (.aload_n 0, 1) := by decide +kernel
theorem dX12_init_147 : decode cX12_init 147 = .ok (.ldc 66, 2) := by decide +kernel
theorem dX12_init_149 : decode cX12_init 149 = .ok (.newarray .byte, 2) := by decide +kernel
theorem dX12_init_151 : decode cX12_init 151 = .ok (.putfield 67, 3) := by decide +kernel
theorem dX12_init_154 : decode cX12_init 154 = .ok (.aload_n 0, 1) := by decide +kernel
theorem dX12_init_155 : decode cX12_init 155 = .ok (.ldc 66, 2) := by decide +kernel
theorem dX12_init_157 : decode cX12_init 157 = .ok (.newarray .int, 2) := by decide +kernel
theorem dX12_init_159 : decode cX12_init 159 = .ok (.putfield 70, 3) := by decide +kernel
theorem dX12_init_162 : decode cX12_init 162 = .ok (.aload_n 0, 1) := by decide +kernel
theorem dX12_init_163 : decode cX12_init 163 = .ok (.ldc 66, 2) := by decide +kernel
theorem dX12_init_165 : decode cX12_init 165 = .ok (.newarray .int, 2) := by decide +kernel
theorem dX12_init_167 : decode cX12_init 167 = .ok (.putfield 73, 3) := by decide +kernel
theorem dX12_init_170 : decode cX12_init 170 = .ok (.aload_n 0, 1) := by decide +kernel
theorem dX12_init_171 : decode cX12_init 171 = .ok (.ldc 66, 2) := by decide +kernel
theorem dX12_init_173 : decode cX12_init 173 = .ok (.newarray .int, 2) := by decide +kernel
theorem dX12_init_175 : decode cX12_init 175 = .ok (.putfield 76, 3) := by decide +kernel
theorem dX12_init_178 : decode cX12_init 178 = .ok (.aload_n 0, 1) := by decide +kernel
theorem dX12_init_179 : decode cX12_init 179 = .ok (.sipush 4000, 3) := by decide +kernel
theorem dX12_init_182 : decode cX12_init 182 = .ok (.newarray .byte, 2) := by decide +kernel
theorem dX12_init_184 : decode cX12_init 184 = .ok (.putfield 79, 3) := by decide +kernel
theorem dX12_init_187 : decode cX12_init 187 = .ok (.aload_n 0, 1) := by decide +kernel
theorem dX12_init_188 : decode cX12_init 188 = .ok (.sipush 4000, 3) := by decide +kernel
theorem dX12_init_191 : decode cX12_init 191 = .ok (.newarray .byte, 2) := by decide +kernel
theorem dX12_init_193 : decode cX12_init 193 = .ok (.putfield 82, 3) := by decide +kernel
theorem dX12_init_196 : decode cX12_init 196 = .ok (.aload_n 0, 1) := by decide +kernel
theorem dX12_init_197 : decode cX12_init 197 = .ok (.sipush 3001, 3) := by decide +kernel
theorem dX12_init_200 : decode cX12_init 200 = .ok (.newarray .int, 2) := by decide +kernel
theorem dX12_init_202 : decode cX12_init 202 = .ok (.putfield 85, 3) := by decide +kernel
theorem dX12_init_205 : decode cX12_init 205 = .ok (.aload_n 0, 1) := by decide +kernel
theorem dX12_init_206 : decode cX12_init 206 = .ok (.bipush 110, 2) := by decide +kernel
theorem dX12_init_208 : decode cX12_init 208 = .ok (.newarray .int, 2) := by decide +kernel
theorem dX12_init_210 : decode cX12_init 210 = .ok (.putfield 88, 3) := by decide +kernel
theorem dX12_init_213 : decode cX12_init 213 = .ok (.aload_n 0, 1) := by decide +kernel
theorem dX12_init_214 : decode cX12_init 214 = .ok (.sipush 1600, 3) := by decide +kernel
theorem dX12_init_217 : decode cX12_init 217 = .ok (.newarray .int, 2) := by decide +kernel
theorem dX12_init_219 : decode cX12_init 219 = .ok (.putfield 91, 3) := by decide +kernel
theorem dX12_init_222 : decode cX12_init 222 = .ok (.aload_n 0, 1) := by decide +kernel
theorem dX12_init_223 : decode cX12_init 223 = .ok (.sipush 1600, 3) := by decide +kernel
theorem dX12_init_226 : decode cX12_init 226 = .ok (.newarray .boolean, 2) := by decide +kernel
theorem dX12_init_228 : decode cX12_init 228 = .ok (.putfield 94, 3) := by decide +kernel
theorem dX12_init_231 : decode cX12_init 231 = .ok (.aload_n 0, 1) := by decide +kernel
theorem dX12_init_232 : decode cX12_init 232 = .ok (.ldc 31, 2) := by decide +kernel
theorem dX12_init_234 : decode cX12_init 234 = .ok (.newarray .int, 2) := by decide +kernel
theorem dX12_init_236 : decode cX12_init 236 = .ok (.putfield 98, 3) := by decide +kernel
theorem dX12_init_239 : decode cX12_init 239 = .ok (.aload_n 0, 1) := by decide +kernel
theorem dX12_init_240 : decode cX12_init 240 = .ok (.ldc 31, 2) := by decide +kernel
theorem dX12_init_242 : decode cX12_init 242 = .ok (.newarray .int, 2) := by decide +kernel
theorem dX12_init_244 : decode cX12_init 244 = .ok (.putfield 101, 3) := by decide +kernel
theorem dX12_init_247 : decode cX12_init 247 = .ok (.aload_n 0, 1) := by decide +kernel
theorem dX12_init_248 : decode cX12_init 248 = .ok (.ldc 31, 2) := by decide +kernel
theorem dX12_init_250 : decode cX12_init 250 = .ok (.newarray .int, 2) := by decide +kernel
theorem dX12_init_252 : decode cX12_init 252 = .ok (.putfield 104, 3) := by decide +kernel
theorem dX12_init_255 : decode cX12_init 255 = .ok (.aload_n 0, 1) := by decide +kernel
theorem dX12_init_256 : decode cX12_init 256 = .ok (.ldc 31, 2) := by decide +kernel
theorem dX12_init_258 : decode cX12_init 258 = .ok (.newarray .int, 2) := by decide +kernel
theorem dX12_init_260 : decode cX12_init 260 = .ok (.putfield 107, 3) := by decide +kernel
theorem dX12_init_263 : decode cX12_init 263 = .ok (.aload_n 0, 1) := by decide +kernel
theorem dX12_init_264 : decode cX12_init 264 = .ok (.sipush 1600, 3) := by decide +kernel
theorem dX12_init_267 : decode cX12_init 267 = .ok (.newarray .int, 2) := by decide +kernel
theorem dX12_init_269 : decode cX12_init 269 = .ok (.putfield 110, 3) := by decide +kernel
theorem dX12_init_272 : decode cX12_init 272 = .ok (.aload_n 0, 1) := by decide +kernel
theorem dX12_init_273 : decode cX12_init 273 = .ok (.sipush 1600, 3) := by decide +kernel
theorem dX12_init_276 : decode cX12_init 276 = .ok (.newarray .int, 2) := by decide +kernel
theorem dX12_init_278 : decode cX12_init 278 = .ok (.putfield 113, 3) := by decide +kernel
theorem dX12_init_281 : decode cX12_init 281 = .ok (.aload_n 0, 1) := by decide +kernel
theorem dX12_init_282 : decode cX12_init 282 = .ok (.ldc 31, 2) := by decide +kernel
theorem dX12_init_284 : decode cX12_init 284 = .ok (.newarray .int, 2) := by decide +kernel
theorem dX12_init_286 : decode cX12_init 286 = .ok (.putfield 116, 3) := by decide +kernel
theorem dX12_init_289 : decode cX12_init 289 = .ok (.aload_n 0, 1) := by decide +kernel
theorem dX12_init_290 : decode cX12_init 290 = .ok (.sipush 4200, 3) := by decide +kernel
theorem dX12_init_293 : decode cX12_init 293 = .ok (.newarray .byte, 2) := by decide +kernel
theorem dX12_init_295 : decode cX12_init 295 = .ok (.putfield 119, 3) := by decide +kernel
theorem dX12_init_298 : decode cX12_init 298 = .ok (.aload_n 0, 1) := by decide +kernel
theorem dX12_init_299 : decode cX12_init 299 = .ok (.sipush 4200, 3) := by decide +kernel
theorem dX12_init_302 : decode cX12_init 302 = .ok (.newarray .int, 2) := by decide +kernel
theorem dX12_init_304 : decode cX12_init 304 = .ok (.putfield 122, 3) := by decide +kernel
theorem dX12_init_307 : decode cX12_init 307 = .ok (.aload_n 0, 1) := by decide +kernel
theorem dX12_init_308 : decode cX12_init 308 = .ok (.sipush 4200, 3) := by decide +kernel
theorem dX12_init_311 : decode cX12_init 311 = .ok (.newarray .int, 2) := by decide +kernel
theorem dX12_init_313 : decode cX12_init 313 = .ok (.putfield 125, 3) := by decide +kernel
theorem dX12_init_316 : decode cX12_init 316 = .ok (.aload_n 0, 1) := by decide +kernel
theorem dX12_init_317 : decode cX12_init 317 = .ok (.sipush 4200, 3) := by decide +kernel
theorem dX12_init_320 : decode cX12_init 320 = .ok (.newarray .int, 2) := by decide +kernel
theorem dX12_init_322 : decode cX12_init 322 = .ok (.putfield 128, 3) := by decide +kernel
theorem dX12_init_325 : decode cX12_init 325 = .ok (.aload_n 0, 1) := by decide +kernel
theorem dX12_init_326 : decode cX12_init 326 = .ok (.ldc2_w 131, 3) := by decide +kernel
theorem dX12_init_329 : decode cX12_init 329 = .ok (.bipush 6, 2) := by decide +kernel
theorem dX12_init_331 : decode cX12_init 331 = .ok (.invokevirtual 133, 3) := by decide +kernel
theorem dX12_init_334 : decode cX12_init 334 = .ok (.aload_n 0, 1) := by decide +kernel
theorem dX12_init_335 : decode cX12_init 335 = .ok (.ldc2_w 137, 3) := by decide +kernel
theorem dX12_init_338 : decode cX12_init 338 = .ok (.iconst 2, 1) := by decide +kernel
theorem dX12_init_339 : decode cX12_init 339 = .ok (.invokevirtual 133, 3) := by decide +kernel
theorem dX12_init_342 : decode cX12_init 342 = .ok (.aload_n 0, 1) := by decide +kernel
theorem dX12_init_343 : decode cX12_init 343 = .ok (.ldc2_w 139, 3) := by decide +kernel
theorem dX12_init_346 : decode cX12_init 346 = .ok (.iconst 5, 1) := by decide +kernel
theorem dX12_init_347 : decode cX12_init 347 = .ok (.invokevirtual 133, 3) := by decide +kernel
theorem dX12_init_350 : decode cX12_init 350 = .ok (.aload_n 0, 1) := by decide +kernel
theorem dX12_init_351 : decode cX12_init 351 = .ok (.ldc2_w 141, 3) := by decide +kernel
theorem dX12_init_354 : decode cX12_init 354 = .ok (.iconst 5, 1) := by decide +kernel
theorem dX12_init_355 : decode cX12_init 355 = .ok (.invokevirtual 133, 3) := by decide +kernel
theorem dX12_init_358 : decode cX12_init 358 = .ok (.aload_n 0, 1) := by decide +kernel
theorem dX12_init_359 : decode cX12_init 359 = .ok (.ldc2_w 143, 3) := by decide +kernel
theorem dX12_init_362 : decode cX12_init 362 = .ok (.iconst 5, 1) := by decide +kernel
theorem dX12_init_363 : decode cX12_init 363 = .ok (.invokevirtual 145, 3) := by decide +kernel
theorem dX12_init_366 : decode cX12_init 366 = .ok (.aload_n 0, 1) := by decide +kernel
theorem dX12_init_367 : decode cX12_init 367 = .ok (.ldc2_w 148, 3) := by decide +kernel
theorem dX12_init_370 : decode cX12_init 370 = .ok (.bipush 6, 2) := by decide +kernel
theorem dX12_init_372 : decode cX12_init 372 = .ok (.invokevirtual 133, 3) := by decide +kernel
theorem dX12_init_375 : decode cX12_init 375 = .ok (.aload_n 0, 1) := by decide +kernel
theorem dX12_init_376 : decode cX12_init 376 = .ok (.ldc2_w 150, 3) := by decide +kernel
theorem dX12_init_379 : decode cX12_init 379 = .ok (.bipush 6, 2) := by decide +kernel
theorem dX12_init_381 : decode cX12_init 381 = .ok (.invokevirtual 145, 3) := by decide +kernel
theorem dX12_init_384 : decode cX12_init 384 = .ok (.aload_n 0, 1) := by decide +kernel
theorem dX12_init_385 : decode cX12_init 385 = .ok (.ldc2_w 152, 3) := by decide +kernel
theorem dX12_init_388 : decode cX12_init 388 = .ok (.bipush 6, 2) := by decide +kernel
theorem dX12_init_390 : decode cX12_init 390 = .ok (.invokevirtual 133, 3) := by decide +kernel
theorem dX12_init_393 : decode cX12_init 393 = .ok (.aload_n 0, 1) := by decide +kernel
theorem dX12_init_394 : decode cX12_init 394 = .ok (.ldc2_w 152, 3) := by decide +kernel
theorem dX12_init_397 : decode cX12_init 397 = .ok (.bipush 6, 2) := by decide +kernel
theorem dX12_init_399 : decode cX12_init 399 = .ok (.invokevirtual 133, 3) := by decide +kernel
theorem dX12_init_402 : decode cX12_init 402 = .ok (.aload_n 0, 1) := by decide +kernel
theorem dX12_init_403 : decode cX12_init 403 = .ok (.ldc2_w 154, 3) := by decide +kernel
theorem dX12_init_406 : decode cX12_init 406 = .ok (.iconst 4, 1) := by decide +kernel
theorem dX12_init_407 : decode cX12_init 407 = .ok (.invokevirtual 145, 3) := by decide +kernel
theorem dX12_init_410 : decode cX12_init 410 = .ok (.aload_n 0, 1) := by decide +kernel
theorem dX12_init_411 : decode cX12_init 411 = .ok (.ldc2_w 156, 3) := by decide +kernel
theorem dX12_init_414 : decode cX12_init 414 = .ok (.iconst 3, 1) := by decide +kernel
theorem dX12_init_415 : decode cX12_init 415 = .ok (.invokevirtual 145, 3) := by decide +kernel
theorem dX12_init_418 : decode cX12_init 418 = .ok (.aload_n 0, 1) := by decide +kernel
theorem dX12_init_419 : decode cX12_init 419 = .ok (.ldc2_w 158, 3) := by decide +kernel
theorem dX12_init_422 : decode cX12_init 422 = .ok (.iconst 3, 1) := by decide +kernel
theorem dX12_init_423 : decode cX12_init 423 = .ok (.invokevirtual 133, 3) := by decide +kernel
theorem dX12_init_426 : decode cX12_init 426 = .ok (.aload_n 0, 1) := by decide +kernel
theorem dX12_init_427 : decode cX12_init 427 = .ok (.ldc2_w 160, 3) := by decide +kernel
theorem dX12_init_430 : decode cX12_init 430 = .ok (.iconst 1, 1) := by decide +kernel
theorem dX12_init_431 : decode cX12_init 431 = .ok (.invokevirtual 133, 3) := by decide +kernel
theorem dX12_init_434 : decode cX12_init 434 = .ok (.aload_n 0, 1) := by decide +kernel
theorem dX12_init_435 : decode cX12_init 435 = .ok (.iconst 1, 1) := by decide +kernel
theorem dX12_init_436 : decode cX12_init 436 = .ok (.putfield 162, 3) := by decide +kernel
theorem dX12_init_439 : decode cX12_init 439 = .ok (.return_, 1) := by decide +kernel
theorem dX12_word_0 : decode cX12_word 0 = .ok (.aload_n 0, 1) := by decide +kernel
theorem dX12_word_1 : decode cX12_word 1 = .ok (.getfield 21, 3) := by decide +kernel
theorem dX12_word_4 : decode cX12_word 4 = .ok (.aload_n 0, 1) := by decide +kernel
theorem dX12_word_5 : decode cX12_word 5 = .ok (.getfield 165, 3) := by decide +kernel
theorem dX12_word_8 : decode cX12_word 8 = .ok (.iconst 1, 1) := by decide +kernel
theorem dX12_word_9 : decode cX12_word 9 = .ok (.iadd, 1) := by decide +kernel
theorem dX12_word_10 : decode cX12_word 10 = .ok (.aload_n 0, 1) := by decide +kernel
theorem dX12_word_11 : decode cX12_word 11 = .ok (.getfield 21, 3) := by decide +kernel
theorem dX12_word_14 : decode cX12_word 14 = .ok (.aload_n 0, 1) := by decide +kernel
theorem dX12_word_15 : decode cX12_word 15 = .ok (.getfield 165, 3) := by decide +kernel
theorem dX12_word_18 : decode cX12_word 18 = .ok (.iaload, 1) := by decide +kernel
theorem dX12_word_19 : decode cX12_word 19 = .ok (.iastore, 1) := by decide +kernel
theorem dX12_word_20 : decode cX12_word 20 = .ok (.aload_n 0, 1) := by decide +kernel
theorem dX12_word_21 : decode cX12_word 21 = .ok (.dup, 1) := by decide +kernel
theorem dX12_word_22 : decode cX12_word 22 = .ok (.getfield 165, 3) := by decide +kernel
theorem dX12_word_25 : decode cX12_word 25 = .ok (.iconst 1, 1) := by decide +kernel
theorem dX12_word_26 : decode cX12_word 26 = .ok (.iadd, 1) := by decide +kernel
theorem dX12_word_27 : decode cX12_word 27 = .ok (.putfield 165, 3) := by decide +kernel
theorem dX12_word_30 : decode cX12_word 30 = .ok (.aload_n 0, 1) := by decide +kernel
theorem dX12_word_31 : decode cX12_word 31 = .ok (.lload_n 1, 1) := by decide +kernel
theorem dX12_word_32 : decode cX12_word 32 = .ok (.iload_n 3, 1) := by decide +kernel
theorem dX12_word_33 : decode cX12_word 33 = .ok (.invokevirtual 145, 3) := by decide +kernel
theorem dX12_word_36 : decode cX12_word 36 = .ok (.return_, 1) := by decide +kernel
theorem dX12_more_0 : decode cX12_more 0 = .ok (.iload_n 3, 1) := by decide +kernel
theorem dX12_more_1 : decode cX12_more 1 = .ok (.iconst 1, 1) := by decide +kernel
theorem dX12_more_2 : decode cX12_more 2 = .ok (.isub, 1) := by decide +kernel
theorem dX12_more_3 : decode cX12_more 3 = .ok (.istore 4, 2) := by decide +kernel
theorem dX12_more_5 : decode cX12_more 5 = .ok (.iload 4, 2) := by decide +kernel
theorem dX12_more_7 : decode cX12_more 7 = .ok (.ifCond .lt 45, 3) := by decide +kernel
theorem dX12_more_10 : decode cX12_more 10 = .ok (.aload_n 0, 1) := by decide +kernel
theorem dX12_more_11 : decode cX12_more 11 = .ok (.getfield 18, 3) := by decide +kernel
theorem dX12_more_14 : decode cX12_more 14 = .ok (.aload_n 0, 1) := by decide +kernel
theorem dX12_more_15 : decode cX12_more 15 = .ok (.getfield 21, 3) := by decide +kernel
theorem dX12_more_18 : decode cX12_more 18 = .ok (.aload_n 0, 1) := by decide +kernel
theorem dX12_more_19 : decode cX12_more 19 = .ok (.getfield 165, 3) := by decide +kernel
theorem dX12_more_22 : decode cX12_more 22 = .ok (.iaload, 1) := by decide +kernel
theorem dX12_more_23 : decode cX12_more 23 = .ok (.lload_n 1, 1) := by decide +kernel
theorem dX12_more_24 : decode cX12_more 24 = .ok (.bipush 8, 2) := by decide +kernel
theorem dX12_more_26 : decode cX12_more 26 = .ok (.iload 4, 2) := by decide +kernel
theorem dX12_more_28 : decode cX12_more 28 = .ok (.imul, 1) := by decide +kernel
theorem dX12_more_29 : decode cX12_more 29 = .ok (.lshr, 1) := by decide +kernel
theorem dX12_more_30 : decode cX12_more 30 = .ok (.l2i, 1) := by decide +kernel
theorem dX12_more_31 : decode cX12_more 31 = .ok (.i2b, 1) := by decide +kernel
theorem dX12_more_32 : decode cX12_more 32 = .ok (.bastore, 1) := by decide +kernel
theorem dX12_more_33 : decode cX12_more 33 = .ok (.aload_n 0, 1) := by decide +kernel
theorem dX12_more_34 : decode cX12_more 34 = .ok (.getfield 21, 3) := by decide +kernel
theorem dX12_more_37 : decode cX12_more 37 = .ok (.aload_n 0, 1) := by decide +kernel
theorem dX12_more_38 : decode cX12_more 38 = .ok (.getfield 165, 3) := by decide +kernel
theorem dX12_more_41 : decode cX12_more 41 = .ok (.dup2, 1) := by decide +kernel
theorem dX12_more_42 : decode cX12_more 42 = .ok (.iaload, 1) := by decide +kernel
theorem dX12_more_43 : decode cX12_more 43 = .ok (.iconst 1, 1) := by decide +kernel
theorem dX12_more_44 : decode cX12_more 44 = .ok (.iadd, 1) := by decide +kernel
theorem dX12_more_45 : decode cX12_more 45 = .ok (.iastore, 1) := by decide +kernel
theorem dX12_more_46 : decode cX12_more 46 = .ok (.iinc 4 (-1), 3) := by decide +kernel
theorem dX12_more_49 : decode cX12_more 49 = .ok (.goto (-44), 3) := by decide +kernel
theorem dX12_more_52 : decode cX12_more 52 = .ok (.return_, 1) := by decide +kernel
theorem dX12_type_0 : decode cX12_type 0 = .ok (.aload_n 0, 1) := by decide +kernel
theorem dX12_type_1 : decode cX12_type 1 = .ok (.iconst 0, 1) := by decide +kernel
theorem dX12_type_2 : decode cX12_type 2 = .ok (.putfield 168, 3) := by decide +kernel
theorem dX12_type_5 : decode cX12_type 5 = .ok (.iload_n 3, 1) := by decide +kernel
theorem dX12_type_6 : decode cX12_type 6 = .ok (.iconst 1, 1) := by decide +kernel
theorem dX12_type_7 : decode cX12_type 7 = .ok (.if_icmp .lt 25, 3) := by decide +kernel
theorem dX12_type_10 : decode cX12_type 10 = .ok (.iload_n 3, 1) := by decide +kernel
theorem dX12_type_11 : decode cX12_type 11 = .ok (.bipush 8, 2) := by decide +kernel
theorem dX12_type_13 : decode cX12_type 13 = .ok (.if_icmp .gt 19, 3) := by decide +kernel
theorem dX12_type_16 : decode cX12_type 16 = .ok (.aload_n 0, 1) := by decide +kernel
theorem dX12_type_17 : decode cX12_type 17 = .ok (.getfield 171, 3) := by decide +kernel
theorem dX12_type_20 : decode cX12_type 20 = .ok (.iload_n 3, 1) := by decide +kernel
theorem dX12_type_21 : decode cX12_type 21 = .ok (.iadd, 1) := by decide +kernel
theorem dX12_type_22 : decode cX12_type 22 = .ok (.sipush 3000, 3) := by decide +kernel
theorem dX12_type_25 : decode cX12_type 25 = .ok (.if_icmp .gt 7, 3) := by decide +kernel
theorem dX12_type_28 : decode cX12_type 28 = .ok (.iconst 1, 1) := by decide +kernel
theorem dX12_type_29 : decode cX12_type 29 = .ok (.goto 4, 3) := by decide +kernel
theorem dX12_type_32 : decode cX12_type 32 = .ok (.iconst 0, 1) := by decide +kernel
theorem dX12_type_33 : decode cX12_type 33 = .ok (.istore 4, 2) := by decide +kernel
theorem dX12_type_35 : decode cX12_type 35 = .ok (.iconst 0, 1) := by decide +kernel
theorem dX12_type_36 : decode cX12_type 36 = .ok (.istore 5, 2) := by decide +kernel
theorem dX12_type_38 : decode cX12_type 38 = .ok (.iload 4, 2) := by decide +kernel
theorem dX12_type_40 : decode cX12_type 40 = .ok (.ifCond .eq 53, 3) := by decide +kernel
theorem dX12_type_43 : decode cX12_type 43 = .ok (.iload 5, 2) := by decide +kernel
theorem dX12_type_45 : decode cX12_type 45 = .ok (.iload_n 3, 1) := by decide +kernel
theorem dX12_type_46 : decode cX12_type 46 = .ok (.if_icmp .ge 47, 3) := by decide +kernel
theorem dX12_type_49 : decode cX12_type 49 = .ok (.lload_n 1, 1) := by decide +kernel
theorem dX12_type_50 : decode cX12_type 50 = .ok (.bipush 8, 2) := by decide +kernel
theorem dX12_type_52 : decode cX12_type 52 = .ok (.iload 5, 2) := by decide +kernel
theorem dX12_type_54 : decode cX12_type 54 = .ok (.imul, 1) := by decide +kernel
theorem dX12_type_55 : decode cX12_type 55 = .ok (.lshr, 1) := by decide +kernel
theorem dX12_type_56 : decode cX12_type 56 = .ok (.ldc2_w 174, 3) := by decide +kernel
theorem dX12_type_59 : decode cX12_type 59 = .ok (.land, 1) := by decide +kernel
theorem dX12_type_60 : decode cX12_type 60 = .ok (.lstore 6, 2) := by decide +kernel
theorem dX12_type_62 : decode cX12_type 62 = .ok (.lload 6, 2) := by decide +kernel
theorem dX12_type_64 : decode cX12_type 64 = .ok (.ldc2_w 176, 3) := by decide +kernel
theorem dX12_type_67 : decode cX12_type 67 = .ok (.lcmp, 1) := by decide +kernel
theorem dX12_type_68 : decode cX12_type 68 = .ok (.ifCond .lt 16, 3) := by decide +kernel
theorem dX12_type_71 : decode cX12_type 71 = .ok (.lload 6, 2) := by decide +kernel
theorem dX12_type_73 : decode cX12_type 73 = .ok (.ldc2_w 178, 3) := by decide +kernel
theorem dX12_type_76 : decode cX12_type 76 = .ok (.lcmp, 1) := by decide +kernel
theorem dX12_type_77 : decode cX12_type 77 = .ok (.ifCond .gt 7, 3) := by decide +kernel
theorem dX12_type_80 : decode cX12_type 80 = .ok (.iconst 1, 1) := by decide +kernel
theorem dX12_type_81 : decode cX12_type 81 = .ok (.goto 4, 3) := by decide +kernel
theorem dX12_type_84 : decode cX12_type 84 = .ok (.iconst 0, 1) := by decide +kernel
theorem dX12_type_85 : decode cX12_type 85 = .ok (.istore 4, 2) := by decide +kernel
theorem dX12_type_87 : decode cX12_type 87 = .ok (.iinc 5 1, 3) := by decide +kernel
theorem dX12_type_90 : decode cX12_type 90 = .ok (.goto (-52), 3) := by decide +kernel
theorem dX12_type_93 : decode cX12_type 93 = .ok (.iload 4, 2) := by decide +kernel
theorem dX12_type_95 : decode cX12_type 95 = .ok (.ifCond .ne 5, 3) := by decide +kernel
theorem dX12_type_98 : decode cX12_type 98 = .ok (.iconst (-1), 1) := by decide +kernel
theorem dX12_type_99 : decode cX12_type 99 = .ok (.ireturn, 1) := by decide +kernel
theorem dX12_type_100 : decode cX12_type 100 = .ok (.iload_n 3, 1) := by decide +kernel
theorem dX12_type_101 : decode cX12_type 101 = .ok (.iconst 1, 1) := by decide +kernel
theorem dX12_type_102 : decode cX12_type 102 = .ok (.isub, 1) := by decide +kernel
theorem dX12_type_103 : decode cX12_type 103 = .ok (.istore 5, 2) := by decide +kernel
theorem dX12_type_105 : decode cX12_type 105 = .ok (.iload 5, 2) := by decide +kernel
theorem dX12_type_107 : decode cX12_type 107 = .ok (.ifCond .lt 37, 3) := by decide +kernel
theorem dX12_type_110 : decode cX12_type 110 = .ok (.aload_n 0, 1) := by decide +kernel
theorem dX12_type_111 : decode cX12_type 111 = .ok (.getfield 7, 3) := by decide +kernel
theorem dX12_type_114 : decode cX12_type 114 = .ok (.aload_n 0, 1) := by decide +kernel
theorem dX12_type_115 : decode cX12_type 115 = .ok (.getfield 171, 3) := by decide +kernel
theorem dX12_type_118 : decode cX12_type 118 = .ok (.lload_n 1, 1) := by decide +kernel
theorem dX12_type_119 : decode cX12_type 119 = .ok (.bipush 8, 2) := by decide +kernel
theorem dX12_type_121 : decode cX12_type 121 = .ok (.iload 5, 2) := by decide +kernel
theorem dX12_type_123 : decode cX12_type 123 = .ok (.imul, 1) := by decide +kernel
theorem dX12_type_124 : decode cX12_type 124 = .ok (.lshr, 1) := by decide +kernel
theorem dX12_type_125 : decode cX12_type 125 = .ok (.l2i, 1) := by decide +kernel
theorem dX12_type_126 : decode cX12_type 126 = .ok (.i2b, 1) := by decide +kernel
theorem dX12_type_127 : decode cX12_type 127 = .ok (.bastore, 1) := by decide +kernel
theorem dX12_type_128 : decode cX12_type 128 = .ok (.aload_n 0, 1) := by decide +kernel
theorem dX12_type_129 : decode cX12_type 129 = .ok (.dup, 1) := by decide +kernel
theorem dX12_type_130 : decode cX12_type 130 = .ok (.getfield 171, 3) := by decide +kernel
theorem dX12_type_133 : decode cX12_type 133 = .ok (.iconst 1, 1) := by decide +kernel
theorem dX12_type_134 : decode cX12_type 134 = .ok (.iadd, 1) := by decide +kernel
theorem dX12_type_135 : decode cX12_type 135 = .ok (.putfield 171, 3) := by decide +kernel
theorem dX12_type_138 : decode cX12_type 138 = .ok (.iinc 5 (-1), 3) := by decide +kernel
theorem dX12_type_141 : decode cX12_type 141 = .ok (.goto (-36), 3) := by decide +kernel
theorem dX12_type_144 : decode cX12_type 144 = .ok (.aload_n 0, 1) := by decide +kernel
theorem dX12_type_145 : decode cX12_type 145 = .ok (.getfield 171, 3) := by decide +kernel
theorem dX12_type_148 : decode cX12_type 148 = .ok (.ireturn, 1) := by decide +kernel
theorem dX12_parse_0 : decode cX12_parse 0 = .ok (.aload_n 0, 1) := by decide +kernel
theorem dX12_parse_1 : decode cX12_parse 1 = .ok (.iconst 0, 1) := by decide +kernel
theorem dX12_parse_2 : decode cX12_parse 2 = .ok (.putfield 203, 3) := by decide +kernel
theorem dX12_parse_5 : decode cX12_parse 5 = .ok (.iconst 0, 1) := by decide +kernel
theorem dX12_parse_6 : decode cX12_parse 6 = .ok (.istore_n 1, 1) := by decide +kernel
theorem dX12_parse_7 : decode cX12_parse 7 = .ok (.iconst 0, 1) := by decide +kernel
theorem dX12_parse_8 : decode cX12_parse 8 = .ok (.istore_n 2, 1) := by decide +kernel
theorem dX12_parse_9 : decode cX12_parse 9 = .ok (.iconst 1, 1) := by decide +kernel
theorem dX12_parse_10 : decode cX12_parse 10 = .ok (.istore_n 3, 1) := by decide +kernel
theorem dX12_parse_11 : decode cX12_parse 11 = .ok (.iload_n 2, 1) := by decide +kernel
theorem dX12_parse_12 : decode cX12_parse 12 = .ok (.aload_n 0, 1) := by decide +kernel
theorem dX12_parse_13 : decode cX12_parse 13 = .ok (.getfield 171, 3) := by decide +kernel
theorem dX12_parse_16 : decode cX12_parse 16 = .ok (.if_icmp .ge 171, 3) := by decide +kernel
theorem dX12_parse_19 : decode cX12_parse 19 = .ok (.iload_n 3, 1) := by decide +kernel
theorem dX12_parse_20 : decode cX12_parse 20 = .ok (.ifCond .eq 167, 3) := by decide +kernel
theorem dX12_parse_23 : decode cX12_parse 23 = .ok (.aload_n 0, 1) := by decide +kernel
theorem dX12_parse_24 : decode cX12_parse 24 = .ok (.getfield 7, 3) := by decide +kernel
theorem dX12_parse_27 : decode cX12_parse 27 = .ok (.iload_n 2, 1) := by decide +kernel
theorem dX12_parse_28 : decode cX12_parse 28 = .ok (.baload, 1) := by decide +kernel
theorem dX12_parse_29 : decode cX12_parse 29 = .ok (.istore 4, 2) := by decide +kernel
theorem dX12_parse_31 : decode cX12_parse 31 = .ok (.iload 4, 2) := by decide +kernel
theorem dX12_parse_33 : decode cX12_parse 33 = .ok (.bipush 40, 2) := by decide +kernel
theorem dX12_parse_35 : decode cX12_parse 35 = .ok (.if_icmp .ne 35, 3) := by decide +kernel
theorem dX12_parse_38 : decode cX12_parse 38 = .ok (.iload_n 1, 1) := by decide +kernel
theorem dX12_parse_39 : decode cX12_parse 39 = .ok (.bipush 60, 2) := by decide +kernel
theorem dX12_parse_41 : decode cX12_parse 41 = .ok (.if_icmp .gt 7, 3) := by decide +kernel
theorem dX12_parse_44 : decode cX12_parse 44 = .ok (.iconst 1, 1) := by decide +kernel
theorem dX12_parse_45 : decode cX12_parse 45 = .ok (.goto 4, 3) := by decide +kernel
theorem dX12_parse_48 : decode cX12_parse 48 = .ok (.iconst 0, 1) := by decide +kernel
theorem dX12_parse_49 : decode cX12_parse 49 = .ok (.istore_n 3, 1) := by decide +kernel
theorem dX12_parse_50 : decode cX12_parse 50 = .ok (.iload_n 3, 1) := by decide +kernel
theorem dX12_parse_51 : decode cX12_parse 51 = .ok (.ifCond .eq 130, 3) := by decide +kernel
theorem dX12_parse_54 : decode cX12_parse 54 = .ok (.aload_n 0, 1) := by decide +kernel
theorem dX12_parse_55 : decode cX12_parse 55 = .ok (.getfield 88, 3) := by decide +kernel
theorem dX12_parse_58 : decode cX12_parse 58 = .ok (.iload_n 1, 1) := by decide +kernel
theorem dX12_parse_59 : decode cX12_parse 59 = .ok (.aload_n 0, 1) := by decide +kernel
theorem dX12_parse_60 : decode cX12_parse 60 = .ok (.getfield 203, 3) := by decide +kernel
theorem dX12_parse_63 : decode cX12_parse 63 = .ok (.iastore, 1) := by decide +kernel
theorem dX12_parse_64 : decode cX12_parse 64 = .ok (.iinc 1 1, 3) := by decide +kernel
theorem dX12_parse_67 : decode cX12_parse 67 = .ok (.goto 114, 3) := by decide +kernel
theorem dX12_parse_70 : decode cX12_parse 70 = .ok (.iload 4, 2) := by decide +kernel
theorem dX12_parse_72 : decode cX12_parse 72 = .ok (.bipush 41, 2) := by decide +kernel
theorem dX12_parse_74 : decode cX12_parse 74 = .ok (.if_icmp .ne 33, 3) := by decide +kernel
theorem dX12_parse_77 : decode cX12_parse 77 = .ok (.iload_n 1, 1) := by decide +kernel
theorem dX12_parse_78 : decode cX12_parse 78 = .ok (.ifCond .le 7, 3) := by decide +kernel
theorem dX12_parse_81 : decode cX12_parse 81 = .ok (.iconst 1, 1) := by decide +kernel
theorem dX12_parse_82 : decode cX12_parse 82 = .ok (.goto 4, 3) := by decide +kernel
theorem dX12_parse_85 : decode cX12_parse 85 = .ok (.iconst 0, 1) := by decide +kernel
theorem dX12_parse_86 : decode cX12_parse 86 = .ok (.istore_n 3, 1) := by decide +kernel
theorem dX12_parse_87 : decode cX12_parse 87 = .ok (.iload_n 3, 1) := by decide +kernel
theorem dX12_parse_88 : decode cX12_parse 88 = .ok (.ifCond .eq 93, 3) := by decide +kernel
theorem dX12_parse_91 : decode cX12_parse 91 = .ok (.iinc 1 (-1), 3) := by decide +kernel
theorem dX12_parse_94 : decode cX12_parse 94 = .ok (.aload_n 0, 1) := by decide +kernel
theorem dX12_parse_95 : decode cX12_parse 95 = .ok (.aload_n 0, 1) := by decide +kernel
theorem dX12_parse_96 : decode cX12_parse 96 = .ok (.getfield 88, 3) := by decide +kernel
theorem dX12_parse_99 : decode cX12_parse 99 = .ok (.iload_n 1, 1) := by decide +kernel
theorem dX12_parse_100 : decode cX12_parse 100 = .ok (.iaload, 1) := by decide +kernel
theorem dX12_parse_101 : decode cX12_parse 101 = .ok (.invokevirtual 213, 3) := by decide +kernel
theorem dX12_parse_104 : decode cX12_parse 104 = .ok (.goto 77, 3) := by decide +kernel
theorem dX12_parse_107 : decode cX12_parse 107 = .ok (.iload 4, 2) := by decide +kernel
theorem dX12_parse_109 : decode cX12_parse 109 = .ok (.bipush 32, 2) := by decide +kernel
theorem dX12_parse_111 : decode cX12_parse 111 = .ok (.if_icmp .eq 70, 3) := by decide +kernel
theorem dX12_parse_114 : decode cX12_parse 114 = .ok (.iload_n 2, 1) := by decide +kernel
theorem dX12_parse_115 : decode cX12_parse 115 = .ok (.istore 5, 2) := by decide +kernel
theorem dX12_parse_117 : decode cX12_parse 117 = .ok (.iload 5, 2) := by decide +kernel
theorem dX12_parse_119 : decode cX12_parse 119 = .ok (.aload_n 0, 1) := by decide +kernel
theorem dX12_parse_120 : decode cX12_parse 120 = .ok (.getfield 171, 3) := by decide +kernel
theorem dX12_parse_123 : decode cX12_parse 123 = .ok (.if_icmp .ge 45, 3) := by decide +kernel
theorem dX12_parse_126 : decode cX12_parse 126 = .ok (.aload_n 0, 1) := by decide +kernel
theorem dX12_parse_127 : decode cX12_parse 127 = .ok (.getfield 7, 3) := by decide +kernel
theorem dX12_parse_130 : decode cX12_parse 130 = .ok (.iload 5, 2) := by decide +kernel
theorem dX12_parse_132 : decode cX12_parse 132 = .ok (.baload, 1) := by decide +kernel
theorem dX12_parse_133 : decode cX12_parse 133 = .ok (.bipush 32, 2) := by decide +kernel
theorem dX12_parse_135 : decode cX12_parse 135 = .ok (.if_icmp .eq 33, 3) := by decide +kernel
theorem dX12_parse_138 : decode cX12_parse 138 = .ok (.aload_n 0, 1) := by decide +kernel
theorem dX12_parse_139 : decode cX12_parse 139 = .ok (.getfield 7, 3) := by decide +kernel
theorem dX12_parse_142 : decode cX12_parse 142 = .ok (.iload 5, 2) := by decide +kernel
theorem dX12_parse_144 : decode cX12_parse 144 = .ok (.baload, 1) := by decide +kernel
theorem dX12_parse_145 : decode cX12_parse 145 = .ok (.bipush 40, 2) := by decide +kernel
theorem dX12_parse_147 : decode cX12_parse 147 = .ok (.if_icmp .eq 21, 3) := by decide +kernel
theorem dX12_parse_150 : decode cX12_parse 150 = .ok (.aload_n 0, 1) := by decide +kernel
theorem dX12_parse_151 : decode cX12_parse 151 = .ok (.getfield 7, 3) := by decide +kernel
theorem dX12_parse_154 : decode cX12_parse 154 = .ok (.iload 5, 2) := by decide +kernel
theorem dX12_parse_156 : decode cX12_parse 156 = .ok (.baload, 1) := by decide +kernel
theorem dX12_parse_157 : decode cX12_parse 157 = .ok (.bipush 41, 2) := by decide +kernel
theorem dX12_parse_159 : decode cX12_parse 159 = .ok (.if_icmp .eq 9, 3) := by decide +kernel
theorem dX12_parse_162 : decode cX12_parse 162 = .ok (.iinc 5 1, 3) := by decide +kernel
theorem dX12_parse_165 : decode cX12_parse 165 = .ok (.goto (-48), 3) := by decide +kernel
theorem dX12_parse_168 : decode cX12_parse 168 = .ok (.aload_n 0, 1) := by decide +kernel
theorem dX12_parse_169 : decode cX12_parse 169 = .ok (.iload_n 2, 1) := by decide +kernel
theorem dX12_parse_170 : decode cX12_parse 170 = .ok (.iload 5, 2) := by decide +kernel
theorem dX12_parse_172 : decode cX12_parse 172 = .ok (.invokevirtual 217, 3) := by decide +kernel
theorem dX12_parse_175 : decode cX12_parse 175 = .ok (.istore_n 3, 1) := by decide +kernel
theorem dX12_parse_176 : decode cX12_parse 176 = .ok (.iload 5, 2) := by decide +kernel
theorem dX12_parse_178 : decode cX12_parse 178 = .ok (.iconst 1, 1) := by decide +kernel
theorem dX12_parse_179 : decode cX12_parse 179 = .ok (.isub, 1) := by decide +kernel
theorem dX12_parse_180 : decode cX12_parse 180 = .ok (.istore_n 2, 1) := by decide +kernel
theorem dX12_parse_181 : decode cX12_parse 181 = .ok (.iinc 2 1, 3) := by decide +kernel
theorem dX12_parse_184 : decode cX12_parse 184 = .ok (.goto (-173), 3) := by decide +kernel
theorem dX12_parse_187 : decode cX12_parse 187 = .ok (.iload_n 3, 1) := by decide +kernel
theorem dX12_parse_188 : decode cX12_parse 188 = .ok (.ifCond .eq 11, 3) := by decide +kernel
theorem dX12_parse_191 : decode cX12_parse 191 = .ok (.iload_n 1, 1) := by decide +kernel
theorem dX12_parse_192 : decode cX12_parse 192 = .ok (.ifCond .ne 7, 3) := by decide +kernel
theorem dX12_parse_195 : decode cX12_parse 195 = .ok (.iconst 1, 1) := by decide +kernel
theorem dX12_parse_196 : decode cX12_parse 196 = .ok (.goto 4, 3) := by decide +kernel
theorem dX12_parse_199 : decode cX12_parse 199 = .ok (.iconst 0, 1) := by decide +kernel
theorem dX12_parse_200 : decode cX12_parse 200 = .ok (.ireturn, 1) := by decide +kernel
theorem dX12_beginText_0 : decode cX12_beginText 0 = .ok (.aload_n 0, 1) := by decide +kernel
theorem dX12_beginText_1 : decode cX12_beginText 1 = .ok (.aload_n 0, 1) := by decide +kernel
theorem dX12_beginText_2 : decode cX12_beginText 2 = .ok (.getfield 402, 3) := by decide +kernel
theorem dX12_beginText_5 : decode cX12_beginText 5 = .ok (.putfield 196, 3) := by decide +kernel
theorem dX12_beginText_8 : decode cX12_beginText 8 = .ok (.aload_n 0, 1) := by decide +kernel
theorem dX12_beginText_9 : decode cX12_beginText 9 = .ok (.aload_n 0, 1) := by decide +kernel
theorem dX12_beginText_10 : decode cX12_beginText 10 = .ok (.getfield 405, 3) := by decide +kernel
theorem dX12_beginText_13 : decode cX12_beginText 13 = .ok (.putfield 220, 3) := by decide +kernel
theorem dX12_beginText_16 : decode cX12_beginText 16 = .ok (.aload_n 0, 1) := by decide +kernel
theorem dX12_beginText_17 : decode cX12_beginText 17 = .ok (.iconst 0, 1) := by decide +kernel
theorem dX12_beginText_18 : decode cX12_beginText 18 = .ok (.putfield 374, 3) := by decide +kernel
theorem dX12_beginText_21 : decode cX12_beginText 21 = .ok (.aload_n 0, 1) := by decide +kernel
theorem dX12_beginText_22 : decode cX12_beginText 22 = .ok (.iconst 1, 1) := by decide +kernel
theorem dX12_beginText_23 : decode cX12_beginText 23 = .ok (.putfield 162, 3) := by decide +kernel
theorem dX12_beginText_26 : decode cX12_beginText 26 = .ok (.aload_n 0, 1) := by decide +kernel
theorem dX12_beginText_27 : decode cX12_beginText 27 = .ok (.iconst 0, 1) := by decide +kernel
theorem dX12_beginText_28 : decode cX12_beginText 28 = .ok (.putfield 288, 3) := by decide +kernel
theorem dX12_beginText_31 : decode cX12_beginText 31 = .ok (.aload_n 0, 1) := by decide +kernel
theorem dX12_beginText_32 : decode cX12_beginText 32 = .ok (.getfield 54, 3) := by decide +kernel
theorem dX12_beginText_35 : decode cX12_beginText 35 = .ok (.iconst 1, 1) := by decide +kernel
theorem dX12_beginText_36 : decode cX12_beginText 36 = .ok (.iconst 0, 1) := by decide +kernel
theorem dX12_beginText_37 : decode cX12_beginText 37 = .ok (.iastore, 1) := by decide +kernel
theorem dX12_beginText_38 : decode cX12_beginText 38 = .ok (.aload_n 0, 1) := by decide +kernel
theorem dX12_beginText_39 : decode cX12_beginText 39 = .ok (.iconst 0, 1) := by decide +kernel
theorem dX12_beginText_40 : decode cX12_beginText 40 = .ok (.putfield 297, 3) := by decide +kernel
theorem dX12_beginText_43 : decode cX12_beginText 43 = .ok (.aload_n 0, 1) := by decide +kernel
theorem dX12_beginText_44 : decode cX12_beginText 44 = .ok (.iconst 0, 1) := by decide +kernel
theorem dX12_beginText_45 : decode cX12_beginText 45 = .ok (.putfield 345, 3) := by decide +kernel
theorem dX12_beginText_48 : decode cX12_beginText 48 = .ok (.aload_n 0, 1) := by decide +kernel
theorem dX12_beginText_49 : decode cX12_beginText 49 = .ok (.iconst 0, 1) := by decide +kernel
theorem dX12_beginText_50 : decode cX12_beginText 50 = .ok (.putfield 279, 3) := by decide +kernel
theorem dX12_beginText_53 : decode cX12_beginText 53 = .ok (.aload_n 0, 1) := by decide +kernel
theorem dX12_beginText_54 : decode cX12_beginText 54 = .ok (.iconst 0, 1) := by decide +kernel
theorem dX12_beginText_55 : decode cX12_beginText 55 = .ok (.putfield 223, 3) := by decide +kernel
theorem dX12_beginText_58 : decode cX12_beginText 58 = .ok (.aload_n 0, 1) := by decide +kernel
theorem dX12_beginText_59 : decode cX12_beginText 59 = .ok (.iconst 0, 1) := by decide +kernel
theorem dX12_beginText_60 : decode cX12_beginText 60 = .ok (.putfield 236, 3) := by decide +kernel
theorem dX12_beginText_63 : decode cX12_beginText 63 = .ok (.aload_n 0, 1) := by decide +kernel
theorem dX12_beginText_64 : decode cX12_beginText 64 = .ok (.iconst (-1), 1) := by decide +kernel
theorem dX12_beginText_65 : decode cX12_beginText 65 = .ok (.putfield 13, 3) := by decide +kernel
theorem dX12_beginText_68 : decode cX12_beginText 68 = .ok (.return_, 1) := by decide +kernel
theorem dX12_read_0 : decode cX12_read 0 = .ok (.aload_n 0, 1) := by decide +kernel
theorem dX12_read_1 : decode cX12_read 1 = .ok (.iconst 0, 1) := by decide +kernel
theorem dX12_read_2 : decode cX12_read 2 = .ok (.putfield 168, 3) := by decide +kernel
theorem dX12_read_5 : decode cX12_read 5 = .ok (.aload_n 0, 1) := by decide +kernel
theorem dX12_read_6 : decode cX12_read 6 = .ok (.invokevirtual 408, 3) := by decide +kernel
theorem dX12_read_9 : decode cX12_read 9 = .ok (.aload_n 0, 1) := by decide +kernel
theorem dX12_read_10 : decode cX12_read 10 = .ok (.getfield 390, 3) := by decide +kernel
theorem dX12_read_13 : decode cX12_read 13 = .ok (.istore_n 1, 1) := by decide +kernel
theorem dX12_read_14 : decode cX12_read 14 = .ok (.iconst 0, 1) := by decide +kernel
theorem dX12_read_15 : decode cX12_read 15 = .ok (.istore_n 2, 1) := by decide +kernel
theorem dX12_read_16 : decode cX12_read 16 = .ok (.iload_n 2, 1) := by decide +kernel
theorem dX12_read_17 : decode cX12_read 17 = .ok (.sipush 5000, 3) := by decide +kernel
theorem dX12_read_20 : decode cX12_read 20 = .ok (.if_icmp .ge 21, 3) := by decide +kernel
theorem dX12_read_23 : decode cX12_read 23 = .ok (.aload_n 0, 1) := by decide +kernel
theorem dX12_read_24 : decode cX12_read 24 = .ok (.getfield 28, 3) := by decide +kernel
theorem dX12_read_27 : decode cX12_read 27 = .ok (.iload_n 2, 1) := by decide +kernel
theorem dX12_read_28 : decode cX12_read 28 = .ok (.aload_n 0, 1) := by decide +kernel
theorem dX12_read_29 : decode cX12_read 29 = .ok (.getfield 25, 3) := by decide +kernel
theorem dX12_read_32 : decode cX12_read 32 = .ok (.iload_n 2, 1) := by decide +kernel
theorem dX12_read_33 : decode cX12_read 33 = .ok (.iaload, 1) := by decide +kernel
theorem dX12_read_34 : decode cX12_read 34 = .ok (.iastore, 1) := by decide +kernel
theorem dX12_read_35 : decode cX12_read 35 = .ok (.iinc 2 1, 3) := by decide +kernel
theorem dX12_read_38 : decode cX12_read 38 = .ok (.goto (-22), 3) := by decide +kernel
theorem dX12_read_41 : decode cX12_read 41 = .ok (.aload_n 0, 1) := by decide +kernel
theorem dX12_read_42 : decode cX12_read 42 = .ok (.invokevirtual 411, 3) := by decide +kernel
theorem dX12_read_45 : decode cX12_read 45 = .ok (.istore_n 2, 1) := by decide +kernel
theorem dX12_read_46 : decode cX12_read 46 = .ok (.aload_n 0, 1) := by decide +kernel
theorem dX12_read_47 : decode cX12_read 47 = .ok (.iconst 0, 1) := by decide +kernel
theorem dX12_read_48 : decode cX12_read 48 = .ok (.putfield 171, 3) := by decide +kernel
theorem dX12_read_51 : decode cX12_read 51 = .ok (.iload_n 2, 1) := by decide +kernel
theorem dX12_read_52 : decode cX12_read 52 = .ok (.ifCond .ne 5, 3) := by decide +kernel
theorem dX12_read_55 : decode cX12_read 55 = .ok (.iconst 1, 1) := by decide +kernel
theorem dX12_read_56 : decode cX12_read 56 = .ok (.ireturn, 1) := by decide +kernel
theorem dX12_read_57 : decode cX12_read 57 = .ok (.aload_n 0, 1) := by decide +kernel
theorem dX12_read_58 : decode cX12_read 58 = .ok (.getfield 203, 3) := by decide +kernel
theorem dX12_read_61 : decode cX12_read 61 = .ok (.istore_n 3, 1) := by decide +kernel
theorem dX12_read_62 : decode cX12_read 62 = .ok (.iconst 0, 1) := by decide +kernel
theorem dX12_read_63 : decode cX12_read 63 = .ok (.istore 4, 2) := by decide +kernel
theorem dX12_read_65 : decode cX12_read 65 = .ok (.iload 4, 2) := by decide +kernel
theorem dX12_read_67 : decode cX12_read 67 = .ok (.iload_n 3, 1) := by decide +kernel
theorem dX12_read_68 : decode cX12_read 68 = .ok (.if_icmp .ge 44, 3) := by decide +kernel
theorem dX12_read_71 : decode cX12_read 71 = .ok (.aload_n 0, 1) := by decide +kernel
theorem dX12_read_72 : decode cX12_read 72 = .ok (.getfield 236, 3) := by decide +kernel
theorem dX12_read_75 : decode cX12_read 75 = .ok (.ifCond .ne 37, 3) := by decide +kernel
theorem dX12_read_78 : decode cX12_read 78 = .ok (.aload_n 0, 1) := by decide +kernel
theorem dX12_read_79 : decode cX12_read 79 = .ok (.aload_n 0, 1) := by decide +kernel
theorem dX12_read_80 : decode cX12_read 80 = .ok (.getfield 85, 3) := by decide +kernel
theorem dX12_read_83 : decode cX12_read 83 = .ok (.iload 4, 2) := by decide +kernel
theorem dX12_read_85 : decode cX12_read 85 = .ok (.iaload, 1) := by decide +kernel
theorem dX12_read_86 : decode cX12_read 86 = .ok (.invokevirtual 415, 3) := by decide +kernel
theorem dX12_read_89 : decode cX12_read 89 = .ok (.aload_n 0, 1) := by decide +kernel
theorem dX12_read_90 : decode cX12_read 90 = .ok (.aload_n 0, 1) := by decide +kernel
theorem dX12_read_91 : decode cX12_read 91 = .ok (.getfield 236, 3) := by decide +kernel
theorem dX12_read_94 : decode cX12_read 94 = .ok (.ifCond .le 8, 3) := by decide +kernel
theorem dX12_read_97 : decode cX12_read 97 = .ok (.iload 4, 2) := by decide +kernel
theorem dX12_read_99 : decode cX12_read 99 = .ok (.goto 4, 3) := by decide +kernel
theorem dX12_read_102 : decode cX12_read 102 = .ok (.iconst (-1), 1) := by decide +kernel
theorem dX12_read_103 : decode cX12_read 103 = .ok (.putfield 13, 3) := by decide +kernel
theorem dX12_read_106 : decode cX12_read 106 = .ok (.iinc 4 1, 3) := by decide +kernel
theorem dX12_read_109 : decode cX12_read 109 = .ok (.goto (-44), 3) := by decide +kernel
theorem dX12_read_112 : decode cX12_read 112 = .ok (.aload_n 0, 1) := by decide +kernel
theorem dX12_read_113 : decode cX12_read 113 = .ok (.getfield 236, 3) := by decide +kernel
theorem dX12_read_116 : decode cX12_read 116 = .ok (.ifCond .ne 25, 3) := by decide +kernel
theorem dX12_read_119 : decode cX12_read 119 = .ok (.aload_n 0, 1) := by decide +kernel
theorem dX12_read_120 : decode cX12_read 120 = .ok (.getfield 223, 3) := by decide +kernel
theorem dX12_read_123 : decode cX12_read 123 = .ok (.sipush 4000, 3) := by decide +kernel
theorem dX12_read_126 : decode cX12_read 126 = .ok (.if_icmp .le 15, 3) := by decide +kernel
theorem dX12_read_129 : decode cX12_read 129 = .ok (.aload_n 0, 1) := by decide +kernel
theorem dX12_read_130 : decode cX12_read 130 = .ok (.iconst 2, 1) := by decide +kernel
theorem dX12_read_131 : decode cX12_read 131 = .ok (.putfield 236, 3) := by decide +kernel
theorem dX12_read_134 : decode cX12_read 134 = .ok (.aload_n 0, 1) := by decide +kernel
theorem dX12_read_135 : decode cX12_read 135 = .ok (.iload_n 3, 1) := by decide +kernel
theorem dX12_read_136 : decode cX12_read 136 = .ok (.iconst 1, 1) := by decide +kernel
theorem dX12_read_137 : decode cX12_read 137 = .ok (.isub, 1) := by decide +kernel
theorem dX12_read_138 : decode cX12_read 138 = .ok (.putfield 13, 3) := by decide +kernel
theorem dX12_read_141 : decode cX12_read 141 = .ok (.aload_n 0, 1) := by decide +kernel
theorem dX12_read_142 : decode cX12_read 142 = .ok (.getfield 236, 3) := by decide +kernel
theorem dX12_read_145 : decode cX12_read 145 = .ok (.ifCond .le 44, 3) := by decide +kernel
theorem dX12_read_148 : decode cX12_read 148 = .ok (.aload_n 0, 1) := by decide +kernel
theorem dX12_read_149 : decode cX12_read 149 = .ok (.iload_n 1, 1) := by decide +kernel
theorem dX12_read_150 : decode cX12_read 150 = .ok (.putfield 390, 3) := by decide +kernel
theorem dX12_read_153 : decode cX12_read 153 = .ok (.iconst 0, 1) := by decide +kernel
theorem dX12_read_154 : decode cX12_read 154 = .ok (.istore 4, 2) := by decide +kernel
theorem dX12_read_156 : decode cX12_read 156 = .ok (.iload 4, 2) := by decide +kernel
theorem dX12_read_158 : decode cX12_read 158 = .ok (.sipush 5000, 3) := by decide +kernel
theorem dX12_read_161 : decode cX12_read 161 = .ok (.if_icmp .ge 23, 3) := by decide +kernel
theorem dX12_read_164 : decode cX12_read 164 = .ok (.aload_n 0, 1) := by decide +kernel
theorem dX12_read_165 : decode cX12_read 165 = .ok (.getfield 25, 3) := by decide +kernel
theorem dX12_read_168 : decode cX12_read 168 = .ok (.iload 4, 2) := by decide +kernel
theorem dX12_read_170 : decode cX12_read 170 = .ok (.aload_n 0, 1) := by decide +kernel
theorem dX12_read_171 : decode cX12_read 171 = .ok (.getfield 28, 3) := by decide +kernel
theorem dX12_read_174 : decode cX12_read 174 = .ok (.iload 4, 2) := by decide +kernel
theorem dX12_read_176 : decode cX12_read 176 = .ok (.iaload, 1) := by decide +kernel
theorem dX12_read_177 : decode cX12_read 177 = .ok (.iastore, 1) := by decide +kernel
theorem dX12_read_178 : decode cX12_read 178 = .ok (.iinc 4 1, 3) := by decide +kernel
theorem dX12_read_181 : decode cX12_read 181 = .ok (.goto (-25), 3) := by decide +kernel
theorem dX12_read_184 : decode cX12_read 184 = .ok (.aload_n 0, 1) := by decide +kernel
theorem dX12_read_185 : decode cX12_read 185 = .ok (.getfield 236, 3) := by decide +kernel
theorem dX12_read_188 : decode cX12_read 188 = .ok (.ireturn, 1) := by decide +kernel
theorem dX12_read_189 : decode cX12_read 189 = .ok (.iconst 0, 1) := by decide +kernel
theorem dX12_read_190 : decode cX12_read 190 = .ok (.istore 4, 2) := by decide +kernel
theorem dX12_read_192 : decode cX12_read 192 = .ok (.iload 4, 2) := by decide +kernel
theorem dX12_read_194 : decode cX12_read 194 = .ok (.aload_n 0, 1) := by decide +kernel
theorem dX12_read_195 : decode cX12_read 195 = .ok (.getfield 223, 3) := by decide +kernel
theorem dX12_read_198 : decode cX12_read 198 = .ok (.if_icmp .ge 23, 3) := by decide +kernel
theorem dX12_read_201 : decode cX12_read 201 = .ok (.aload_n 0, 1) := by decide +kernel
theorem dX12_read_202 : decode cX12_read 202 = .ok (.getfield 82, 3) := by decide +kernel
theorem dX12_read_205 : decode cX12_read 205 = .ok (.iload 4, 2) := by decide +kernel
theorem dX12_read_207 : decode cX12_read 207 = .ok (.aload_n 0, 1) := by decide +kernel
theorem dX12_read_208 : decode cX12_read 208 = .ok (.getfield 79, 3) := by decide +kernel
theorem dX12_read_211 : decode cX12_read 211 = .ok (.iload 4, 2) := by decide +kernel
theorem dX12_read_213 : decode cX12_read 213 = .ok (.baload, 1) := by decide +kernel
theorem dX12_read_214 : decode cX12_read 214 = .ok (.bastore, 1) := by decide +kernel
theorem dX12_read_215 : decode cX12_read 215 = .ok (.iinc 4 1, 3) := by decide +kernel
theorem dX12_read_218 : decode cX12_read 218 = .ok (.goto (-26), 3) := by decide +kernel
theorem dX12_read_221 : decode cX12_read 221 = .ok (.aload_n 0, 1) := by decide +kernel
theorem dX12_read_222 : decode cX12_read 222 = .ok (.aload_n 0, 1) := by decide +kernel
theorem dX12_read_223 : decode cX12_read 223 = .ok (.getfield 223, 3) := by decide +kernel
theorem dX12_read_226 : decode cX12_read 226 = .ok (.putfield 418, 3) := by decide +kernel
theorem dX12_read_229 : decode cX12_read 229 = .ok (.aload_n 0, 1) := by decide +kernel
theorem dX12_read_230 : decode cX12_read 230 = .ok (.aload_n 0, 1) := by decide +kernel
theorem dX12_read_231 : decode cX12_read 231 = .ok (.getfield 345, 3) := by decide +kernel
theorem dX12_read_234 : decode cX12_read 234 = .ok (.putfield 421, 3) := by decide +kernel
theorem dX12_read_237 : decode cX12_read 237 = .ok (.aload_n 0, 1) := by decide +kernel
theorem dX12_read_238 : decode cX12_read 238 = .ok (.aload_n 0, 1) := by decide +kernel
theorem dX12_read_239 : decode cX12_read 239 = .ok (.getfield 297, 3) := by decide +kernel
theorem dX12_read_242 : decode cX12_read 242 = .ok (.putfield 424, 3) := by decide +kernel
theorem dX12_read_245 : decode cX12_read 245 = .ok (.aload_n 0, 1) := by decide +kernel
theorem dX12_read_246 : decode cX12_read 246 = .ok (.iload_n 3, 1) := by decide +kernel
theorem dX12_read_247 : decode cX12_read 247 = .ok (.putfield 427, 3) := by decide +kernel
theorem dX12_read_250 : decode cX12_read 250 = .ok (.aload_n 0, 1) := by decide +kernel
theorem dX12_read_251 : decode cX12_read 251 = .ok (.invokevirtual 430, 3) := by decide +kernel
theorem dX12_read_254 : decode cX12_read 254 = .ok (.iconst 0, 1) := by decide +kernel
theorem dX12_read_255 : decode cX12_read 255 = .ok (.ireturn, 1) := by decide +kernel
theorem dX12_stay_0 : decode cX12_stay 0 = .ok (.aload_n 0, 1) := by decide +kernel
theorem dX12_stay_1 : decode cX12_stay 1 = .ok (.iconst 0, 1) := by decide +kernel
theorem dX12_stay_2 : decode cX12_stay 2 = .ok (.putfield 433, 3) := by decide +kernel
theorem dX12_stay_5 : decode cX12_stay 5 = .ok (.aload_n 0, 1) := by decide +kernel
theorem dX12_stay_6 : decode cX12_stay 6 = .ok (.iconst 0, 1) := by decide +kernel
theorem dX12_stay_7 : decode cX12_stay 7 = .ok (.putfield 436, 3) := by decide +kernel
theorem dX12_stay_10 : decode cX12_stay 10 = .ok (.aload_n 0, 1) := by decide +kernel
theorem dX12_stay_11 : decode cX12_stay 11 = .ok (.iconst 0, 1) := by decide +kernel
theorem dX12_stay_12 : decode cX12_stay 12 = .ok (.putfield 306, 3) := by decide +kernel
theorem dX12_stay_15 : decode cX12_stay 15 = .ok (.iconst 0, 1) := by decide +kernel
theorem dX12_stay_16 : decode cX12_stay 16 = .ok (.istore_n 1, 1) := by decide +kernel
theorem dX12_stay_17 : decode cX12_stay 17 = .ok (.iload_n 1, 1) := by decide +kernel
theorem dX12_stay_18 : decode cX12_stay 18 = .ok (.aload_n 0, 1) := by decide +kernel
theorem dX12_stay_19 : decode cX12_stay 19 = .ok (.getfield 165, 3) := by decide +kernel
theorem dX12_stay_22 : decode cX12_stay 22 = .ok (.if_icmp .ge 42, 3) := by decide +kernel
theorem dX12_stay_25 : decode cX12_stay 25 = .ok (.aload_n 0, 1) := by decide +kernel
theorem dX12_stay_26 : decode cX12_stay 26 = .ok (.getfield 25, 3) := by decide +kernel
theorem dX12_stay_29 : decode cX12_stay 29 = .ok (.iload_n 1, 1) := by decide +kernel
theorem dX12_stay_30 : decode cX12_stay 30 = .ok (.iaload, 1) := by decide +kernel
theorem dX12_stay_31 : decode cX12_stay 31 = .ok (.aload_n 0, 1) := by decide +kernel
theorem dX12_stay_32 : decode cX12_stay 32 = .ok (.getfield 402, 3) := by decide +kernel
theorem dX12_stay_35 : decode cX12_stay 35 = .ok (.if_icmp .le 23, 3) := by decide +kernel
theorem dX12_stay_38 : decode cX12_stay 38 = .ok (.aload_n 0, 1) := by decide +kernel
theorem dX12_stay_39 : decode cX12_stay 39 = .ok (.getfield 25, 3) := by decide +kernel
theorem dX12_stay_42 : decode cX12_stay 42 = .ok (.iload_n 1, 1) := by decide +kernel
theorem dX12_stay_43 : decode cX12_stay 43 = .ok (.aload_n 0, 1) := by decide +kernel
theorem dX12_stay_44 : decode cX12_stay 44 = .ok (.aload_n 0, 1) := by decide +kernel
theorem dX12_stay_45 : decode cX12_stay 45 = .ok (.getfield 25, 3) := by decide +kernel
theorem dX12_stay_48 : decode cX12_stay 48 = .ok (.iload_n 1, 1) := by decide +kernel
theorem dX12_stay_49 : decode cX12_stay 49 = .ok (.iaload, 1) := by decide +kernel
theorem dX12_stay_50 : decode cX12_stay 50 = .ok (.iconst 1, 1) := by decide +kernel
theorem dX12_stay_51 : decode cX12_stay 51 = .ok (.isub, 1) := by decide +kernel
theorem dX12_stay_52 : decode cX12_stay 52 = .ok (.invokevirtual 439, 3) := by decide +kernel
theorem dX12_stay_55 : decode cX12_stay 55 = .ok (.iconst 1, 1) := by decide +kernel
theorem dX12_stay_56 : decode cX12_stay 56 = .ok (.iadd, 1) := by decide +kernel
theorem dX12_stay_57 : decode cX12_stay 57 = .ok (.iastore, 1) := by decide +kernel
theorem dX12_stay_58 : decode cX12_stay 58 = .ok (.iinc 1 1, 3) := by decide +kernel
theorem dX12_stay_61 : decode cX12_stay 61 = .ok (.goto (-44), 3) := by decide +kernel
theorem dX12_stay_64 : decode cX12_stay 64 = .ok (.iconst 0, 1) := by decide +kernel
theorem dX12_stay_65 : decode cX12_stay 65 = .ok (.istore_n 1, 1) := by decide +kernel
theorem dX12_stay_66 : decode cX12_stay 66 = .ok (.iload_n 1, 1) := by decide +kernel
theorem dX12_stay_67 : decode cX12_stay 67 = .ok (.aload_n 0, 1) := by decide +kernel
theorem dX12_stay_68 : decode cX12_stay 68 = .ok (.getfield 306, 3) := by decide +kernel
theorem dX12_stay_71 : decode cX12_stay 71 = .ok (.if_icmp .ge 103, 3) := by decide +kernel
theorem dX12_stay_74 : decode cX12_stay 74 = .ok (.aload_n 0, 1) := by decide +kernel
theorem dX12_stay_75 : decode cX12_stay 75 = .ok (.getfield 98, 3) := by decide +kernel
theorem dX12_stay_78 : decode cX12_stay 78 = .ok (.iload_n 1, 1) := by decide +kernel
theorem dX12_stay_79 : decode cX12_stay 79 = .ok (.iaload, 1) := by decide +kernel
theorem dX12_stay_80 : decode cX12_stay 80 = .ok (.istore_n 2, 1) := by decide +kernel
theorem dX12_stay_81 : decode cX12_stay 81 = .ok (.aload_n 0, 1) := by decide +kernel
theorem dX12_stay_82 : decode cX12_stay 82 = .ok (.getfield 32, 3) := by decide +kernel
theorem dX12_stay_85 : decode cX12_stay 85 = .ok (.iload_n 2, 1) := by decide +kernel
theorem dX12_stay_86 : decode cX12_stay 86 = .ok (.baload, 1) := by decide +kernel
theorem dX12_stay_87 : decode cX12_stay 87 = .ok (.iconst 2, 1) := by decide +kernel
theorem dX12_stay_88 : decode cX12_stay 88 = .ok (.if_icmp .ne 80, 3) := by decide +kernel
theorem dX12_stay_91 : decode cX12_stay 91 = .ok (.aload_n 0, 1) := by decide +kernel
theorem dX12_stay_92 : decode cX12_stay 92 = .ok (.getfield 436, 3) := by decide +kernel
theorem dX12_stay_95 : decode cX12_stay 95 = .ok (.istore_n 3, 1) := by decide +kernel
theorem dX12_stay_96 : decode cX12_stay 96 = .ok (.aload_n 0, 1) := by decide +kernel
theorem dX12_stay_97 : decode cX12_stay 97 = .ok (.aload_n 0, 1) := by decide +kernel
theorem dX12_stay_98 : decode cX12_stay 98 = .ok (.getfield 436, 3) := by decide +kernel
theorem dX12_stay_101 : decode cX12_stay 101 = .ok (.aload_n 0, 1) := by decide +kernel
theorem dX12_stay_102 : decode cX12_stay 102 = .ok (.getfield 38, 3) := by decide +kernel
theorem dX12_stay_105 : decode cX12_stay 105 = .ok (.iload_n 2, 1) := by decide +kernel
theorem dX12_stay_106 : decode cX12_stay 106 = .ok (.iaload, 1) := by decide +kernel
theorem dX12_stay_107 : decode cX12_stay 107 = .ok (.iadd, 1) := by decide +kernel
theorem dX12_stay_108 : decode cX12_stay 108 = .ok (.putfield 436, 3) := by decide +kernel
theorem dX12_stay_111 : decode cX12_stay 111 = .ok (.iconst 0, 1) := by decide +kernel
theorem dX12_stay_112 : decode cX12_stay 112 = .ok (.istore 4, 2) := by decide +kernel
theorem dX12_stay_114 : decode cX12_stay 114 = .ok (.iload 4, 2) := by decide +kernel
theorem dX12_stay_116 : decode cX12_stay 116 = .ok (.aload_n 0, 1) := by decide +kernel
theorem dX12_stay_117 : decode cX12_stay 117 = .ok (.getfield 38, 3) := by decide +kernel
theorem dX12_stay_120 : decode cX12_stay 120 = .ok (.iload_n 2, 1) := by decide +kernel
theorem dX12_stay_121 : decode cX12_stay 121 = .ok (.iaload, 1) := by decide +kernel
theorem dX12_stay_122 : decode cX12_stay 122 = .ok (.if_icmp .ge 29, 3) := by decide +kernel
theorem dX12_stay_125 : decode cX12_stay 125 = .ok (.aload_n 0, 1) := by decide +kernel
theorem dX12_stay_126 : decode cX12_stay 126 = .ok (.getfield 128, 3) := by decide +kernel
theorem dX12_stay_129 : decode cX12_stay 129 = .ok (.iload_n 3, 1) := by decide +kernel
theorem dX12_stay_130 : decode cX12_stay 130 = .ok (.iload 4, 2) := by decide +kernel
theorem dX12_stay_132 : decode cX12_stay 132 = .ok (.iadd, 1) := by decide +kernel
theorem dX12_stay_133 : decode cX12_stay 133 = .ok (.aload_n 0, 1) := by decide +kernel
theorem dX12_stay_134 : decode cX12_stay 134 = .ok (.aload_n 0, 1) := by decide +kernel
theorem dX12_stay_135 : decode cX12_stay 135 = .ok (.iload_n 2, 1) := by decide +kernel
theorem dX12_stay_136 : decode cX12_stay 136 = .ok (.iload 4, 2) := by decide +kernel
theorem dX12_stay_138 : decode cX12_stay 138 = .ok (.invokevirtual 192, 3) := by decide +kernel
theorem dX12_stay_141 : decode cX12_stay 141 = .ok (.invokevirtual 439, 3) := by decide +kernel
theorem dX12_stay_144 : decode cX12_stay 144 = .ok (.iastore, 1) := by decide +kernel
theorem dX12_stay_145 : decode cX12_stay 145 = .ok (.iinc 4 1, 3) := by decide +kernel
theorem dX12_stay_148 : decode cX12_stay 148 = .ok (.goto (-34), 3) := by decide +kernel
theorem dX12_stay_151 : decode cX12_stay 151 = .ok (.aload_n 0, 1) := by decide +kernel
theorem dX12_stay_152 : decode cX12_stay 152 = .ok (.getfield 122, 3) := by decide +kernel
theorem dX12_stay_155 : decode cX12_stay 155 = .ok (.aload_n 0, 1) := by decide +kernel
theorem dX12_stay_156 : decode cX12_stay 156 = .ok (.getfield 101, 3) := by decide +kernel
theorem dX12_stay_159 : decode cX12_stay 159 = .ok (.iload_n 1, 1) := by decide +kernel
theorem dX12_stay_160 : decode cX12_stay 160 = .ok (.iaload, 1) := by decide +kernel
theorem dX12_stay_161 : decode cX12_stay 161 = .ok (.aload_n 0, 1) := by decide +kernel
theorem dX12_stay_162 : decode cX12_stay 162 = .ok (.getfield 405, 3) := by decide +kernel
theorem dX12_stay_165 : decode cX12_stay 165 = .ok (.iload_n 3, 1) := by decide +kernel
theorem dX12_stay_166 : decode cX12_stay 166 = .ok (.iadd, 1) := by decide +kernel
theorem dX12_stay_167 : decode cX12_stay 167 = .ok (.iastore, 1) := by decide +kernel
theorem dX12_stay_168 : decode cX12_stay 168 = .ok (.iinc 1 1, 3) := by decide +kernel
theorem dX12_stay_171 : decode cX12_stay 171 = .ok (.goto (-105), 3) := by decide +kernel
theorem dX12_stay_174 : decode cX12_stay 174 = .ok (.iconst 0, 1) := by decide +kernel
theorem dX12_stay_175 : decode cX12_stay 175 = .ok (.istore_n 1, 1) := by decide +kernel
theorem dX12_stay_176 : decode cX12_stay 176 = .ok (.iload_n 1, 1) := by decide +kernel
theorem dX12_stay_177 : decode cX12_stay 177 = .ok (.aload_n 0, 1) := by decide +kernel
theorem dX12_stay_178 : decode cX12_stay 178 = .ok (.getfield 433, 3) := by decide +kernel
theorem dX12_stay_181 : decode cX12_stay 181 = .ok (.if_icmp .ge 60, 3) := by decide +kernel
theorem dX12_stay_184 : decode cX12_stay 184 = .ok (.aload_n 0, 1) := by decide +kernel
theorem dX12_stay_185 : decode cX12_stay 185 = .ok (.getfield 32, 3) := by decide +kernel
theorem dX12_stay_188 : decode cX12_stay 188 = .ok (.aload_n 0, 1) := by decide +kernel
theorem dX12_stay_189 : decode cX12_stay 189 = .ok (.getfield 402, 3) := by decide +kernel
theorem dX12_stay_192 : decode cX12_stay 192 = .ok (.iload_n 1, 1) := by decide +kernel
theorem dX12_stay_193 : decode cX12_stay 193 = .ok (.iadd, 1) := by decide +kernel
theorem dX12_stay_194 : decode cX12_stay 194 = .ok (.aload_n 0, 1) := by decide +kernel
theorem dX12_stay_195 : decode cX12_stay 195 = .ok (.getfield 119, 3) := by decide +kernel
theorem dX12_stay_198 : decode cX12_stay 198 = .ok (.iload_n 1, 1) := by decide +kernel
theorem dX12_stay_199 : decode cX12_stay 199 = .ok (.baload, 1) := by decide +kernel
theorem dX12_stay_200 : decode cX12_stay 200 = .ok (.bastore, 1) := by decide +kernel
theorem dX12_stay_201 : decode cX12_stay 201 = .ok (.aload_n 0, 1) := by decide +kernel
theorem dX12_stay_202 : decode cX12_stay 202 = .ok (.getfield 35, 3) := by decide +kernel
theorem dX12_stay_205 : decode cX12_stay 205 = .ok (.aload_n 0, 1) := by decide +kernel
theorem dX12_stay_206 : decode cX12_stay 206 = .ok (.getfield 402, 3) := by decide +kernel
theorem dX12_stay_209 : decode cX12_stay 209 = .ok (.iload_n 1, 1) := by decide +kernel
theorem dX12_stay_210 : decode cX12_stay 210 = .ok (.iadd, 1) := by decide +kernel
theorem dX12_stay_211 : decode cX12_stay 211 = .ok (.aload_n 0, 1) := by decide +kernel
theorem dX12_stay_212 : decode cX12_stay 212 = .ok (.getfield 122, 3) := by decide +kernel
theorem dX12_stay_215 : decode cX12_stay 215 = .ok (.iload_n 1, 1) := by decide +kernel
theorem dX12_stay_216 : decode cX12_stay 216 = .ok (.iaload, 1) := by decide +kernel
theorem dX12_stay_217 : decode cX12_stay 217 = .ok (.iastore, 1) := by decide +kernel
theorem dX12_stay_218 : decode cX12_stay 218 = .ok (.aload_n 0, 1) := by decide +kernel
theorem dX12_stay_219 : decode cX12_stay 219 = .ok (.getfield 38, 3) := by decide +kernel
theorem dX12_stay_222 : decode cX12_stay 222 = .ok (.aload_n 0, 1) := by decide +kernel
theorem dX12_stay_223 : decode cX12_stay 223 = .ok (.getfield 402, 3) := by decide +kernel
theorem dX12_stay_226 : decode cX12_stay 226 = .ok (.iload_n 1, 1) := by decide +kernel
theorem dX12_stay_227 : decode cX12_stay 227 = .ok (.iadd, 1) := by decide +kernel
theorem dX12_stay_228 : decode cX12_stay 228 = .ok (.aload_n 0, 1) := by decide +kernel
theorem dX12_stay_229 : decode cX12_stay 229 = .ok (.getfield 125, 3) := by decide +kernel
theorem dX12_stay_232 : decode cX12_stay 232 = .ok (.iload_n 1, 1) := by decide +kernel
theorem dX12_stay_233 : decode cX12_stay 233 = .ok (.iaload, 1) := by decide +kernel
theorem dX12_stay_234 : decode cX12_stay 234 = .ok (.iastore, 1) := by decide +kernel
theorem dX12_stay_235 : decode cX12_stay 235 = .ok (.iinc 1 1, 3) := by decide +kernel
theorem dX12_stay_238 : decode cX12_stay 238 = .ok (.goto (-62), 3) := by decide +kernel
theorem dX12_stay_241 : decode cX12_stay 241 = .ok (.iconst 0, 1) := by decide +kernel
theorem dX12_stay_242 : decode cX12_stay 242 = .ok (.istore_n 1, 1) := by decide +kernel
theorem dX12_stay_243 : decode cX12_stay 243 = .ok (.iload_n 1, 1) := by decide +kernel
theorem dX12_stay_244 : decode cX12_stay 244 = .ok (.aload_n 0, 1) := by decide +kernel
theorem dX12_stay_245 : decode cX12_stay 245 = .ok (.getfield 436, 3) := by decide +kernel
theorem dX12_stay_248 : decode cX12_stay 248 = .ok (.if_icmp .ge 26, 3) := by decide +kernel
theorem dX12_stay_251 : decode cX12_stay 251 = .ok (.aload_n 0, 1) := by decide +kernel
theorem dX12_stay_252 : decode cX12_stay 252 = .ok (.getfield 41, 3) := by decide +kernel
theorem dX12_stay_255 : decode cX12_stay 255 = .ok (.aload_n 0, 1) := by decide +kernel
theorem dX12_stay_256 : decode cX12_stay 256 = .ok (.getfield 405, 3) := by decide +kernel
theorem dX12_stay_259 : decode cX12_stay 259 = .ok (.iload_n 1, 1) := by decide +kernel
theorem dX12_stay_260 : decode cX12_stay 260 = .ok (.iadd, 1) := by decide +kernel
theorem dX12_stay_261 : decode cX12_stay 261 = .ok (.aload_n 0, 1) := by decide +kernel
theorem dX12_stay_262 : decode cX12_stay 262 = .ok (.getfield 128, 3) := by decide +kernel
theorem dX12_stay_265 : decode cX12_stay 265 = .ok (.iload_n 1, 1) := by decide +kernel
theorem dX12_stay_266 : decode cX12_stay 266 = .ok (.iaload, 1) := by decide +kernel
theorem dX12_stay_267 : decode cX12_stay 267 = .ok (.iastore, 1) := by decide +kernel
theorem dX12_stay_268 : decode cX12_stay 268 = .ok (.iinc 1 1, 3) := by decide +kernel
theorem dX12_stay_271 : decode cX12_stay 271 = .ok (.goto (-28), 3) := by decide +kernel
theorem dX12_stay_274 : decode cX12_stay 274 = .ok (.aload_n 0, 1) := by decide +kernel
theorem dX12_stay_275 : decode cX12_stay 275 = .ok (.aload_n 0, 1) := by decide +kernel
theorem dX12_stay_276 : decode cX12_stay 276 = .ok (.getfield 402, 3) := by decide +kernel
theorem dX12_stay_279 : decode cX12_stay 279 = .ok (.aload_n 0, 1) := by decide +kernel
theorem dX12_stay_280 : decode cX12_stay 280 = .ok (.getfield 433, 3) := by decide +kernel
theorem dX12_stay_283 : decode cX12_stay 283 = .ok (.iadd, 1) := by decide +kernel
theorem dX12_stay_284 : decode cX12_stay 284 = .ok (.putfield 402, 3) := by decide +kernel
theorem dX12_stay_287 : decode cX12_stay 287 = .ok (.aload_n 0, 1) := by decide +kernel
theorem dX12_stay_288 : decode cX12_stay 288 = .ok (.aload_n 0, 1) := by decide +kernel
theorem dX12_stay_289 : decode cX12_stay 289 = .ok (.getfield 405, 3) := by decide +kernel
theorem dX12_stay_292 : decode cX12_stay 292 = .ok (.aload_n 0, 1) := by decide +kernel
theorem dX12_stay_293 : decode cX12_stay 293 = .ok (.getfield 436, 3) := by decide +kernel
theorem dX12_stay_296 : decode cX12_stay 296 = .ok (.iadd, 1) := by decide +kernel
theorem dX12_stay_297 : decode cX12_stay 297 = .ok (.putfield 405, 3) := by decide +kernel
theorem dX12_stay_300 : decode cX12_stay 300 = .ok (.return_, 1) := by decide +kernel
theorem dX12_place_0 : decode cX12_place 0 = .ok (.aload_n 0, 1) := by decide +kernel
theorem dX12_place_1 : decode cX12_place 1 = .ok (.iconst 0, 1) := by decide +kernel
theorem dX12_place_2 : decode cX12_place 2 = .ok (.putfield 168, 3) := by decide +kernel
theorem dX12_place_5 : decode cX12_place 5 = .ok (.aload_n 0, 1) := by decide +kernel
theorem dX12_place_6 : decode cX12_place 6 = .ok (.getfield 13, 3) := by decide +kernel
theorem dX12_place_9 : decode cX12_place 9 = .ok (.ireturn, 1) := by decide +kernel
theorem dX12_count_0 : decode cX12_count 0 = .ok (.aload_n 0, 1) := by decide +kernel
theorem dX12_count_1 : decode cX12_count 1 = .ok (.iconst 0, 1) := by decide +kernel
theorem dX12_count_2 : decode cX12_count 2 = .ok (.putfield 168, 3) := by decide +kernel
theorem dX12_count_5 : decode cX12_count 5 = .ok (.iconst 0, 1) := by decide +kernel
theorem dX12_count_6 : decode cX12_count 6 = .ok (.istore_n 2, 1) := by decide +kernel
theorem dX12_count_7 : decode cX12_count 7 = .ok (.iconst 0, 1) := by decide +kernel
theorem dX12_count_8 : decode cX12_count 8 = .ok (.istore_n 3, 1) := by decide +kernel
theorem dX12_count_9 : decode cX12_count 9 = .ok (.iload_n 3, 1) := by decide +kernel
theorem dX12_count_10 : decode cX12_count 10 = .ok (.aload_n 0, 1) := by decide +kernel
theorem dX12_count_11 : decode cX12_count 11 = .ok (.getfield 165, 3) := by decide +kernel
theorem dX12_count_14 : decode cX12_count 14 = .ok (.if_icmp .ge 26, 3) := by decide +kernel
theorem dX12_count_17 : decode cX12_count 17 = .ok (.aload_n 0, 1) := by decide +kernel
theorem dX12_count_18 : decode cX12_count 18 = .ok (.getfield 25, 3) := by decide +kernel
theorem dX12_count_21 : decode cX12_count 21 = .ok (.iload_n 3, 1) := by decide +kernel
theorem dX12_count_22 : decode cX12_count 22 = .ok (.iaload, 1) := by decide +kernel
theorem dX12_count_23 : decode cX12_count 23 = .ok (.ifCond .le 9, 3) := by decide +kernel
theorem dX12_count_26 : decode cX12_count 26 = .ok (.iload_n 2, 1) := by decide +kernel
theorem dX12_count_27 : decode cX12_count 27 = .ok (.iconst 1, 1) := by decide +kernel
theorem dX12_count_28 : decode cX12_count 28 = .ok (.iadd, 1) := by decide +kernel
theorem dX12_count_29 : decode cX12_count 29 = .ok (.goto 4, 3) := by decide +kernel
theorem dX12_count_32 : decode cX12_count 32 = .ok (.iload_n 2, 1) := by decide +kernel
theorem dX12_count_33 : decode cX12_count 33 = .ok (.istore_n 2, 1) := by decide +kernel
theorem dX12_count_34 : decode cX12_count 34 = .ok (.iinc 3 1, 3) := by decide +kernel
theorem dX12_count_37 : decode cX12_count 37 = .ok (.goto (-28), 3) := by decide +kernel
theorem dX12_count_40 : decode cX12_count 40 = .ok (.iload_n 1, 1) := by decide +kernel
theorem dX12_count_41 : decode cX12_count 41 = .ok (.ifCond .ne 10, 3) := by decide +kernel
theorem dX12_count_44 : decode cX12_count 44 = .ok (.aload_n 0, 1) := by decide +kernel
theorem dX12_count_45 : decode cX12_count 45 = .ok (.getfield 418, 3) := by decide +kernel
theorem dX12_count_48 : decode cX12_count 48 = .ok (.goto 61, 3) := by decide +kernel
theorem dX12_count_51 : decode cX12_count 51 = .ok (.iload_n 1, 1) := by decide +kernel
theorem dX12_count_52 : decode cX12_count 52 = .ok (.iconst 1, 1) := by decide +kernel
theorem dX12_count_53 : decode cX12_count 53 = .ok (.if_icmp .ne 10, 3) := by decide +kernel
theorem dX12_count_56 : decode cX12_count 56 = .ok (.aload_n 0, 1) := by decide +kernel
theorem dX12_count_57 : decode cX12_count 57 = .ok (.getfield 421, 3) := by decide +kernel
theorem dX12_count_60 : decode cX12_count 60 = .ok (.goto 49, 3) := by decide +kernel
theorem dX12_count_63 : decode cX12_count 63 = .ok (.iload_n 1, 1) := by decide +kernel
theorem dX12_count_64 : decode cX12_count 64 = .ok (.iconst 2, 1) := by decide +kernel
theorem dX12_count_65 : decode cX12_count 65 = .ok (.if_icmp .ne 10, 3) := by decide +kernel
theorem dX12_count_68 : decode cX12_count 68 = .ok (.aload_n 0, 1) := by decide +kernel
theorem dX12_count_69 : decode cX12_count 69 = .ok (.getfield 424, 3) := by decide +kernel
theorem dX12_count_72 : decode cX12_count 72 = .ok (.goto 37, 3) := by decide +kernel
theorem dX12_count_75 : decode cX12_count 75 = .ok (.iload_n 1, 1) := by decide +kernel
theorem dX12_count_76 : decode cX12_count 76 = .ok (.iconst 3, 1) := by decide +kernel
theorem dX12_count_77 : decode cX12_count 77 = .ok (.if_icmp .ne 10, 3) := by decide +kernel
theorem dX12_count_80 : decode cX12_count 80 = .ok (.aload_n 0, 1) := by decide +kernel
theorem dX12_count_81 : decode cX12_count 81 = .ok (.getfield 427, 3) := by decide +kernel
theorem dX12_count_84 : decode cX12_count 84 = .ok (.goto 25, 3) := by decide +kernel
theorem dX12_count_87 : decode cX12_count 87 = .ok (.iload_n 1, 1) := by decide +kernel
theorem dX12_count_88 : decode cX12_count 88 = .ok (.iconst 4, 1) := by decide +kernel
theorem dX12_count_89 : decode cX12_count 89 = .ok (.if_icmp .ne 7, 3) := by decide +kernel
theorem dX12_count_92 : decode cX12_count 92 = .ok (.iload_n 2, 1) := by decide +kernel
theorem dX12_count_93 : decode cX12_count 93 = .ok (.goto 16, 3) := by decide +kernel
theorem dX12_count_96 : decode cX12_count 96 = .ok (.iload_n 1, 1) := by decide +kernel
theorem dX12_count_97 : decode cX12_count 97 = .ok (.iconst 5, 1) := by decide +kernel
theorem dX12_count_98 : decode cX12_count 98 = .ok (.if_icmp .ne 10, 3) := by decide +kernel
theorem dX12_count_101 : decode cX12_count 101 = .ok (.aload_n 0, 1) := by decide +kernel
theorem dX12_count_102 : decode cX12_count 102 = .ok (.getfield 390, 3) := by decide +kernel
theorem dX12_count_105 : decode cX12_count 105 = .ok (.goto 4, 3) := by decide +kernel
theorem dX12_count_108 : decode cX12_count 108 = .ok (.iconst (-1), 1) := by decide +kernel
theorem dX12_count_109 : decode cX12_count 109 = .ok (.ireturn, 1) := by decide +kernel
theorem dX12_character_0 : decode cX12_character 0 = .ok (.aload_n 0, 1) := by decide +kernel
theorem dX12_character_1 : decode cX12_character 1 = .ok (.iconst 0, 1) := by decide +kernel
theorem dX12_character_2 : decode cX12_character 2 = .ok (.putfield 168, 3) := by decide +kernel
theorem dX12_character_5 : decode cX12_character 5 = .ok (.iload_n 1, 1) := by decide +kernel
theorem dX12_character_6 : decode cX12_character 6 = .ok (.ifCond .lt 20, 3) := by decide +kernel
theorem dX12_character_9 : decode cX12_character 9 = .ok (.iload_n 1, 1) := by decide +kernel
theorem dX12_character_10 : decode cX12_character 10 = .ok (.aload_n 0, 1) := by decide +kernel
theorem dX12_character_11 : decode cX12_character 11 = .ok (.getfield 418, 3) := by decide +kernel
theorem dX12_character_14 : decode cX12_character 14 = .ok (.if_icmp .ge 12, 3) := by decide +kernel
theorem dX12_character_17 : decode cX12_character 17 = .ok (.aload_n 0, 1) := by decide +kernel
theorem dX12_character_18 : decode cX12_character 18 = .ok (.getfield 82, 3) := by decide +kernel
theorem dX12_character_21 : decode cX12_character 21 = .ok (.iload_n 1, 1) := by decide +kernel
theorem dX12_character_22 : decode cX12_character 22 = .ok (.baload, 1) := by decide +kernel
theorem dX12_character_23 : decode cX12_character 23 = .ok (.goto 4, 3) := by decide +kernel
theorem dX12_character_26 : decode cX12_character 26 = .ok (.iconst (-1), 1) := by decide +kernel
theorem dX12_character_27 : decode cX12_character 27 = .ok (.ireturn, 1) := by decide +kernel
theorem dX12_means_0 : decode cX12_means 0 = .ok (.aload_n 0, 1) := by decide +kernel
theorem dX12_means_1 : decode cX12_means 1 = .ok (.iconst 0, 1) := by decide +kernel
theorem dX12_means_2 : decode cX12_means 2 = .ok (.putfield 168, 3) := by decide +kernel
theorem dX12_means_5 : decode cX12_means 5 = .ok (.aload_n 0, 1) := by decide +kernel
theorem dX12_means_6 : decode cX12_means 6 = .ok (.aload_n 0, 1) := by decide +kernel
theorem dX12_means_7 : decode cX12_means 7 = .ok (.getfield 402, 3) := by decide +kernel
theorem dX12_means_10 : decode cX12_means 10 = .ok (.putfield 196, 3) := by decide +kernel
theorem dX12_means_13 : decode cX12_means 13 = .ok (.aload_n 0, 1) := by decide +kernel
theorem dX12_means_14 : decode cX12_means 14 = .ok (.aload_n 0, 1) := by decide +kernel
theorem dX12_means_15 : decode cX12_means 15 = .ok (.getfield 405, 3) := by decide +kernel
theorem dX12_means_18 : decode cX12_means 18 = .ok (.putfield 220, 3) := by decide +kernel
theorem dX12_means_21 : decode cX12_means 21 = .ok (.aload_n 0, 1) := by decide +kernel
theorem dX12_means_22 : decode cX12_means 22 = .ok (.invokevirtual 411, 3) := by decide +kernel
theorem dX12_means_25 : decode cX12_means 25 = .ok (.istore_n 1, 1) := by decide +kernel
theorem dX12_means_26 : decode cX12_means 26 = .ok (.aload_n 0, 1) := by decide +kernel
theorem dX12_means_27 : decode cX12_means 27 = .ok (.iconst 0, 1) := by decide +kernel
theorem dX12_means_28 : decode cX12_means 28 = .ok (.putfield 171, 3) := by decide +kernel
theorem dX12_means_31 : decode cX12_means 31 = .ok (.iload_n 1, 1) := by decide +kernel
theorem dX12_means_32 : decode cX12_means 32 = .ok (.ifCond .eq 24, 3) := by decide +kernel
theorem dX12_means_35 : decode cX12_means 35 = .ok (.aload_n 0, 1) := by decide +kernel
theorem dX12_means_36 : decode cX12_means 36 = .ok (.getfield 203, 3) := by decide +kernel
theorem dX12_means_39 : decode cX12_means 39 = .ok (.iconst 1, 1) := by decide +kernel
theorem dX12_means_40 : decode cX12_means 40 = .ok (.if_icmp .ne 16, 3) := by decide +kernel
theorem dX12_means_43 : decode cX12_means 43 = .ok (.aload_n 0, 1) := by decide +kernel
theorem dX12_means_44 : decode cX12_means 44 = .ok (.aload_n 0, 1) := by decide +kernel
theorem dX12_means_45 : decode cX12_means 45 = .ok (.getfield 85, 3) := by decide +kernel
theorem dX12_means_48 : decode cX12_means 48 = .ok (.iconst 0, 1) := by decide +kernel
theorem dX12_means_49 : decode cX12_means 49 = .ok (.iaload, 1) := by decide +kernel
theorem dX12_means_50 : decode cX12_means 50 = .ok (.invokevirtual 180, 3) := by decide +kernel
theorem dX12_means_53 : decode cX12_means 53 = .ok (.ifCond .ne 5, 3) := by decide +kernel
theorem dX12_means_56 : decode cX12_means 56 = .ok (.iconst (-1), 1) := by decide +kernel
theorem dX12_means_57 : decode cX12_means 57 = .ok (.ireturn, 1) := by decide +kernel
theorem dX12_means_58 : decode cX12_means 58 = .ok (.aload_n 0, 1) := by decide +kernel
theorem dX12_means_59 : decode cX12_means 59 = .ok (.getfield 35, 3) := by decide +kernel
theorem dX12_means_62 : decode cX12_means 62 = .ok (.aload_n 0, 1) := by decide +kernel
theorem dX12_means_63 : decode cX12_means 63 = .ok (.getfield 85, 3) := by decide +kernel
theorem dX12_means_66 : decode cX12_means 66 = .ok (.iconst 0, 1) := by decide +kernel
theorem dX12_means_67 : decode cX12_means 67 = .ok (.iaload, 1) := by decide +kernel
theorem dX12_means_68 : decode cX12_means 68 = .ok (.iaload, 1) := by decide +kernel
theorem dX12_means_69 : decode cX12_means 69 = .ok (.istore_n 2, 1) := by decide +kernel
theorem dX12_means_70 : decode cX12_means 70 = .ok (.iload_n 2, 1) := by decide +kernel
theorem dX12_means_71 : decode cX12_means 71 = .ok (.bipush 6, 2) := by decide +kernel
theorem dX12_means_73 : decode cX12_means 73 = .ok (.if_icmp .gt 7, 3) := by decide +kernel
theorem dX12_means_76 : decode cX12_means 76 = .ok (.iconst 1, 1) := by decide +kernel
theorem dX12_means_77 : decode cX12_means 77 = .ok (.goto 17, 3) := by decide +kernel
theorem dX12_means_80 : decode cX12_means 80 = .ok (.aload_n 0, 1) := by decide +kernel
theorem dX12_means_81 : decode cX12_means 81 = .ok (.getfield 25, 3) := by decide +kernel
theorem dX12_means_84 : decode cX12_means 84 = .ok (.iload_n 2, 1) := by decide +kernel
theorem dX12_means_85 : decode cX12_means 85 = .ok (.iaload, 1) := by decide +kernel
theorem dX12_means_86 : decode cX12_means 86 = .ok (.ifCond .le 7, 3) := by decide +kernel
theorem dX12_means_89 : decode cX12_means 89 = .ok (.iconst 2, 1) := by decide +kernel
theorem dX12_means_90 : decode cX12_means 90 = .ok (.goto 4, 3) := by decide +kernel
theorem dX12_means_93 : decode cX12_means 93 = .ok (.iconst 0, 1) := by decide +kernel
theorem dX12_means_94 : decode cX12_means 94 = .ok (.ireturn, 1) := by decide +kernel
theorem dX12_check_0 : decode cX12_check 0 = .ok (.aload_n 0, 1) := by decide +kernel
theorem dX12_check_1 : decode cX12_check 1 = .ok (.iconst 0, 1) := by decide +kernel
theorem dX12_check_2 : decode cX12_check 2 = .ok (.putfield 168, 3) := by decide +kernel
theorem dX12_check_5 : decode cX12_check 5 = .ok (.iconst 1, 1) := by decide +kernel
theorem dX12_check_6 : decode cX12_check 6 = .ok (.ireturn, 1) := by decide +kernel
theorem dJ0_toCharArray_70df3_0 : decode cJ0_toCharArray_70df3 0 = .ok (.aload_n 0, 1) := by decide +kernel
theorem dJ0_toCharArray_70df3_1 : decode cJ0_toCharArray_70df3 1 = .ok (.invokevirtual 492, 3) := by decide +kernel
theorem dJ0_toCharArray_70df3_4 : decode cJ0_toCharArray_70df3 4 = .ok (.ifCond .eq 13, 3) := by decide +kernel
theorem dJ0_toCharArray_70df3_7 : decode cJ0_toCharArray_70df3 7 = .ok (.aload_n 0, 1) := by decide +kernel
theorem dJ0_toCharArray_70df3_8 : decode cJ0_toCharArray_70df3 8 = .ok (.getfield 9, 3) := by decide +kernel
theorem dJ0_toCharArray_70df3_11 : decode cJ0_toCharArray_70df3 11 = .ok (.invokestatic 299, 3) := by decide +kernel
theorem dJ0_toCharArray_70df3_14 : decode cJ0_toCharArray_70df3 14 = .ok (.goto 10, 3) := by decide +kernel
theorem dJ0_toCharArray_70df3_17 : decode cJ0_toCharArray_70df3 17 = .ok (.aload_n 0, 1) := by decide +kernel
theorem dJ0_toCharArray_70df3_18 : decode cJ0_toCharArray_70df3 18 = .ok (.getfield 9, 3) := by decide +kernel
theorem dJ0_toCharArray_70df3_21 : decode cJ0_toCharArray_70df3 21 = .ok (.invokestatic 303, 3) := by decide +kernel
theorem dJ0_toCharArray_70df3_24 : decode cJ0_toCharArray_70df3 24 = .ok (.areturn, 1) := by decide +kernel
theorem dJ0_isLatin1_aae02_0 : decode cJ0_isLatin1_aae02 0 = .ok (.getstatic 38, 3) := by decide +kernel
theorem dJ0_isLatin1_aae02_3 : decode cJ0_isLatin1_aae02 3 = .ok (.ifCond .eq 14, 3) := by decide +kernel
theorem dJ0_isLatin1_aae02_6 : decode cJ0_isLatin1_aae02 6 = .ok (.aload_n 0, 1) := by decide +kernel
theorem dJ0_isLatin1_aae02_7 : decode cJ0_isLatin1_aae02 7 = .ok (.getfield 15, 3) := by decide +kernel
theorem dJ0_isLatin1_aae02_10 : decode cJ0_isLatin1_aae02 10 = .ok (.ifCond .ne 7, 3) := by decide +kernel
theorem dJ0_isLatin1_aae02_13 : decode cJ0_isLatin1_aae02 13 = .ok (.iconst 1, 1) := by decide +kernel
theorem dJ0_isLatin1_aae02_14 : decode cJ0_isLatin1_aae02 14 = .ok (.goto 4, 3) := by decide +kernel
theorem dJ0_isLatin1_aae02_17 : decode cJ0_isLatin1_aae02 17 = .ok (.iconst 0, 1) := by decide +kernel
theorem dJ0_isLatin1_aae02_18 : decode cJ0_isLatin1_aae02 18 = .ok (.ireturn, 1) := by decide +kernel
theorem dJ1_toChars_9d188_0 : decode cJ1_toChars_9d188 0 = .ok (.aload_n 0, 1) := by decide +kernel
theorem dJ1_toChars_9d188_1 : decode cJ1_toChars_9d188 1 = .ok (.arraylength, 1) := by decide +kernel
theorem dJ1_toChars_9d188_2 : decode cJ1_toChars_9d188 2 = .ok (.newarray .char, 2) := by decide +kernel
theorem dJ1_toChars_9d188_4 : decode cJ1_toChars_9d188 4 = .ok (.astore_n 1, 1) := by decide +kernel
theorem dJ1_toChars_9d188_5 : decode cJ1_toChars_9d188 5 = .ok (.aload_n 0, 1) := by decide +kernel
theorem dJ1_toChars_9d188_6 : decode cJ1_toChars_9d188 6 = .ok (.iconst 0, 1) := by decide +kernel
theorem dJ1_toChars_9d188_7 : decode cJ1_toChars_9d188 7 = .ok (.aload_n 1, 1) := by decide +kernel
theorem dJ1_toChars_9d188_8 : decode cJ1_toChars_9d188 8 = .ok (.iconst 0, 1) := by decide +kernel
theorem dJ1_toChars_9d188_9 : decode cJ1_toChars_9d188 9 = .ok (.aload_n 0, 1) := by decide +kernel
theorem dJ1_toChars_9d188_10 : decode cJ1_toChars_9d188 10 = .ok (.arraylength, 1) := by decide +kernel
theorem dJ1_toChars_9d188_11 : decode cJ1_toChars_9d188 11 = .ok (.invokestatic 13, 3) := by decide +kernel
theorem dJ1_toChars_9d188_14 : decode cJ1_toChars_9d188 14 = .ok (.aload_n 1, 1) := by decide +kernel
theorem dJ1_toChars_9d188_15 : decode cJ1_toChars_9d188 15 = .ok (.areturn, 1) := by decide +kernel
theorem dJ1_inflate_03870_0 : decode cJ1_inflate_03870 0 = .ok (.iconst 0, 1) := by decide +kernel
theorem dJ1_inflate_03870_1 : decode cJ1_inflate_03870 1 = .ok (.istore 5, 2) := by decide +kernel
theorem dJ1_inflate_03870_3 : decode cJ1_inflate_03870 3 = .ok (.iload 5, 2) := by decide +kernel
theorem dJ1_inflate_03870_5 : decode cJ1_inflate_03870 5 = .ok (.iload 4, 2) := by decide +kernel
theorem dJ1_inflate_03870_7 : decode cJ1_inflate_03870 7 = .ok (.if_icmp .ge 26, 3) := by decide +kernel
theorem dJ1_inflate_03870_10 : decode cJ1_inflate_03870 10 = .ok (.aload_n 2, 1) := by decide +kernel
theorem dJ1_inflate_03870_11 : decode cJ1_inflate_03870 11 = .ok (.iload_n 3, 1) := by decide +kernel
theorem dJ1_inflate_03870_12 : decode cJ1_inflate_03870 12 = .ok (.iinc 3 1, 3) := by decide +kernel
theorem dJ1_inflate_03870_15 : decode cJ1_inflate_03870 15 = .ok (.aload_n 0, 1) := by decide +kernel
theorem dJ1_inflate_03870_16 : decode cJ1_inflate_03870 16 = .ok (.iload_n 1, 1) := by decide +kernel
theorem dJ1_inflate_03870_17 : decode cJ1_inflate_03870 17 = .ok (.iinc 1 1, 3) := by decide +kernel
theorem dJ1_inflate_03870_20 : decode cJ1_inflate_03870 20 = .ok (.baload, 1) := by decide +kernel
theorem dJ1_inflate_03870_21 : decode cJ1_inflate_03870 21 = .ok (.sipush 255, 3) := by decide +kernel
theorem dJ1_inflate_03870_24 : decode cJ1_inflate_03870 24 = .ok (.iand, 1) := by decide +kernel
theorem dJ1_inflate_03870_25 : decode cJ1_inflate_03870 25 = .ok (.i2c, 1) := by decide +kernel
theorem dJ1_inflate_03870_26 : decode cJ1_inflate_03870 26 = .ok (.castore, 1) := by decide +kernel
theorem dJ1_inflate_03870_27 : decode cJ1_inflate_03870 27 = .ok (.iinc 5 1, 3) := by decide +kernel
theorem dJ1_inflate_03870_30 : decode cJ1_inflate_03870 30 = .ok (.goto (-27), 3) := by decide +kernel
theorem dJ1_inflate_03870_33 : decode cJ1_inflate_03870 33 = .ok (.return_, 1) := by decide +kernel
theorem dL_law_0 : decode cL_law 0 = .ok (.new 7, 3) := by decide +kernel
theorem dL_law_3 : decode cL_law 3 = .ok (.dup, 1) := by decide +kernel
theorem dL_law_4 : decode cL_law 4 = .ok (.invokespecial 9, 3) := by decide +kernel
theorem dL_law_7 : decode cL_law 7 = .ok (.astore_n 1, 1) := by decide +kernel
theorem dL_law_8 : decode cL_law 8 = .ok (.new 10, 3) := by decide +kernel
theorem dL_law_11 : decode cL_law 11 = .ok (.dup, 1) := by decide +kernel
theorem dL_law_12 : decode cL_law 12 = .ok (.invokespecial 12, 3) := by decide +kernel
theorem dL_law_15 : decode cL_law 15 = .ok (.astore_n 2, 1) := by decide +kernel
theorem dL_law_16 : decode cL_law 16 = .ok (.iconst 0, 1) := by decide +kernel
theorem dL_law_17 : decode cL_law 17 = .ok (.istore_n 3, 1) := by decide +kernel
theorem dL_law_18 : decode cL_law 18 = .ok (.iload_n 3, 1) := by decide +kernel
theorem dL_law_19 : decode cL_law 19 = .ok (.aload_n 0, 1) := by decide +kernel
theorem dL_law_20 : decode cL_law 20 = .ok (.arraylength, 1) := by decide +kernel
theorem dL_law_21 : decode cL_law 21 = .ok (.iconst 4, 1) := by decide +kernel
theorem dL_law_22 : decode cL_law 22 = .ok (.isub, 1) := by decide +kernel
theorem dL_law_23 : decode cL_law 23 = .ok (.if_icmp .gt 220, 3) := by decide +kernel
theorem dL_law_26 : decode cL_law 26 = .ok (.aload_n 0, 1) := by decide +kernel
theorem dL_law_27 : decode cL_law 27 = .ok (.iload_n 3, 1) := by decide +kernel
theorem dL_law_28 : decode cL_law 28 = .ok (.iaload, 1) := by decide +kernel
theorem dL_law_29 : decode cL_law 29 = .ok (.bipush 7, 2) := by decide +kernel
theorem dL_law_31 : decode cL_law 31 = .ok (.iand, 1) := by decide +kernel
theorem dL_law_32 : decode cL_law 32 = .ok (.tableswitch 205 0 6 #[44, 107, 120, 133, 156, 179, 192], 44) := by decide +kernel
theorem dL_law_76 : decode cL_law 76 = .ok (.aload_n 1, 1) := by decide +kernel
theorem dL_law_77 : decode cL_law 77 = .ok (.aload_n 0, 1) := by decide +kernel
theorem dL_law_78 : decode cL_law 78 = .ok (.iload_n 3, 1) := by decide +kernel
theorem dL_law_79 : decode cL_law 79 = .ok (.iconst 1, 1) := by decide +kernel
theorem dL_law_80 : decode cL_law 80 = .ok (.iadd, 1) := by decide +kernel
theorem dL_law_81 : decode cL_law 81 = .ok (.iaload, 1) := by decide +kernel
theorem dL_law_82 : decode cL_law 82 = .ok (.i2l, 1) := by decide +kernel
theorem dL_law_83 : decode cL_law 83 = .ok (.bipush 32, 2) := by decide +kernel
theorem dL_law_85 : decode cL_law 85 = .ok (.lshl, 1) := by decide +kernel
theorem dL_law_86 : decode cL_law 86 = .ok (.aload_n 0, 1) := by decide +kernel
theorem dL_law_87 : decode cL_law 87 = .ok (.iload_n 3, 1) := by decide +kernel
theorem dL_law_88 : decode cL_law 88 = .ok (.iconst 2, 1) := by decide +kernel
theorem dL_law_89 : decode cL_law 89 = .ok (.iadd, 1) := by decide +kernel
theorem dL_law_90 : decode cL_law 90 = .ok (.iaload, 1) := by decide +kernel
theorem dL_law_91 : decode cL_law 91 = .ok (.i2l, 1) := by decide +kernel
theorem dL_law_92 : decode cL_law 92 = .ok (.ldc2_w 13, 3) := by decide +kernel
theorem dL_law_95 : decode cL_law 95 = .ok (.land, 1) := by decide +kernel
theorem dL_law_96 : decode cL_law 96 = .ok (.lor, 1) := by decide +kernel
theorem dL_law_97 : decode cL_law 97 = .ok (.aload_n 0, 1) := by decide +kernel
theorem dL_law_98 : decode cL_law 98 = .ok (.iload_n 3, 1) := by decide +kernel
theorem dL_law_99 : decode cL_law 99 = .ok (.iconst 3, 1) := by decide +kernel
theorem dL_law_100 : decode cL_law 100 = .ok (.iadd, 1) := by decide +kernel
theorem dL_law_101 : decode cL_law 101 = .ok (.iaload, 1) := by decide +kernel
theorem dL_law_102 : decode cL_law 102 = .ok (.invokevirtual 15, 3) := by decide +kernel
theorem dL_law_105 : decode cL_law 105 = .ok (.aload_n 2, 1) := by decide +kernel
theorem dL_law_106 : decode cL_law 106 = .ok (.aload_n 0, 1) := by decide +kernel
theorem dL_law_107 : decode cL_law 107 = .ok (.iload_n 3, 1) := by decide +kernel
theorem dL_law_108 : decode cL_law 108 = .ok (.iconst 1, 1) := by decide +kernel
theorem dL_law_109 : decode cL_law 109 = .ok (.iadd, 1) := by decide +kernel
theorem dL_law_110 : decode cL_law 110 = .ok (.iaload, 1) := by decide +kernel
theorem dL_law_111 : decode cL_law 111 = .ok (.i2l, 1) := by decide +kernel
theorem dL_law_112 : decode cL_law 112 = .ok (.bipush 32, 2) := by decide +kernel
theorem dL_law_114 : decode cL_law 114 = .ok (.lshl, 1) := by decide +kernel
theorem dL_law_115 : decode cL_law 115 = .ok (.aload_n 0, 1) := by decide +kernel
theorem dL_law_116 : decode cL_law 116 = .ok (.iload_n 3, 1) := by decide +kernel
theorem dL_law_117 : decode cL_law 117 = .ok (.iconst 2, 1) := by decide +kernel
theorem dL_law_118 : decode cL_law 118 = .ok (.iadd, 1) := by decide +kernel
theorem dL_law_119 : decode cL_law 119 = .ok (.iaload, 1) := by decide +kernel
theorem dL_law_120 : decode cL_law 120 = .ok (.i2l, 1) := by decide +kernel
theorem dL_law_121 : decode cL_law 121 = .ok (.ldc2_w 13, 3) := by decide +kernel
theorem dL_law_124 : decode cL_law 124 = .ok (.land, 1) := by decide +kernel
theorem dL_law_125 : decode cL_law 125 = .ok (.lor, 1) := by decide +kernel
theorem dL_law_126 : decode cL_law 126 = .ok (.aload_n 0, 1) := by decide +kernel
theorem dL_law_127 : decode cL_law 127 = .ok (.iload_n 3, 1) := by decide +kernel
theorem dL_law_128 : decode cL_law 128 = .ok (.iconst 3, 1) := by decide +kernel
theorem dL_law_129 : decode cL_law 129 = .ok (.iadd, 1) := by decide +kernel
theorem dL_law_130 : decode cL_law 130 = .ok (.iaload, 1) := by decide +kernel
theorem dL_law_131 : decode cL_law 131 = .ok (.invokevirtual 19, 3) := by decide +kernel
theorem dL_law_134 : decode cL_law 134 = .ok (.if_icmp .eq 103, 3) := by decide +kernel
theorem dL_law_137 : decode cL_law 137 = .ok (.iconst 0, 1) := by decide +kernel
theorem dL_law_138 : decode cL_law 138 = .ok (.ireturn, 1) := by decide +kernel
theorem dL_law_139 : decode cL_law 139 = .ok (.aload_n 1, 1) := by decide +kernel
theorem dL_law_140 : decode cL_law 140 = .ok (.invokevirtual 20, 3) := by decide +kernel
theorem dL_law_143 : decode cL_law 143 = .ok (.aload_n 2, 1) := by decide +kernel
theorem dL_law_144 : decode cL_law 144 = .ok (.invokevirtual 24, 3) := by decide +kernel
theorem dL_law_147 : decode cL_law 147 = .ok (.if_icmp .eq 90, 3) := by decide +kernel
theorem dL_law_150 : decode cL_law 150 = .ok (.iconst 0, 1) := by decide +kernel
theorem dL_law_151 : decode cL_law 151 = .ok (.ireturn, 1) := by decide +kernel
theorem dL_law_152 : decode cL_law 152 = .ok (.aload_n 1, 1) := by decide +kernel
theorem dL_law_153 : decode cL_law 153 = .ok (.invokevirtual 25, 3) := by decide +kernel
theorem dL_law_156 : decode cL_law 156 = .ok (.aload_n 2, 1) := by decide +kernel
theorem dL_law_157 : decode cL_law 157 = .ok (.invokevirtual 28, 3) := by decide +kernel
theorem dL_law_160 : decode cL_law 160 = .ok (.if_icmp .eq 77, 3) := by decide +kernel
theorem dL_law_163 : decode cL_law 163 = .ok (.iconst 0, 1) := by decide +kernel
theorem dL_law_164 : decode cL_law 164 = .ok (.ireturn, 1) := by decide +kernel
theorem dL_law_165 : decode cL_law 165 = .ok (.aload_n 1, 1) := by decide +kernel
theorem dL_law_166 : decode cL_law 166 = .ok (.aload_n 0, 1) := by decide +kernel
theorem dL_law_167 : decode cL_law 167 = .ok (.iload_n 3, 1) := by decide +kernel
theorem dL_law_168 : decode cL_law 168 = .ok (.iconst 1, 1) := by decide +kernel
theorem dL_law_169 : decode cL_law 169 = .ok (.iadd, 1) := by decide +kernel
theorem dL_law_170 : decode cL_law 170 = .ok (.iaload, 1) := by decide +kernel
theorem dL_law_171 : decode cL_law 171 = .ok (.invokevirtual 29, 3) := by decide +kernel
theorem dL_law_174 : decode cL_law 174 = .ok (.aload_n 2, 1) := by decide +kernel
theorem dL_law_175 : decode cL_law 175 = .ok (.aload_n 0, 1) := by decide +kernel
theorem dL_law_176 : decode cL_law 176 = .ok (.iload_n 3, 1) := by decide +kernel
theorem dL_law_177 : decode cL_law 177 = .ok (.iconst 1, 1) := by decide +kernel
theorem dL_law_178 : decode cL_law 178 = .ok (.iadd, 1) := by decide +kernel
theorem dL_law_179 : decode cL_law 179 = .ok (.iaload, 1) := by decide +kernel
theorem dL_law_180 : decode cL_law 180 = .ok (.invokevirtual 33, 3) := by decide +kernel
theorem dL_law_183 : decode cL_law 183 = .ok (.if_icmp .eq 54, 3) := by decide +kernel
theorem dL_law_186 : decode cL_law 186 = .ok (.iconst 0, 1) := by decide +kernel
theorem dL_law_187 : decode cL_law 187 = .ok (.ireturn, 1) := by decide +kernel
theorem dL_law_188 : decode cL_law 188 = .ok (.aload_n 1, 1) := by decide +kernel
theorem dL_law_189 : decode cL_law 189 = .ok (.aload_n 0, 1) := by decide +kernel
theorem dL_law_190 : decode cL_law 190 = .ok (.iload_n 3, 1) := by decide +kernel
theorem dL_law_191 : decode cL_law 191 = .ok (.iconst 1, 1) := by decide +kernel
theorem dL_law_192 : decode cL_law 192 = .ok (.iadd, 1) := by decide +kernel
theorem dL_law_193 : decode cL_law 193 = .ok (.iaload, 1) := by decide +kernel
theorem dL_law_194 : decode cL_law 194 = .ok (.invokevirtual 34, 3) := by decide +kernel
theorem dL_law_197 : decode cL_law 197 = .ok (.aload_n 2, 1) := by decide +kernel
theorem dL_law_198 : decode cL_law 198 = .ok (.aload_n 0, 1) := by decide +kernel
theorem dL_law_199 : decode cL_law 199 = .ok (.iload_n 3, 1) := by decide +kernel
theorem dL_law_200 : decode cL_law 200 = .ok (.iconst 1, 1) := by decide +kernel
theorem dL_law_201 : decode cL_law 201 = .ok (.iadd, 1) := by decide +kernel
theorem dL_law_202 : decode cL_law 202 = .ok (.iaload, 1) := by decide +kernel
theorem dL_law_203 : decode cL_law 203 = .ok (.invokevirtual 37, 3) := by decide +kernel
theorem dL_law_206 : decode cL_law 206 = .ok (.if_icmp .eq 31, 3) := by decide +kernel
theorem dL_law_209 : decode cL_law 209 = .ok (.iconst 0, 1) := by decide +kernel
theorem dL_law_210 : decode cL_law 210 = .ok (.ireturn, 1) := by decide +kernel
theorem dL_law_211 : decode cL_law 211 = .ok (.aload_n 1, 1) := by decide +kernel
theorem dL_law_212 : decode cL_law 212 = .ok (.invokevirtual 38, 3) := by decide +kernel
theorem dL_law_215 : decode cL_law 215 = .ok (.aload_n 2, 1) := by decide +kernel
theorem dL_law_216 : decode cL_law 216 = .ok (.invokevirtual 41, 3) := by decide +kernel
theorem dL_law_219 : decode cL_law 219 = .ok (.if_icmp .eq 18, 3) := by decide +kernel
theorem dL_law_222 : decode cL_law 222 = .ok (.iconst 0, 1) := by decide +kernel
theorem dL_law_223 : decode cL_law 223 = .ok (.ireturn, 1) := by decide +kernel
theorem dL_law_224 : decode cL_law 224 = .ok (.aload_n 1, 1) := by decide +kernel
theorem dL_law_225 : decode cL_law 225 = .ok (.invokevirtual 42, 3) := by decide +kernel
theorem dL_law_228 : decode cL_law 228 = .ok (.aload_n 2, 1) := by decide +kernel
theorem dL_law_229 : decode cL_law 229 = .ok (.invokevirtual 45, 3) := by decide +kernel
theorem dL_law_232 : decode cL_law 232 = .ok (.if_icmp .eq 5, 3) := by decide +kernel
theorem dL_law_235 : decode cL_law 235 = .ok (.iconst 0, 1) := by decide +kernel
theorem dL_law_236 : decode cL_law 236 = .ok (.ireturn, 1) := by decide +kernel
theorem dL_law_237 : decode cL_law 237 = .ok (.iinc 3 4, 3) := by decide +kernel
theorem dL_law_240 : decode cL_law 240 = .ok (.goto (-222), 3) := by decide +kernel
theorem dL_law_243 : decode cL_law 243 = .ok (.iconst 1, 1) := by decide +kernel
theorem dL_law_244 : decode cL_law 244 = .ok (.ireturn, 1) := by decide +kernel
