theorem dX0_init_0 : decode cX0_init 0 = .ok (.aload_n 0, 1) := by decide +kernel
theorem dX0_init_1 : decode cX0_init 1 = .ok (.invokespecial 3, 3) := by decide +kernel
theorem dX0_init_4 : decode cX0_init 4 = .ok (.aload_n 0, 1) := by decide +kernel
theorem dX0_init_5 : decode cX0_init 5 = .ok (.new 9, 3) := by decide +kernel
theorem dX0_init_8 : decode cX0_init 8 = .ok (.dup, 1) := by decide +kernel
theorem dX0_init_9 : decode cX0_init 9 = .ok (.invokespecial 11, 3) := by decide +kernel
theorem dX0_init_12 : decode cX0_init 12 = .ok (.putfield 12, 3) := by decide +kernel
theorem dX0_init_15 : decode cX0_init 15 = .ok (.aload_n 0, 1) := by decide +kernel
theorem dX0_init_16 : decode cX0_init 16 = .ok (.iconst 0, 1) := by decide +kernel
theorem dX0_init_17 : decode cX0_init 17 = .ok (.putfield 18, 3) := by decide +kernel
theorem dX0_init_20 : decode cX0_init 20 = .ok (.aload_n 0, 1) := by decide +kernel
theorem dX0_init_21 : decode cX0_init 21 = .ok (.iconst (-1), 1) := by decide +kernel
theorem dX0_init_22 : decode cX0_init 22 = .ok (.putfield 22, 3) := by decide +kernel
theorem dX0_init_25 : decode cX0_init 25 = .ok (.aload_n 0, 1) := by decide +kernel
theorem dX0_init_26 : decode cX0_init 26 = .ok (.iconst 0, 1) := by decide +kernel
theorem dX0_init_27 : decode cX0_init 27 = .ok (.putfield 25, 3) := by decide +kernel
theorem dX0_init_30 : decode cX0_init 30 = .ok (.aload_n 0, 1) := by decide +kernel
theorem dX0_init_31 : decode cX0_init 31 = .ok (.iconst (-1), 1) := by decide +kernel
theorem dX0_init_32 : decode cX0_init 32 = .ok (.putfield 28, 3) := by decide +kernel
theorem dX0_init_35 : decode cX0_init 35 = .ok (.aload_n 0, 1) := by decide +kernel
theorem dX0_init_36 : decode cX0_init 36 = .ok (.iconst 0, 1) := by decide +kernel
theorem dX0_init_37 : decode cX0_init 37 = .ok (.putfield 31, 3) := by decide +kernel
theorem dX0_init_40 : decode cX0_init 40 = .ok (.aload_n 0, 1) := by decide +kernel
theorem dX0_init_41 : decode cX0_init 41 = .ok (.iconst 0, 1) := by decide +kernel
theorem dX0_init_42 : decode cX0_init 42 = .ok (.putfield 34, 3) := by decide +kernel
theorem dX0_init_45 : decode cX0_init 45 = .ok (.aload_n 0, 1) := by decide +kernel
theorem dX0_init_46 : decode cX0_init 46 = .ok (.iconst 0, 1) := by decide +kernel
theorem dX0_init_47 : decode cX0_init 47 = .ok (.putfield 37, 3) := by decide +kernel
theorem dX0_init_50 : decode cX0_init 50 = .ok (.new 40, 3) := by decide +kernel
theorem dX0_init_53 : decode cX0_init 53 = .ok (.dup, 1) := by decide +kernel
theorem dX0_init_54 : decode cX0_init 54 = .ok (.invokespecial 42, 3) := by decide +kernel
theorem dX0_init_57 : decode cX0_init 57 = .ok (.astore 4, 2) := by decide +kernel
theorem dX0_init_59 : decode cX0_init 59 = .ok (.aload_n 0, 1) := by decide +kernel
theorem dX0_init_60 : decode cX0_init 60 = .ok (.aload_n 1, 1) := by decide +kernel
theorem dX0_init_61 : decode cX0_init 61 = .ok (.putfield 43, 3) := by decide +kernel
theorem dX0_init_64 : decode cX0_init 64 = .ok (.aload_n 0, 1) := by decide +kernel
theorem dX0_init_65 : decode cX0_init 65 = .ok (.aload_n 2, 1) := by decide +kernel
theorem dX0_init_66 : decode cX0_init 66 = .ok (.putfield 47, 3) := by decide +kernel
theorem dX0_init_69 : decode cX0_init 69 = .ok (.aload_n 0, 1) := by decide +kernel
theorem dX0_init_70 : decode cX0_init 70 = .ok (.aload_n 3, 1) := by decide +kernel
theorem dX0_init_71 : decode cX0_init 71 = .ok (.putfield 51, 3) := by decide +kernel
theorem dX0_init_74 : decode cX0_init 74 = .ok (.aload_n 0, 1) := by decide +kernel
theorem dX0_init_75 : decode cX0_init 75 = .ok (.new 55, 3) := by decide +kernel
theorem dX0_init_78 : decode cX0_init 78 = .ok (.dup, 1) := by decide +kernel
theorem dX0_init_79 : decode cX0_init 79 = .ok (.aload_n 2, 1) := by decide +kernel
theorem dX0_init_80 : decode cX0_init 80 = .ok (.invokespecial 57, 3) := by decide +kernel
theorem dX0_init_83 : decode cX0_init 83 = .ok (.putfield 60, 3) := by decide +kernel
theorem dX0_init_86 : decode cX0_init 86 = .ok (.aload_n 0, 1) := by decide +kernel
theorem dX0_init_87 : decode cX0_init 87 = .ok (.new 64, 3) := by decide +kernel
theorem dX0_init_90 : decode cX0_init 90 = .ok (.dup, 1) := by decide +kernel
theorem dX0_init_91 : decode cX0_init 91 = .ok (.aload_n 1, 1) := by decide +kernel
theorem dX0_init_92 : decode cX0_init 92 = .ok (.aload_n 2, 1) := by decide +kernel
theorem dX0_init_93 : decode cX0_init 93 = .ok (.aload_n 0, 1) := by decide +kernel
theorem dX0_init_94 : decode cX0_init 94 = .ok (.getfield 60, 3) := by decide +kernel
theorem dX0_init_97 : decode cX0_init 97 = .ok (.invokespecial 66, 3) := by decide +kernel
theorem dX0_init_100 : decode cX0_init 100 = .ok (.putfield 69, 3) := by decide +kernel
theorem dX0_init_103 : decode cX0_init 103 = .ok (.aload_n 0, 1) := by decide +kernel
theorem dX0_init_104 : decode cX0_init 104 = .ok (.new 73, 3) := by decide +kernel
theorem dX0_init_107 : decode cX0_init 107 = .ok (.dup, 1) := by decide +kernel
theorem dX0_init_108 : decode cX0_init 108 = .ok (.aload_n 1, 1) := by decide +kernel
theorem dX0_init_109 : decode cX0_init 109 = .ok (.aload_n 2, 1) := by decide +kernel
theorem dX0_init_110 : decode cX0_init 110 = .ok (.aload_n 0, 1) := by decide +kernel
theorem dX0_init_111 : decode cX0_init 111 = .ok (.getfield 60, 3) := by decide +kernel
theorem dX0_init_114 : decode cX0_init 114 = .ok (.aload 4, 2) := by decide +kernel
theorem dX0_init_116 : decode cX0_init 116 = .ok (.invokespecial 75, 3) := by decide +kernel
theorem dX0_init_119 : decode cX0_init 119 = .ok (.putfield 78, 3) := by decide +kernel
theorem dX0_init_122 : decode cX0_init 122 = .ok (.aload_n 0, 1) := by decide +kernel
theorem dX0_init_123 : decode cX0_init 123 = .ok (.new 82, 3) := by decide +kernel
theorem dX0_init_126 : decode cX0_init 126 = .ok (.dup, 1) := by decide +kernel
theorem dX0_init_127 : decode cX0_init 127 = .ok (.aload_n 1, 1) := by decide +kernel
theorem dX0_init_128 : decode cX0_init 128 = .ok (.aload_n 2, 1) := by decide +kernel
theorem dX0_init_129 : decode cX0_init 129 = .ok (.aload 4, 2) := by decide +kernel
theorem dX0_init_131 : decode cX0_init 131 = .ok (.invokespecial 84, 3) := by decide +kernel
theorem dX0_init_134 : decode cX0_init 134 = .ok (.putfield 87, 3) := by decide +kernel
theorem dX0_init_137 : decode cX0_init 137 = .ok (.return_, 1) := by decide +kernel
theorem dX0_tellText_0 : decode cX0_tellText 0 = .ok (.aload_n 0, 1) := by decide +kernel
theorem dX0_tellText_1 : decode cX0_tellText 1 = .ok (.invokevirtual 91, 3) := by decide +kernel
theorem dX0_tellText_4 : decode cX0_tellText 4 = .ok (.aload_n 0, 1) := by decide +kernel
theorem dX0_tellText_5 : decode cX0_tellText 5 = .ok (.getfield 43, 3) := by decide +kernel
theorem dX0_tellText_8 : decode cX0_tellText 8 = .ok (.getfield 94, 3) := by decide +kernel
theorem dX0_tellText_11 : decode cX0_tellText 11 = .ok (.istore_n 1, 1) := by decide +kernel
theorem dX0_tellText_12 : decode cX0_tellText 12 = .ok (.iconst 0, 1) := by decide +kernel
theorem dX0_tellText_13 : decode cX0_tellText 13 = .ok (.istore_n 2, 1) := by decide +kernel
theorem dX0_tellText_14 : decode cX0_tellText 14 = .ok (.iload_n 2, 1) := by decide +kernel
theorem dX0_tellText_15 : decode cX0_tellText 15 = .ok (.ldc 99, 2) := by decide +kernel
theorem dX0_tellText_17 : decode cX0_tellText 17 = .ok (.if_icmp .ge 144, 3) := by decide +kernel
theorem dX0_tellText_20 : decode cX0_tellText 20 = .ok (.aload_n 0, 1) := by decide +kernel
theorem dX0_tellText_21 : decode cX0_tellText 21 = .ok (.getfield 25, 3) := by decide +kernel
theorem dX0_tellText_24 : decode cX0_tellText 24 = .ok (.ifCond .ne 137, 3) := by decide +kernel
theorem dX0_tellText_27 : decode cX0_tellText 27 = .ok (.aload_n 0, 1) := by decide +kernel
theorem dX0_tellText_28 : decode cX0_tellText 28 = .ok (.getfield 12, 3) := by decide +kernel
theorem dX0_tellText_31 : decode cX0_tellText 31 = .ok (.getfield 100, 3) := by decide +kernel
theorem dX0_tellText_34 : decode cX0_tellText 34 = .ok (.ifCond .gt 11, 3) := by decide +kernel
theorem dX0_tellText_37 : decode cX0_tellText 37 = .ok (.aload_n 0, 1) := by decide +kernel
theorem dX0_tellText_38 : decode cX0_tellText 38 = .ok (.getfield 18, 3) := by decide +kernel
theorem dX0_tellText_41 : decode cX0_tellText 41 = .ok (.iload_n 1, 1) := by decide +kernel
theorem dX0_tellText_42 : decode cX0_tellText 42 = .ok (.if_icmp .ge 119, 3) := by decide +kernel
theorem dX0_tellText_45 : decode cX0_tellText 45 = .ok (.aload_n 0, 1) := by decide +kernel
theorem dX0_tellText_46 : decode cX0_tellText 46 = .ok (.getfield 12, 3) := by decide +kernel
theorem dX0_tellText_49 : decode cX0_tellText 49 = .ok (.getfield 100, 3) := by decide +kernel
theorem dX0_tellText_52 : decode cX0_tellText 52 = .ok (.ifCond .le 10, 3) := by decide +kernel
theorem dX0_tellText_55 : decode cX0_tellText 55 = .ok (.aload_n 0, 1) := by decide +kernel
theorem dX0_tellText_56 : decode cX0_tellText 56 = .ok (.invokevirtual 101, 3) := by decide +kernel
theorem dX0_tellText_59 : decode cX0_tellText 59 = .ok (.goto 7, 3) := by decide +kernel
theorem dX0_tellText_62 : decode cX0_tellText 62 = .ok (.aload_n 0, 1) := by decide +kernel
theorem dX0_tellText_63 : decode cX0_tellText 63 = .ok (.invokevirtual 105, 3) := by decide +kernel
theorem dX0_tellText_66 : decode cX0_tellText 66 = .ok (.istore_n 3, 1) := by decide +kernel
theorem dX0_tellText_67 : decode cX0_tellText 67 = .ok (.iload_n 3, 1) := by decide +kernel
theorem dX0_tellText_68 : decode cX0_tellText 68 = .ok (.iconst (-1), 1) := by decide +kernel
theorem dX0_tellText_69 : decode cX0_tellText 69 = .ok (.if_icmp .ne 6, 3) := by decide +kernel
theorem dX0_tellText_72 : decode cX0_tellText 72 = .ok (.goto 83, 3) := by decide +kernel
theorem dX0_tellText_75 : decode cX0_tellText 75 = .ok (.aload_n 0, 1) := by decide +kernel
theorem dX0_tellText_76 : decode cX0_tellText 76 = .ok (.iload_n 3, 1) := by decide +kernel
theorem dX0_tellText_77 : decode cX0_tellText 77 = .ok (.invokevirtual 108, 3) := by decide +kernel
theorem dX0_tellText_80 : decode cX0_tellText 80 = .ok (.istore 4, 2) := by decide +kernel
theorem dX0_tellText_82 : decode cX0_tellText 82 = .ok (.aload_n 0, 1) := by decide +kernel
theorem dX0_tellText_83 : decode cX0_tellText 83 = .ok (.getfield 43, 3) := by decide +kernel
theorem dX0_tellText_86 : decode cX0_tellText 86 = .ok (.iload_n 3, 1) := by decide +kernel
theorem dX0_tellText_87 : decode cX0_tellText 87 = .ok (.invokevirtual 112, 3) := by decide +kernel
theorem dX0_tellText_90 : decode cX0_tellText 90 = .ok (.ifCond .ne 11, 3) := by decide +kernel
theorem dX0_tellText_93 : decode cX0_tellText 93 = .ok (.aload_n 0, 1) := by decide +kernel
theorem dX0_tellText_94 : decode cX0_tellText 94 = .ok (.iload_n 3, 1) := by decide +kernel
theorem dX0_tellText_95 : decode cX0_tellText 95 = .ok (.invokevirtual 116, 3) := by decide +kernel
theorem dX0_tellText_98 : decode cX0_tellText 98 = .ok (.goto 57, 3) := by decide +kernel
theorem dX0_tellText_101 : decode cX0_tellText 101 = .ok (.aload_n 0, 1) := by decide +kernel
theorem dX0_tellText_102 : decode cX0_tellText 102 = .ok (.iload_n 3, 1) := by decide +kernel
theorem dX0_tellText_103 : decode cX0_tellText 103 = .ok (.invokevirtual 120, 3) := by decide +kernel
theorem dX0_tellText_106 : decode cX0_tellText 106 = .ok (.ifCond .ne 6, 3) := by decide +kernel
theorem dX0_tellText_109 : decode cX0_tellText 109 = .ok (.goto 52, 3) := by decide +kernel
theorem dX0_tellText_112 : decode cX0_tellText 112 = .ok (.iload 4, 2) := by decide +kernel
theorem dX0_tellText_114 : decode cX0_tellText 114 = .ok (.invokestatic 123, 3) := by decide +kernel
theorem dX0_tellText_117 : decode cX0_tellText 117 = .ok (.ifCond .eq 13, 3) := by decide +kernel
theorem dX0_tellText_120 : decode cX0_tellText 120 = .ok (.aload_n 0, 1) := by decide +kernel
theorem dX0_tellText_121 : decode cX0_tellText 121 = .ok (.iload_n 3, 1) := by decide +kernel
theorem dX0_tellText_122 : decode cX0_tellText 122 = .ok (.iload 4, 2) := by decide +kernel
theorem dX0_tellText_124 : decode cX0_tellText 124 = .ok (.invokevirtual 126, 3) := by decide +kernel
theorem dX0_tellText_127 : decode cX0_tellText 127 = .ok (.goto 28, 3) := by decide +kernel
theorem dX0_tellText_130 : decode cX0_tellText 130 = .ok (.iload 4, 2) := by decide +kernel
theorem dX0_tellText_132 : decode cX0_tellText 132 = .ok (.invokestatic 130, 3) := by decide +kernel
theorem dX0_tellText_135 : decode cX0_tellText 135 = .ok (.ifCond .eq 15, 3) := by decide +kernel
theorem dX0_tellText_138 : decode cX0_tellText 138 = .ok (.aload_n 0, 1) := by decide +kernel
theorem dX0_tellText_139 : decode cX0_tellText 139 = .ok (.iload_n 3, 1) := by decide +kernel
theorem dX0_tellText_140 : decode cX0_tellText 140 = .ok (.iload 4, 2) := by decide +kernel
theorem dX0_tellText_142 : decode cX0_tellText 142 = .ok (.iconst 2, 1) := by decide +kernel
theorem dX0_tellText_143 : decode cX0_tellText 143 = .ok (.ishr, 1) := by decide +kernel
theorem dX0_tellText_144 : decode cX0_tellText 144 = .ok (.invokevirtual 133, 3) := by decide +kernel
theorem dX0_tellText_147 : decode cX0_tellText 147 = .ok (.goto 8, 3) := by decide +kernel
theorem dX0_tellText_150 : decode cX0_tellText 150 = .ok (.aload_n 0, 1) := by decide +kernel
theorem dX0_tellText_151 : decode cX0_tellText 151 = .ok (.iload_n 3, 1) := by decide +kernel
theorem dX0_tellText_152 : decode cX0_tellText 152 = .ok (.invokevirtual 136, 3) := by decide +kernel
theorem dX0_tellText_155 : decode cX0_tellText 155 = .ok (.iinc 2 1, 3) := by decide +kernel
theorem dX0_tellText_158 : decode cX0_tellText 158 = .ok (.goto (-144), 3) := by decide +kernel
theorem dX0_tellText_161 : decode cX0_tellText 161 = .ok (.aload_n 0, 1) := by decide +kernel
theorem dX0_tellText_162 : decode cX0_tellText 162 = .ok (.getfield 60, 3) := by decide +kernel
theorem dX0_tellText_165 : decode cX0_tellText 165 = .ok (.iconst 0, 1) := by decide +kernel
theorem dX0_tellText_166 : decode cX0_tellText 166 = .ok (.invokevirtual 139, 3) := by decide +kernel
theorem dX0_tellText_169 : decode cX0_tellText 169 = .ok (.aload_n 0, 1) := by decide +kernel
theorem dX0_tellText_170 : decode cX0_tellText 170 = .ok (.getfield 25, 3) := by decide +kernel
theorem dX0_tellText_173 : decode cX0_tellText 173 = .ok (.ifCond .ne 20, 3) := by decide +kernel
theorem dX0_tellText_176 : decode cX0_tellText 176 = .ok (.aload_n 0, 1) := by decide +kernel
theorem dX0_tellText_177 : decode cX0_tellText 177 = .ok (.getfield 51, 3) := by decide +kernel
theorem dX0_tellText_180 : decode cX0_tellText 180 = .ok (.getfield 142, 3) := by decide +kernel
theorem dX0_tellText_183 : decode cX0_tellText 183 = .ok (.sipush 4000, 3) := by decide +kernel
theorem dX0_tellText_186 : decode cX0_tellText 186 = .ok (.if_icmp .le 7, 3) := by decide +kernel
theorem dX0_tellText_189 : decode cX0_tellText 189 = .ok (.iconst 2, 1) := by decide +kernel
theorem dX0_tellText_190 : decode cX0_tellText 190 = .ok (.goto 7, 3) := by decide +kernel
theorem dX0_tellText_193 : decode cX0_tellText 193 = .ok (.aload_n 0, 1) := by decide +kernel
theorem dX0_tellText_194 : decode cX0_tellText 194 = .ok (.getfield 25, 3) := by decide +kernel
theorem dX0_tellText_197 : decode cX0_tellText 197 = .ok (.ireturn, 1) := by decide +kernel
theorem dX0_startText_0 : decode cX0_startText 0 = .ok (.aload_n 0, 1) := by decide +kernel
theorem dX0_startText_1 : decode cX0_startText 1 = .ok (.sipush 4000, 3) := by decide +kernel
theorem dX0_startText_4 : decode cX0_startText 4 = .ok (.putfield 18, 3) := by decide +kernel
theorem dX0_startText_7 : decode cX0_startText 7 = .ok (.aload_n 0, 1) := by decide +kernel
theorem dX0_startText_8 : decode cX0_startText 8 = .ok (.getfield 12, 3) := by decide +kernel
theorem dX0_startText_11 : decode cX0_startText 11 = .ok (.iconst 0, 1) := by decide +kernel
theorem dX0_startText_12 : decode cX0_startText 12 = .ok (.putfield 100, 3) := by decide +kernel
theorem dX0_startText_15 : decode cX0_startText 15 = .ok (.aload_n 0, 1) := by decide +kernel
theorem dX0_startText_16 : decode cX0_startText 16 = .ok (.iconst (-1), 1) := by decide +kernel
theorem dX0_startText_17 : decode cX0_startText 17 = .ok (.putfield 22, 3) := by decide +kernel
theorem dX0_startText_20 : decode cX0_startText 20 = .ok (.aload_n 0, 1) := by decide +kernel
theorem dX0_startText_21 : decode cX0_startText 21 = .ok (.iconst 0, 1) := by decide +kernel
theorem dX0_startText_22 : decode cX0_startText 22 = .ok (.putfield 25, 3) := by decide +kernel
theorem dX0_startText_25 : decode cX0_startText 25 = .ok (.aload_n 0, 1) := by decide +kernel
theorem dX0_startText_26 : decode cX0_startText 26 = .ok (.iconst (-1), 1) := by decide +kernel
theorem dX0_startText_27 : decode cX0_startText 27 = .ok (.putfield 28, 3) := by decide +kernel
theorem dX0_startText_30 : decode cX0_startText 30 = .ok (.aload_n 0, 1) := by decide +kernel
theorem dX0_startText_31 : decode cX0_startText 31 = .ok (.iconst 0, 1) := by decide +kernel
theorem dX0_startText_32 : decode cX0_startText 32 = .ok (.putfield 31, 3) := by decide +kernel
theorem dX0_startText_35 : decode cX0_startText 35 = .ok (.aload_n 0, 1) := by decide +kernel
theorem dX0_startText_36 : decode cX0_startText 36 = .ok (.iconst 0, 1) := by decide +kernel
theorem dX0_startText_37 : decode cX0_startText 37 = .ok (.putfield 34, 3) := by decide +kernel
theorem dX0_startText_40 : decode cX0_startText 40 = .ok (.aload_n 0, 1) := by decide +kernel
theorem dX0_startText_41 : decode cX0_startText 41 = .ok (.iconst 0, 1) := by decide +kernel
theorem dX0_startText_42 : decode cX0_startText 42 = .ok (.putfield 37, 3) := by decide +kernel
theorem dX0_startText_45 : decode cX0_startText 45 = .ok (.return_, 1) := by decide +kernel
theorem dX0_nextInFrame_0 : decode cX0_nextInFrame 0 = .ok (.aload_n 0, 1) := by decide +kernel
theorem dX0_nextInFrame_1 : decode cX0_nextInFrame 1 = .ok (.getfield 12, 3) := by decide +kernel
theorem dX0_nextInFrame_4 : decode cX0_nextInFrame 4 = .ok (.aload_n 0, 1) := by decide +kernel
theorem dX0_nextInFrame_5 : decode cX0_nextInFrame 5 = .ok (.getfield 43, 3) := by decide +kernel
theorem dX0_nextInFrame_8 : decode cX0_nextInFrame 8 = .ok (.invokevirtual 147, 3) := by decide +kernel
theorem dX0_nextInFrame_11 : decode cX0_nextInFrame 11 = .ok (.istore_n 1, 1) := by decide +kernel
theorem dX0_nextInFrame_12 : decode cX0_nextInFrame 12 = .ok (.iload_n 1, 1) := by decide +kernel
theorem dX0_nextInFrame_13 : decode cX0_nextInFrame 13 = .ok (.iconst (-1), 1) := by decide +kernel
theorem dX0_nextInFrame_14 : decode cX0_nextInFrame 14 = .ok (.if_icmp .ne 7, 3) := by decide +kernel
theorem dX0_nextInFrame_17 : decode cX0_nextInFrame 17 = .ok (.aload_n 0, 1) := by decide +kernel
theorem dX0_nextInFrame_18 : decode cX0_nextInFrame 18 = .ok (.invokevirtual 151, 3) := by decide +kernel
theorem dX0_nextInFrame_21 : decode cX0_nextInFrame 21 = .ok (.iload_n 1, 1) := by decide +kernel
theorem dX0_nextInFrame_22 : decode cX0_nextInFrame 22 = .ok (.ireturn, 1) := by decide +kernel
theorem dX0_leaveFrame_0 : decode cX0_leaveFrame 0 = .ok (.aload_n 0, 1) := by decide +kernel
theorem dX0_leaveFrame_1 : decode cX0_leaveFrame 1 = .ok (.getfield 12, 3) := by decide +kernel
theorem dX0_leaveFrame_4 : decode cX0_leaveFrame 4 = .ok (.getfield 100, 3) := by decide +kernel
theorem dX0_leaveFrame_7 : decode cX0_leaveFrame 7 = .ok (.iconst 1, 1) := by decide +kernel
theorem dX0_leaveFrame_8 : decode cX0_leaveFrame 8 = .ok (.isub, 1) := by decide +kernel
theorem dX0_leaveFrame_9 : decode cX0_leaveFrame 9 = .ok (.istore_n 1, 1) := by decide +kernel
theorem dX0_leaveFrame_10 : decode cX0_leaveFrame 10 = .ok (.iload_n 1, 1) := by decide +kernel
theorem dX0_leaveFrame_11 : decode cX0_leaveFrame 11 = .ok (.ifCond .ge 4, 3) := by decide +kernel
theorem dX0_leaveFrame_14 : decode cX0_leaveFrame 14 = .ok (.return_, 1) := by decide +kernel
theorem dX0_leaveFrame_15 : decode cX0_leaveFrame 15 = .ok (.aload_n 0, 1) := by decide +kernel
theorem dX0_leaveFrame_16 : decode cX0_leaveFrame 16 = .ok (.getfield 12, 3) := by decide +kernel
theorem dX0_leaveFrame_19 : decode cX0_leaveFrame 19 = .ok (.iload_n 1, 1) := by decide +kernel
theorem dX0_leaveFrame_20 : decode cX0_leaveFrame 20 = .ok (.putfield 100, 3) := by decide +kernel
theorem dX0_leaveFrame_23 : decode cX0_leaveFrame 23 = .ok (.aload_n 0, 1) := by decide +kernel
theorem dX0_leaveFrame_24 : decode cX0_leaveFrame 24 = .ok (.getfield 12, 3) := by decide +kernel
theorem dX0_leaveFrame_27 : decode cX0_leaveFrame 27 = .ok (.getfield 154, 3) := by decide +kernel
theorem dX0_leaveFrame_30 : decode cX0_leaveFrame 30 = .ok (.iload_n 1, 1) := by decide +kernel
theorem dX0_leaveFrame_31 : decode cX0_leaveFrame 31 = .ok (.baload, 1) := by decide +kernel
theorem dX0_leaveFrame_32 : decode cX0_leaveFrame 32 = .ok (.ifCond .eq 10, 3) := by decide +kernel
theorem dX0_leaveFrame_35 : decode cX0_leaveFrame 35 = .ok (.aload_n 0, 1) := by decide +kernel
theorem dX0_leaveFrame_36 : decode cX0_leaveFrame 36 = .ok (.getfield 51, 3) := by decide +kernel
theorem dX0_leaveFrame_39 : decode cX0_leaveFrame 39 = .ok (.invokevirtual 158, 3) := by decide +kernel
theorem dX0_leaveFrame_42 : decode cX0_leaveFrame 42 = .ok (.aload_n 0, 1) := by decide +kernel
theorem dX0_leaveFrame_43 : decode cX0_leaveFrame 43 = .ok (.getfield 60, 3) := by decide +kernel
theorem dX0_leaveFrame_46 : decode cX0_leaveFrame 46 = .ok (.aload_n 0, 1) := by decide +kernel
theorem dX0_leaveFrame_47 : decode cX0_leaveFrame 47 = .ok (.getfield 12, 3) := by decide +kernel
theorem dX0_leaveFrame_50 : decode cX0_leaveFrame 50 = .ok (.getfield 161, 3) := by decide +kernel
theorem dX0_leaveFrame_53 : decode cX0_leaveFrame 53 = .ok (.iload_n 1, 1) := by decide +kernel
theorem dX0_leaveFrame_54 : decode cX0_leaveFrame 54 = .ok (.iaload, 1) := by decide +kernel
theorem dX0_leaveFrame_55 : decode cX0_leaveFrame 55 = .ok (.invokevirtual 139, 3) := by decide +kernel
theorem dX0_leaveFrame_58 : decode cX0_leaveFrame 58 = .ok (.aload_n 0, 1) := by decide +kernel
theorem dX0_leaveFrame_59 : decode cX0_leaveFrame 59 = .ok (.getfield 47, 3) := by decide +kernel
theorem dX0_leaveFrame_62 : decode cX0_leaveFrame 62 = .ok (.aload_n 0, 1) := by decide +kernel
theorem dX0_leaveFrame_63 : decode cX0_leaveFrame 63 = .ok (.getfield 12, 3) := by decide +kernel
theorem dX0_leaveFrame_66 : decode cX0_leaveFrame 66 = .ok (.getfield 165, 3) := by decide +kernel
theorem dX0_leaveFrame_69 : decode cX0_leaveFrame 69 = .ok (.iload_n 1, 1) := by decide +kernel
theorem dX0_leaveFrame_70 : decode cX0_leaveFrame 70 = .ok (.iaload, 1) := by decide +kernel
theorem dX0_leaveFrame_71 : decode cX0_leaveFrame 71 = .ok (.putfield 168, 3) := by decide +kernel
theorem dX0_leaveFrame_74 : decode cX0_leaveFrame 74 = .ok (.aload_n 0, 1) := by decide +kernel
theorem dX0_leaveFrame_75 : decode cX0_leaveFrame 75 = .ok (.getfield 43, 3) := by decide +kernel
theorem dX0_leaveFrame_78 : decode cX0_leaveFrame 78 = .ok (.aload_n 0, 1) := by decide +kernel
theorem dX0_leaveFrame_79 : decode cX0_leaveFrame 79 = .ok (.getfield 12, 3) := by decide +kernel
theorem dX0_leaveFrame_82 : decode cX0_leaveFrame 82 = .ok (.getfield 171, 3) := by decide +kernel
theorem dX0_leaveFrame_85 : decode cX0_leaveFrame 85 = .ok (.iload_n 1, 1) := by decide +kernel
theorem dX0_leaveFrame_86 : decode cX0_leaveFrame 86 = .ok (.iaload, 1) := by decide +kernel
theorem dX0_leaveFrame_87 : decode cX0_leaveFrame 87 = .ok (.putfield 94, 3) := by decide +kernel
theorem dX0_leaveFrame_90 : decode cX0_leaveFrame 90 = .ok (.iload_n 1, 1) := by decide +kernel
theorem dX0_leaveFrame_91 : decode cX0_leaveFrame 91 = .ok (.ifCond .ne 28, 3) := by decide +kernel
theorem dX0_leaveFrame_94 : decode cX0_leaveFrame 94 = .ok (.aload_n 0, 1) := by decide +kernel
theorem dX0_leaveFrame_95 : decode cX0_leaveFrame 95 = .ok (.getfield 22, 3) := by decide +kernel
theorem dX0_leaveFrame_98 : decode cX0_leaveFrame 98 = .ok (.iconst (-1), 1) := by decide +kernel
theorem dX0_leaveFrame_99 : decode cX0_leaveFrame 99 = .ok (.if_icmp .eq 20, 3) := by decide +kernel
theorem dX0_leaveFrame_102 : decode cX0_leaveFrame 102 = .ok (.aload_n 0, 1) := by decide +kernel
theorem dX0_leaveFrame_103 : decode cX0_leaveFrame 103 = .ok (.getfield 47, 3) := by decide +kernel
theorem dX0_leaveFrame_106 : decode cX0_leaveFrame 106 = .ok (.aload_n 0, 1) := by decide +kernel
theorem dX0_leaveFrame_107 : decode cX0_leaveFrame 107 = .ok (.getfield 22, 3) := by decide +kernel
theorem dX0_leaveFrame_110 : decode cX0_leaveFrame 110 = .ok (.iconst (-1), 1) := by decide +kernel
theorem dX0_leaveFrame_111 : decode cX0_leaveFrame 111 = .ok (.invokevirtual 174, 3) := by decide +kernel
theorem dX0_leaveFrame_114 : decode cX0_leaveFrame 114 = .ok (.aload_n 0, 1) := by decide +kernel
theorem dX0_leaveFrame_115 : decode cX0_leaveFrame 115 = .ok (.iconst (-1), 1) := by decide +kernel
theorem dX0_leaveFrame_116 : decode cX0_leaveFrame 116 = .ok (.putfield 22, 3) := by decide +kernel
theorem dX0_leaveFrame_119 : decode cX0_leaveFrame 119 = .ok (.return_, 1) := by decide +kernel
theorem dX0_nextTopForm_0 : decode cX0_nextTopForm 0 = .ok (.aload_n 0, 1) := by decide +kernel
theorem dX0_nextTopForm_1 : decode cX0_nextTopForm 1 = .ok (.getfield 18, 3) := by decide +kernel
theorem dX0_nextTopForm_4 : decode cX0_nextTopForm 4 = .ok (.istore_n 1, 1) := by decide +kernel
theorem dX0_nextTopForm_5 : decode cX0_nextTopForm 5 = .ok (.aload_n 0, 1) := by decide +kernel
theorem dX0_nextTopForm_6 : decode cX0_nextTopForm 6 = .ok (.aload_n 0, 1) := by decide +kernel
theorem dX0_nextTopForm_7 : decode cX0_nextTopForm 7 = .ok (.getfield 43, 3) := by decide +kernel
theorem dX0_nextTopForm_10 : decode cX0_nextTopForm 10 = .ok (.iload_n 1, 1) := by decide +kernel
theorem dX0_nextTopForm_11 : decode cX0_nextTopForm 11 = .ok (.invokevirtual 177, 3) := by decide +kernel
theorem dX0_nextTopForm_14 : decode cX0_nextTopForm 14 = .ok (.putfield 18, 3) := by decide +kernel
theorem dX0_nextTopForm_17 : decode cX0_nextTopForm 17 = .ok (.aload_n 0, 1) := by decide +kernel
theorem dX0_nextTopForm_18 : decode cX0_nextTopForm 18 = .ok (.dup, 1) := by decide +kernel
theorem dX0_nextTopForm_19 : decode cX0_nextTopForm 19 = .ok (.getfield 28, 3) := by decide +kernel
theorem dX0_nextTopForm_22 : decode cX0_nextTopForm 22 = .ok (.iconst 1, 1) := by decide +kernel
theorem dX0_nextTopForm_23 : decode cX0_nextTopForm 23 = .ok (.iadd, 1) := by decide +kernel
theorem dX0_nextTopForm_24 : decode cX0_nextTopForm 24 = .ok (.putfield 28, 3) := by decide +kernel
theorem dX0_nextTopForm_27 : decode cX0_nextTopForm 27 = .ok (.aload_n 0, 1) := by decide +kernel
theorem dX0_nextTopForm_28 : decode cX0_nextTopForm 28 = .ok (.invokevirtual 180, 3) := by decide +kernel
theorem dX0_nextTopForm_31 : decode cX0_nextTopForm 31 = .ok (.aload_n 0, 1) := by decide +kernel
theorem dX0_nextTopForm_32 : decode cX0_nextTopForm 32 = .ok (.getfield 43, 3) := by decide +kernel
theorem dX0_nextTopForm_35 : decode cX0_nextTopForm 35 = .ok (.iload_n 1, 1) := by decide +kernel
theorem dX0_nextTopForm_36 : decode cX0_nextTopForm 36 = .ok (.invokevirtual 183, 3) := by decide +kernel
theorem dX0_nextTopForm_39 : decode cX0_nextTopForm 39 = .ok (.lookupswitch 39 #[(5, 25), (6, 32)], 25) := by decide +kernel
theorem dX0_nextTopForm_64 : decode cX0_nextTopForm 64 = .ok (.aload_n 0, 1) := by decide +kernel
theorem dX0_nextTopForm_65 : decode cX0_nextTopForm 65 = .ok (.iload_n 1, 1) := by decide +kernel
theorem dX0_nextTopForm_66 : decode cX0_nextTopForm 66 = .ok (.invokevirtual 186, 3) := by decide +kernel
theorem dX0_nextTopForm_69 : decode cX0_nextTopForm 69 = .ok (.iconst (-1), 1) := by decide +kernel
theorem dX0_nextTopForm_70 : decode cX0_nextTopForm 70 = .ok (.ireturn, 1) := by decide +kernel
theorem dX0_nextTopForm_71 : decode cX0_nextTopForm 71 = .ok (.aload_n 0, 1) := by decide +kernel
theorem dX0_nextTopForm_72 : decode cX0_nextTopForm 72 = .ok (.iload_n 1, 1) := by decide +kernel
theorem dX0_nextTopForm_73 : decode cX0_nextTopForm 73 = .ok (.invokevirtual 189, 3) := by decide +kernel
theorem dX0_nextTopForm_76 : decode cX0_nextTopForm 76 = .ok (.iconst (-1), 1) := by decide +kernel
theorem dX0_nextTopForm_77 : decode cX0_nextTopForm 77 = .ok (.ireturn, 1) := by decide +kernel
theorem dX0_nextTopForm_78 : decode cX0_nextTopForm 78 = .ok (.iload_n 1, 1) := by decide +kernel
theorem dX0_nextTopForm_79 : decode cX0_nextTopForm 79 = .ok (.ireturn, 1) := by decide +kernel
theorem dX0_remember_0 : decode cX0_remember 0 = .ok (.aload_n 0, 1) := by decide +kernel
theorem dX0_remember_1 : decode cX0_remember 1 = .ok (.getfield 12, 3) := by decide +kernel
theorem dX0_remember_4 : decode cX0_remember 4 = .ok (.aload_n 0, 1) := by decide +kernel
theorem dX0_remember_5 : decode cX0_remember 5 = .ok (.getfield 43, 3) := by decide +kernel
theorem dX0_remember_8 : decode cX0_remember 8 = .ok (.getfield 94, 3) := by decide +kernel
theorem dX0_remember_11 : decode cX0_remember 11 = .ok (.aload_n 0, 1) := by decide +kernel
theorem dX0_remember_12 : decode cX0_remember 12 = .ok (.getfield 47, 3) := by decide +kernel
theorem dX0_remember_15 : decode cX0_remember 15 = .ok (.getfield 168, 3) := by decide +kernel
theorem dX0_remember_18 : decode cX0_remember 18 = .ok (.aload_n 0, 1) := by decide +kernel
theorem dX0_remember_19 : decode cX0_remember 19 = .ok (.getfield 60, 3) := by decide +kernel
theorem dX0_remember_22 : decode cX0_remember 22 = .ok (.getfield 192, 3) := by decide +kernel
theorem dX0_remember_25 : decode cX0_remember 25 = .ok (.invokevirtual 193, 3) := by decide +kernel
theorem dX0_remember_28 : decode cX0_remember 28 = .ok (.return_, 1) := by decide +kernel
theorem dX0_definesSymbol_0 : decode cX0_definesSymbol 0 = .ok (.aload_n 0, 1) := by decide +kernel
theorem dX0_definesSymbol_1 : decode cX0_definesSymbol 1 = .ok (.getfield 43, 3) := by decide +kernel
theorem dX0_definesSymbol_4 : decode cX0_definesSymbol 4 = .ok (.aload_n 0, 1) := by decide +kernel
theorem dX0_definesSymbol_5 : decode cX0_definesSymbol 5 = .ok (.getfield 43, 3) := by decide +kernel
theorem dX0_definesSymbol_8 : decode cX0_definesSymbol 8 = .ok (.iload_n 1, 1) := by decide +kernel
theorem dX0_definesSymbol_9 : decode cX0_definesSymbol 9 = .ok (.iconst 1, 1) := by decide +kernel
theorem dX0_definesSymbol_10 : decode cX0_definesSymbol 10 = .ok (.invokevirtual 196, 3) := by decide +kernel
theorem dX0_definesSymbol_13 : decode cX0_definesSymbol 13 = .ok (.invokevirtual 200, 3) := by decide +kernel
theorem dX0_definesSymbol_16 : decode cX0_definesSymbol 16 = .ok (.istore_n 2, 1) := by decide +kernel
theorem dX0_definesSymbol_17 : decode cX0_definesSymbol 17 = .ok (.aload_n 0, 1) := by decide +kernel
theorem dX0_definesSymbol_18 : decode cX0_definesSymbol 18 = .ok (.getfield 43, 3) := by decide +kernel
theorem dX0_definesSymbol_21 : decode cX0_definesSymbol 21 = .ok (.iload_n 1, 1) := by decide +kernel
theorem dX0_definesSymbol_22 : decode cX0_definesSymbol 22 = .ok (.invokevirtual 203, 3) := by decide +kernel
theorem dX0_definesSymbol_25 : decode cX0_definesSymbol 25 = .ok (.iconst 3, 1) := by decide +kernel
theorem dX0_definesSymbol_26 : decode cX0_definesSymbol 26 = .ok (.if_icmp .ne 13, 3) := by decide +kernel
theorem dX0_definesSymbol_29 : decode cX0_definesSymbol 29 = .ok (.iload_n 2, 1) := by decide +kernel
theorem dX0_definesSymbol_30 : decode cX0_definesSymbol 30 = .ok (.bipush 8, 2) := by decide +kernel
theorem dX0_definesSymbol_32 : decode cX0_definesSymbol 32 = .ok (.if_icmp .le 7, 3) := by decide +kernel
theorem dX0_definesSymbol_35 : decode cX0_definesSymbol 35 = .ok (.iconst 1, 1) := by decide +kernel
theorem dX0_definesSymbol_36 : decode cX0_definesSymbol 36 = .ok (.goto 4, 3) := by decide +kernel
theorem dX0_definesSymbol_39 : decode cX0_definesSymbol 39 = .ok (.iconst 0, 1) := by decide +kernel
theorem dX0_definesSymbol_40 : decode cX0_definesSymbol 40 = .ok (.ireturn, 1) := by decide +kernel
theorem dX0_define_0 : decode cX0_define 0 = .ok (.aload_n 0, 1) := by decide +kernel
theorem dX0_define_1 : decode cX0_define 1 = .ok (.iload_n 1, 1) := by decide +kernel
theorem dX0_define_2 : decode cX0_define 2 = .ok (.invokevirtual 206, 3) := by decide +kernel
theorem dX0_define_5 : decode cX0_define 5 = .ok (.ifCond .ne 9, 3) := by decide +kernel
theorem dX0_define_8 : decode cX0_define 8 = .ok (.aload_n 0, 1) := by decide +kernel
theorem dX0_define_9 : decode cX0_define 9 = .ok (.iconst 3, 1) := by decide +kernel
theorem dX0_define_10 : decode cX0_define 10 = .ok (.putfield 25, 3) := by decide +kernel
theorem dX0_define_13 : decode cX0_define 13 = .ok (.return_, 1) := by decide +kernel
theorem dX0_define_14 : decode cX0_define 14 = .ok (.aload_n 0, 1) := by decide +kernel
theorem dX0_define_15 : decode cX0_define 15 = .ok (.aload_n 0, 1) := by decide +kernel
theorem dX0_define_16 : decode cX0_define 16 = .ok (.getfield 43, 3) := by decide +kernel
theorem dX0_define_19 : decode cX0_define 19 = .ok (.aload_n 0, 1) := by decide +kernel
theorem dX0_define_20 : decode cX0_define 20 = .ok (.getfield 43, 3) := by decide +kernel
theorem dX0_define_23 : decode cX0_define 23 = .ok (.iload_n 1, 1) := by decide +kernel
theorem dX0_define_24 : decode cX0_define 24 = .ok (.iconst 1, 1) := by decide +kernel
theorem dX0_define_25 : decode cX0_define 25 = .ok (.invokevirtual 196, 3) := by decide +kernel
theorem dX0_define_28 : decode cX0_define 28 = .ok (.invokevirtual 200, 3) := by decide +kernel
theorem dX0_define_31 : decode cX0_define 31 = .ok (.putfield 22, 3) := by decide +kernel
theorem dX0_define_34 : decode cX0_define 34 = .ok (.aload_n 0, 1) := by decide +kernel
theorem dX0_define_35 : decode cX0_define 35 = .ok (.getfield 51, 3) := by decide +kernel
theorem dX0_define_38 : decode cX0_define 38 = .ok (.invokevirtual 209, 3) := by decide +kernel
theorem dX0_define_41 : decode cX0_define 41 = .ok (.aload_n 0, 1) := by decide +kernel
theorem dX0_define_42 : decode cX0_define 42 = .ok (.getfield 51, 3) := by decide +kernel
theorem dX0_define_45 : decode cX0_define 45 = .ok (.aload_n 0, 1) := by decide +kernel
theorem dX0_define_46 : decode cX0_define 46 = .ok (.getfield 47, 3) := by decide +kernel
theorem dX0_define_49 : decode cX0_define 49 = .ok (.iconst 5, 1) := by decide +kernel
theorem dX0_define_50 : decode cX0_define 50 = .ok (.invokevirtual 212, 3) := by decide +kernel
theorem dX0_define_53 : decode cX0_define 53 = .ok (.aload_n 0, 1) := by decide +kernel
theorem dX0_define_54 : decode cX0_define 54 = .ok (.getfield 51, 3) := by decide +kernel
theorem dX0_define_57 : decode cX0_define 57 = .ok (.aload_n 0, 1) := by decide +kernel
theorem dX0_define_58 : decode cX0_define 58 = .ok (.getfield 47, 3) := by decide +kernel
theorem dX0_define_61 : decode cX0_define 61 = .ok (.aload_n 0, 1) := by decide +kernel
theorem dX0_define_62 : decode cX0_define 62 = .ok (.getfield 22, 3) := by decide +kernel
theorem dX0_define_65 : decode cX0_define 65 = .ok (.invokevirtual 212, 3) := by decide +kernel
theorem dX0_define_68 : decode cX0_define 68 = .ok (.aload_n 0, 1) := by decide +kernel
theorem dX0_define_69 : decode cX0_define 69 = .ok (.getfield 12, 3) := by decide +kernel
theorem dX0_define_72 : decode cX0_define 72 = .ok (.aload_n 0, 1) := by decide +kernel
theorem dX0_define_73 : decode cX0_define 73 = .ok (.getfield 43, 3) := by decide +kernel
theorem dX0_define_76 : decode cX0_define 76 = .ok (.iload_n 1, 1) := by decide +kernel
theorem dX0_define_77 : decode cX0_define 77 = .ok (.iconst 2, 1) := by decide +kernel
theorem dX0_define_78 : decode cX0_define 78 = .ok (.invokevirtual 196, 3) := by decide +kernel
theorem dX0_define_81 : decode cX0_define 81 = .ok (.aload_n 0, 1) := by decide +kernel
theorem dX0_define_82 : decode cX0_define 82 = .ok (.getfield 43, 3) := by decide +kernel
theorem dX0_define_85 : decode cX0_define 85 = .ok (.iload_n 1, 1) := by decide +kernel
theorem dX0_define_86 : decode cX0_define 86 = .ok (.invokevirtual 177, 3) := by decide +kernel
theorem dX0_define_89 : decode cX0_define 89 = .ok (.iconst 1, 1) := by decide +kernel
theorem dX0_define_90 : decode cX0_define 90 = .ok (.invokevirtual 216, 3) := by decide +kernel
theorem dX0_define_93 : decode cX0_define 93 = .ok (.return_, 1) := by decide +kernel
theorem dX0_defineSyntax_0 : decode cX0_defineSyntax 0 = .ok (.aload_n 0, 1) := by decide +kernel
theorem dX0_defineSyntax_1 : decode cX0_defineSyntax 1 = .ok (.getfield 43, 3) := by decide +kernel
theorem dX0_defineSyntax_4 : decode cX0_defineSyntax 4 = .ok (.iload_n 1, 1) := by decide +kernel
theorem dX0_defineSyntax_5 : decode cX0_defineSyntax 5 = .ok (.iconst 2, 1) := by decide +kernel
theorem dX0_defineSyntax_6 : decode cX0_defineSyntax 6 = .ok (.invokevirtual 196, 3) := by decide +kernel
theorem dX0_defineSyntax_9 : decode cX0_defineSyntax 9 = .ok (.istore_n 2, 1) := by decide +kernel
theorem dX0_defineSyntax_10 : decode cX0_defineSyntax 10 = .ok (.aload_n 0, 1) := by decide +kernel
theorem dX0_defineSyntax_11 : decode cX0_defineSyntax 11 = .ok (.iload_n 1, 1) := by decide +kernel
theorem dX0_defineSyntax_12 : decode cX0_defineSyntax 12 = .ok (.invokevirtual 206, 3) := by decide +kernel
theorem dX0_defineSyntax_15 : decode cX0_defineSyntax 15 = .ok (.ifCond .eq 15, 3) := by decide +kernel
theorem dX0_defineSyntax_18 : decode cX0_defineSyntax 18 = .ok (.aload_n 0, 1) := by decide +kernel
theorem dX0_defineSyntax_19 : decode cX0_defineSyntax 19 = .ok (.getfield 69, 3) := by decide +kernel
theorem dX0_defineSyntax_22 : decode cX0_defineSyntax 22 = .ok (.iload_n 2, 1) := by decide +kernel
theorem dX0_defineSyntax_23 : decode cX0_defineSyntax 23 = .ok (.iconst 0, 1) := by decide +kernel
theorem dX0_defineSyntax_24 : decode cX0_defineSyntax 24 = .ok (.invokevirtual 220, 3) := by decide +kernel
theorem dX0_defineSyntax_27 : decode cX0_defineSyntax 27 = .ok (.ifCond .ne 9, 3) := by decide +kernel
theorem dX0_defineSyntax_30 : decode cX0_defineSyntax 30 = .ok (.aload_n 0, 1) := by decide +kernel
theorem dX0_defineSyntax_31 : decode cX0_defineSyntax 31 = .ok (.iconst 3, 1) := by decide +kernel
theorem dX0_defineSyntax_32 : decode cX0_defineSyntax 32 = .ok (.putfield 25, 3) := by decide +kernel
theorem dX0_defineSyntax_35 : decode cX0_defineSyntax 35 = .ok (.return_, 1) := by decide +kernel
theorem dX0_defineSyntax_36 : decode cX0_defineSyntax 36 = .ok (.aload_n 0, 1) := by decide +kernel
theorem dX0_defineSyntax_37 : decode cX0_defineSyntax 37 = .ok (.getfield 43, 3) := by decide +kernel
theorem dX0_defineSyntax_40 : decode cX0_defineSyntax 40 = .ok (.iload_n 2, 1) := by decide +kernel
theorem dX0_defineSyntax_41 : decode cX0_defineSyntax 41 = .ok (.invokevirtual 224, 3) := by decide +kernel
theorem dX0_defineSyntax_44 : decode cX0_defineSyntax 44 = .ok (.istore_n 3, 1) := by decide +kernel
theorem dX0_defineSyntax_45 : decode cX0_defineSyntax 45 = .ok (.iload_n 3, 1) := by decide +kernel
theorem dX0_defineSyntax_46 : decode cX0_defineSyntax 46 = .ok (.iconst (-1), 1) := by decide +kernel
theorem dX0_defineSyntax_47 : decode cX0_defineSyntax 47 = .ok (.if_icmp .ne 9, 3) := by decide +kernel
theorem dX0_defineSyntax_50 : decode cX0_defineSyntax 50 = .ok (.aload_n 0, 1) := by decide +kernel
theorem dX0_defineSyntax_51 : decode cX0_defineSyntax 51 = .ok (.iconst 2, 1) := by decide +kernel
theorem dX0_defineSyntax_52 : decode cX0_defineSyntax 52 = .ok (.putfield 25, 3) := by decide +kernel
theorem dX0_defineSyntax_55 : decode cX0_defineSyntax 55 = .ok (.return_, 1) := by decide +kernel
theorem dX0_defineSyntax_56 : decode cX0_defineSyntax 56 = .ok (.aload_n 0, 1) := by decide +kernel
theorem dX0_defineSyntax_57 : decode cX0_defineSyntax 57 = .ok (.getfield 47, 3) := by decide +kernel
theorem dX0_defineSyntax_60 : decode cX0_defineSyntax 60 = .ok (.aload_n 0, 1) := by decide +kernel
theorem dX0_defineSyntax_61 : decode cX0_defineSyntax 61 = .ok (.getfield 43, 3) := by decide +kernel
theorem dX0_defineSyntax_64 : decode cX0_defineSyntax 64 = .ok (.aload_n 0, 1) := by decide +kernel
theorem dX0_defineSyntax_65 : decode cX0_defineSyntax 65 = .ok (.getfield 43, 3) := by decide +kernel
theorem dX0_defineSyntax_68 : decode cX0_defineSyntax 68 = .ok (.iload_n 1, 1) := by decide +kernel
theorem dX0_defineSyntax_69 : decode cX0_defineSyntax 69 = .ok (.iconst 1, 1) := by decide +kernel
theorem dX0_defineSyntax_70 : decode cX0_defineSyntax 70 = .ok (.invokevirtual 196, 3) := by decide +kernel
theorem dX0_defineSyntax_73 : decode cX0_defineSyntax 73 = .ok (.invokevirtual 200, 3) := by decide +kernel
theorem dX0_defineSyntax_76 : decode cX0_defineSyntax 76 = .ok (.iload_n 3, 1) := by decide +kernel
theorem dX0_defineSyntax_77 : decode cX0_defineSyntax 77 = .ok (.invokevirtual 174, 3) := by decide +kernel
theorem dX0_defineSyntax_80 : decode cX0_defineSyntax 80 = .ok (.return_, 1) := by decide +kernel
theorem dX0_expandAlone_0 : decode cX0_expandAlone 0 = .ok (.aload_n 0, 1) := by decide +kernel
theorem dX0_expandAlone_1 : decode cX0_expandAlone 1 = .ok (.getfield 43, 3) := by decide +kernel
theorem dX0_expandAlone_4 : decode cX0_expandAlone 4 = .ok (.iload_n 1, 1) := by decide +kernel
theorem dX0_expandAlone_5 : decode cX0_expandAlone 5 = .ok (.invokevirtual 200, 3) := by decide +kernel
theorem dX0_expandAlone_8 : decode cX0_expandAlone 8 = .ok (.istore_n 2, 1) := by decide +kernel
theorem dX0_expandAlone_9 : decode cX0_expandAlone 9 = .ok (.iload_n 2, 1) := by decide +kernel
theorem dX0_expandAlone_10 : decode cX0_expandAlone 10 = .ok (.iconst (-1), 1) := by decide +kernel
theorem dX0_expandAlone_11 : decode cX0_expandAlone 11 = .ok (.if_icmp .ne 7, 3) := by decide +kernel
theorem dX0_expandAlone_14 : decode cX0_expandAlone 14 = .ok (.iconst (-1), 1) := by decide +kernel
theorem dX0_expandAlone_15 : decode cX0_expandAlone 15 = .ok (.goto 18, 3) := by decide +kernel
theorem dX0_expandAlone_18 : decode cX0_expandAlone 18 = .ok (.aload_n 0, 1) := by decide +kernel
theorem dX0_expandAlone_19 : decode cX0_expandAlone 19 = .ok (.getfield 60, 3) := by decide +kernel
theorem dX0_expandAlone_22 : decode cX0_expandAlone 22 = .ok (.iload_n 2, 1) := by decide +kernel
theorem dX0_expandAlone_23 : decode cX0_expandAlone 23 = .ok (.aload_n 0, 1) := by decide +kernel
theorem dX0_expandAlone_24 : decode cX0_expandAlone 24 = .ok (.getfield 60, 3) := by decide +kernel
theorem dX0_expandAlone_27 : decode cX0_expandAlone 27 = .ok (.getfield 192, 3) := by decide +kernel
theorem dX0_expandAlone_30 : decode cX0_expandAlone 30 = .ok (.invokevirtual 227, 3) := by decide +kernel
theorem dX0_expandAlone_33 : decode cX0_expandAlone 33 = .ok (.istore_n 3, 1) := by decide +kernel
theorem dX0_expandAlone_34 : decode cX0_expandAlone 34 = .ok (.iload_n 2, 1) := by decide +kernel
theorem dX0_expandAlone_35 : decode cX0_expandAlone 35 = .ok (.iconst (-1), 1) := by decide +kernel
theorem dX0_expandAlone_36 : decode cX0_expandAlone 36 = .ok (.if_icmp .ne 21, 3) := by decide +kernel
theorem dX0_expandAlone_39 : decode cX0_expandAlone 39 = .ok (.aload_n 0, 1) := by decide +kernel
theorem dX0_expandAlone_40 : decode cX0_expandAlone 40 = .ok (.getfield 51, 3) := by decide +kernel
theorem dX0_expandAlone_43 : decode cX0_expandAlone 43 = .ok (.aload_n 0, 1) := by decide +kernel
theorem dX0_expandAlone_44 : decode cX0_expandAlone 44 = .ok (.getfield 43, 3) := by decide +kernel
theorem dX0_expandAlone_47 : decode cX0_expandAlone 47 = .ok (.iload_n 1, 1) := by decide +kernel
theorem dX0_expandAlone_48 : decode cX0_expandAlone 48 = .ok (.invokevirtual 230, 3) := by decide +kernel
theorem dX0_expandAlone_51 : decode cX0_expandAlone 51 = .ok (.invokevirtual 233, 3) := by decide +kernel
theorem dX0_expandAlone_54 : decode cX0_expandAlone 54 = .ok (.goto 64, 3) := by decide +kernel
theorem dX0_expandAlone_57 : decode cX0_expandAlone 57 = .ok (.iload_n 3, 1) := by decide +kernel
theorem dX0_expandAlone_58 : decode cX0_expandAlone 58 = .ok (.invokestatic 130, 3) := by decide +kernel
theorem dX0_expandAlone_61 : decode cX0_expandAlone 61 = .ok (.ifCond .ne 10, 3) := by decide +kernel
theorem dX0_expandAlone_64 : decode cX0_expandAlone 64 = .ok (.iload_n 3, 1) := by decide +kernel
theorem dX0_expandAlone_65 : decode cX0_expandAlone 65 = .ok (.invokestatic 123, 3) := by decide +kernel
theorem dX0_expandAlone_68 : decode cX0_expandAlone 68 = .ok (.ifCond .eq 11, 3) := by decide +kernel
theorem dX0_expandAlone_71 : decode cX0_expandAlone 71 = .ok (.aload_n 0, 1) := by decide +kernel
theorem dX0_expandAlone_72 : decode cX0_expandAlone 72 = .ok (.iconst 4, 1) := by decide +kernel
theorem dX0_expandAlone_73 : decode cX0_expandAlone 73 = .ok (.putfield 25, 3) := by decide +kernel
theorem dX0_expandAlone_76 : decode cX0_expandAlone 76 = .ok (.goto 42, 3) := by decide +kernel
theorem dX0_expandAlone_79 : decode cX0_expandAlone 79 = .ok (.iload_n 3, 1) := by decide +kernel
theorem dX0_expandAlone_80 : decode cX0_expandAlone 80 = .ok (.iconst 3, 1) := by decide +kernel
theorem dX0_expandAlone_81 : decode cX0_expandAlone 81 = .ok (.iand, 1) := by decide +kernel
theorem dX0_expandAlone_82 : decode cX0_expandAlone 82 = .ok (.iconst 1, 1) := by decide +kernel
theorem dX0_expandAlone_83 : decode cX0_expandAlone 83 = .ok (.if_icmp .ne 16, 3) := by decide +kernel
theorem dX0_expandAlone_86 : decode cX0_expandAlone 86 = .ok (.aload_n 0, 1) := by decide +kernel
theorem dX0_expandAlone_87 : decode cX0_expandAlone 87 = .ok (.getfield 51, 3) := by decide +kernel
theorem dX0_expandAlone_90 : decode cX0_expandAlone 90 = .ok (.iload_n 3, 1) := by decide +kernel
theorem dX0_expandAlone_91 : decode cX0_expandAlone 91 = .ok (.iconst 2, 1) := by decide +kernel
theorem dX0_expandAlone_92 : decode cX0_expandAlone 92 = .ok (.ishr, 1) := by decide +kernel
theorem dX0_expandAlone_93 : decode cX0_expandAlone 93 = .ok (.invokevirtual 236, 3) := by decide +kernel
theorem dX0_expandAlone_96 : decode cX0_expandAlone 96 = .ok (.goto 22, 3) := by decide +kernel
theorem dX0_expandAlone_99 : decode cX0_expandAlone 99 = .ok (.aload_n 0, 1) := by decide +kernel
theorem dX0_expandAlone_100 : decode cX0_expandAlone 100 = .ok (.getfield 51, 3) := by decide +kernel
theorem dX0_expandAlone_103 : decode cX0_expandAlone 103 = .ok (.aload_n 0, 1) := by decide +kernel
theorem dX0_expandAlone_104 : decode cX0_expandAlone 104 = .ok (.getfield 47, 3) := by decide +kernel
theorem dX0_expandAlone_107 : decode cX0_expandAlone 107 = .ok (.aload_n 0, 1) := by decide +kernel
theorem dX0_expandAlone_108 : decode cX0_expandAlone 108 = .ok (.getfield 47, 3) := by decide +kernel
theorem dX0_expandAlone_111 : decode cX0_expandAlone 111 = .ok (.iload_n 2, 1) := by decide +kernel
theorem dX0_expandAlone_112 : decode cX0_expandAlone 112 = .ok (.invokevirtual 239, 3) := by decide +kernel
theorem dX0_expandAlone_115 : decode cX0_expandAlone 115 = .ok (.invokevirtual 212, 3) := by decide +kernel
theorem dX0_expandAlone_118 : decode cX0_expandAlone 118 = .ok (.return_, 1) := by decide +kernel
theorem dX0_headMeaning_0 : decode cX0_headMeaning 0 = .ok (.aload_n 0, 1) := by decide +kernel
theorem dX0_headMeaning_1 : decode cX0_headMeaning 1 = .ok (.getfield 43, 3) := by decide +kernel
theorem dX0_headMeaning_4 : decode cX0_headMeaning 4 = .ok (.iload_n 1, 1) := by decide +kernel
theorem dX0_headMeaning_5 : decode cX0_headMeaning 5 = .ok (.invokevirtual 183, 3) := by decide +kernel
theorem dX0_headMeaning_8 : decode cX0_headMeaning 8 = .ok (.istore_n 2, 1) := by decide +kernel
theorem dX0_headMeaning_9 : decode cX0_headMeaning 9 = .ok (.iload_n 2, 1) := by decide +kernel
theorem dX0_headMeaning_10 : decode cX0_headMeaning 10 = .ok (.iconst (-1), 1) := by decide +kernel
theorem dX0_headMeaning_11 : decode cX0_headMeaning 11 = .ok (.if_icmp .ne 7, 3) := by decide +kernel
theorem dX0_headMeaning_14 : decode cX0_headMeaning 14 = .ok (.iconst (-1), 1) := by decide +kernel
theorem dX0_headMeaning_15 : decode cX0_headMeaning 15 = .ok (.goto 18, 3) := by decide +kernel
theorem dX0_headMeaning_18 : decode cX0_headMeaning 18 = .ok (.aload_n 0, 1) := by decide +kernel
theorem dX0_headMeaning_19 : decode cX0_headMeaning 19 = .ok (.getfield 60, 3) := by decide +kernel
theorem dX0_headMeaning_22 : decode cX0_headMeaning 22 = .ok (.iload_n 2, 1) := by decide +kernel
theorem dX0_headMeaning_23 : decode cX0_headMeaning 23 = .ok (.aload_n 0, 1) := by decide +kernel
theorem dX0_headMeaning_24 : decode cX0_headMeaning 24 = .ok (.getfield 60, 3) := by decide +kernel
theorem dX0_headMeaning_27 : decode cX0_headMeaning 27 = .ok (.getfield 192, 3) := by decide +kernel
theorem dX0_headMeaning_30 : decode cX0_headMeaning 30 = .ok (.invokevirtual 227, 3) := by decide +kernel
theorem dX0_headMeaning_33 : decode cX0_headMeaning 33 = .ok (.ireturn, 1) := by decide +kernel
theorem dX0_canExpand_0 : decode cX0_canExpand 0 = .ok (.aload_n 0, 1) := by decide +kernel
theorem dX0_canExpand_1 : decode cX0_canExpand 1 = .ok (.getfield 12, 3) := by decide +kernel
theorem dX0_canExpand_4 : decode cX0_canExpand 4 = .ok (.getfield 100, 3) := by decide +kernel
theorem dX0_canExpand_7 : decode cX0_canExpand 7 = .ok (.bipush 100, 2) := by decide +kernel
theorem dX0_canExpand_9 : decode cX0_canExpand 9 = .ok (.if_icmp .le 11, 3) := by decide +kernel
theorem dX0_canExpand_12 : decode cX0_canExpand 12 = .ok (.aload_n 0, 1) := by decide +kernel
theorem dX0_canExpand_13 : decode cX0_canExpand 13 = .ok (.iconst 2, 1) := by decide +kernel
theorem dX0_canExpand_14 : decode cX0_canExpand 14 = .ok (.putfield 25, 3) := by decide +kernel
theorem dX0_canExpand_17 : decode cX0_canExpand 17 = .ok (.goto 20, 3) := by decide +kernel
theorem dX0_canExpand_20 : decode cX0_canExpand 20 = .ok (.aload_n 0, 1) := by decide +kernel
theorem dX0_canExpand_21 : decode cX0_canExpand 21 = .ok (.getfield 43, 3) := by decide +kernel
theorem dX0_canExpand_24 : decode cX0_canExpand 24 = .ok (.iload_n 1, 1) := by decide +kernel
theorem dX0_canExpand_25 : decode cX0_canExpand 25 = .ok (.invokevirtual 242, 3) := by decide +kernel
theorem dX0_canExpand_28 : decode cX0_canExpand 28 = .ok (.iconst 1, 1) := by decide +kernel
theorem dX0_canExpand_29 : decode cX0_canExpand 29 = .ok (.if_icmp .ne 8, 3) := by decide +kernel
theorem dX0_canExpand_32 : decode cX0_canExpand 32 = .ok (.aload_n 0, 1) := by decide +kernel
theorem dX0_canExpand_33 : decode cX0_canExpand 33 = .ok (.iconst 3, 1) := by decide +kernel
theorem dX0_canExpand_34 : decode cX0_canExpand 34 = .ok (.putfield 25, 3) := by decide +kernel
theorem dX0_canExpand_37 : decode cX0_canExpand 37 = .ok (.aload_n 0, 1) := by decide +kernel
theorem dX0_canExpand_38 : decode cX0_canExpand 38 = .ok (.invokevirtual 180, 3) := by decide +kernel
theorem dX0_canExpand_41 : decode cX0_canExpand 41 = .ok (.aload_n 0, 1) := by decide +kernel
theorem dX0_canExpand_42 : decode cX0_canExpand 42 = .ok (.getfield 25, 3) := by decide +kernel
theorem dX0_canExpand_45 : decode cX0_canExpand 45 = .ok (.ifCond .ne 7, 3) := by decide +kernel
theorem dX0_canExpand_48 : decode cX0_canExpand 48 = .ok (.iconst 1, 1) := by decide +kernel
theorem dX0_canExpand_49 : decode cX0_canExpand 49 = .ok (.goto 4, 3) := by decide +kernel
theorem dX0_canExpand_52 : decode cX0_canExpand 52 = .ok (.iconst 0, 1) := by decide +kernel
theorem dX0_canExpand_53 : decode cX0_canExpand 53 = .ok (.ireturn, 1) := by decide +kernel
theorem dX0_expandPlain_0 : decode cX0_expandPlain 0 = .ok (.aload_n 0, 1) := by decide +kernel
theorem dX0_expandPlain_1 : decode cX0_expandPlain 1 = .ok (.getfield 51, 3) := by decide +kernel
theorem dX0_expandPlain_4 : decode cX0_expandPlain 4 = .ok (.invokevirtual 209, 3) := by decide +kernel
theorem dX0_expandPlain_7 : decode cX0_expandPlain 7 = .ok (.aload_n 0, 1) := by decide +kernel
theorem dX0_expandPlain_8 : decode cX0_expandPlain 8 = .ok (.getfield 12, 3) := by decide +kernel
theorem dX0_expandPlain_11 : decode cX0_expandPlain 11 = .ok (.iload_n 1, 1) := by decide +kernel
theorem dX0_expandPlain_12 : decode cX0_expandPlain 12 = .ok (.iconst 1, 1) := by decide +kernel
theorem dX0_expandPlain_13 : decode cX0_expandPlain 13 = .ok (.iadd, 1) := by decide +kernel
theorem dX0_expandPlain_14 : decode cX0_expandPlain 14 = .ok (.aload_n 0, 1) := by decide +kernel
theorem dX0_expandPlain_15 : decode cX0_expandPlain 15 = .ok (.getfield 43, 3) := by decide +kernel
theorem dX0_expandPlain_18 : decode cX0_expandPlain 18 = .ok (.iload_n 1, 1) := by decide +kernel
theorem dX0_expandPlain_19 : decode cX0_expandPlain 19 = .ok (.invokevirtual 177, 3) := by decide +kernel
theorem dX0_expandPlain_22 : decode cX0_expandPlain 22 = .ok (.iconst 1, 1) := by decide +kernel
theorem dX0_expandPlain_23 : decode cX0_expandPlain 23 = .ok (.invokevirtual 216, 3) := by decide +kernel
theorem dX0_expandPlain_26 : decode cX0_expandPlain 26 = .ok (.return_, 1) := by decide +kernel
theorem dX0_expandUse_0 : decode cX0_expandUse 0 = .ok (.aload_n 0, 1) := by decide +kernel
theorem dX0_expandUse_1 : decode cX0_expandUse 1 = .ok (.getfield 31, 3) := by decide +kernel
theorem dX0_expandUse_4 : decode cX0_expandUse 4 = .ok (.bipush 100, 2) := by decide +kernel
theorem dX0_expandUse_6 : decode cX0_expandUse 6 = .ok (.if_icmp .lt 9, 3) := by decide +kernel
theorem dX0_expandUse_9 : decode cX0_expandUse 9 = .ok (.aload_n 0, 1) := by decide +kernel
theorem dX0_expandUse_10 : decode cX0_expandUse 10 = .ok (.iconst 2, 1) := by decide +kernel
theorem dX0_expandUse_11 : decode cX0_expandUse 11 = .ok (.putfield 25, 3) := by decide +kernel
theorem dX0_expandUse_14 : decode cX0_expandUse 14 = .ok (.return_, 1) := by decide +kernel
theorem dX0_expandUse_15 : decode cX0_expandUse 15 = .ok (.aload_n 0, 1) := by decide +kernel
theorem dX0_expandUse_16 : decode cX0_expandUse 16 = .ok (.dup, 1) := by decide +kernel
theorem dX0_expandUse_17 : decode cX0_expandUse 17 = .ok (.getfield 31, 3) := by decide +kernel
theorem dX0_expandUse_20 : decode cX0_expandUse 20 = .ok (.iconst 1, 1) := by decide +kernel
theorem dX0_expandUse_21 : decode cX0_expandUse 21 = .ok (.iadd, 1) := by decide +kernel
theorem dX0_expandUse_22 : decode cX0_expandUse 22 = .ok (.putfield 31, 3) := by decide +kernel
theorem dX0_expandUse_25 : decode cX0_expandUse 25 = .ok (.aload_n 0, 1) := by decide +kernel
theorem dX0_expandUse_26 : decode cX0_expandUse 26 = .ok (.getfield 60, 3) := by decide +kernel
theorem dX0_expandUse_29 : decode cX0_expandUse 29 = .ok (.iload_n 2, 1) := by decide +kernel
theorem dX0_expandUse_30 : decode cX0_expandUse 30 = .ok (.invokevirtual 245, 3) := by decide +kernel
theorem dX0_expandUse_33 : decode cX0_expandUse 33 = .ok (.istore_n 3, 1) := by decide +kernel
theorem dX0_expandUse_34 : decode cX0_expandUse 34 = .ok (.aload_n 0, 1) := by decide +kernel
theorem dX0_expandUse_35 : decode cX0_expandUse 35 = .ok (.getfield 78, 3) := by decide +kernel
theorem dX0_expandUse_38 : decode cX0_expandUse 38 = .ok (.iload_n 1, 1) := by decide +kernel
theorem dX0_expandUse_39 : decode cX0_expandUse 39 = .ok (.aload_n 0, 1) := by decide +kernel
theorem dX0_expandUse_40 : decode cX0_expandUse 40 = .ok (.getfield 60, 3) := by decide +kernel
theorem dX0_expandUse_43 : decode cX0_expandUse 43 = .ok (.iload_n 2, 1) := by decide +kernel
theorem dX0_expandUse_44 : decode cX0_expandUse 44 = .ok (.invokevirtual 248, 3) := by decide +kernel
theorem dX0_expandUse_47 : decode cX0_expandUse 47 = .ok (.iload_n 3, 1) := by decide +kernel
theorem dX0_expandUse_48 : decode cX0_expandUse 48 = .ok (.invokevirtual 251, 3) := by decide +kernel
theorem dX0_expandUse_51 : decode cX0_expandUse 51 = .ok (.istore 4, 2) := by decide +kernel
theorem dX0_expandUse_53 : decode cX0_expandUse 53 = .ok (.iload 4, 2) := by decide +kernel
theorem dX0_expandUse_55 : decode cX0_expandUse 55 = .ok (.iconst (-1), 1) := by decide +kernel
theorem dX0_expandUse_56 : decode cX0_expandUse 56 = .ok (.if_icmp .ne 9, 3) := by decide +kernel
theorem dX0_expandUse_59 : decode cX0_expandUse 59 = .ok (.aload_n 0, 1) := by decide +kernel
theorem dX0_expandUse_60 : decode cX0_expandUse 60 = .ok (.iconst 5, 1) := by decide +kernel
theorem dX0_expandUse_61 : decode cX0_expandUse 61 = .ok (.putfield 25, 3) := by decide +kernel
theorem dX0_expandUse_64 : decode cX0_expandUse 64 = .ok (.return_, 1) := by decide +kernel
theorem dX0_expandUse_65 : decode cX0_expandUse 65 = .ok (.aload_n 0, 1) := by decide +kernel
theorem dX0_expandUse_66 : decode cX0_expandUse 66 = .ok (.getfield 43, 3) := by decide +kernel
theorem dX0_expandUse_69 : decode cX0_expandUse 69 = .ok (.getfield 94, 3) := by decide +kernel
theorem dX0_expandUse_72 : decode cX0_expandUse 72 = .ok (.istore 5, 2) := by decide +kernel
theorem dX0_expandUse_74 : decode cX0_expandUse 74 = .ok (.aload_n 0, 1) := by decide +kernel
theorem dX0_expandUse_75 : decode cX0_expandUse 75 = .ok (.aload_n 0, 1) := by decide +kernel
theorem dX0_expandUse_76 : decode cX0_expandUse 76 = .ok (.getfield 87, 3) := by decide +kernel
theorem dX0_expandUse_79 : decode cX0_expandUse 79 = .ok (.aload_n 0, 1) := by decide +kernel
theorem dX0_expandUse_80 : decode cX0_expandUse 80 = .ok (.getfield 43, 3) := by decide +kernel
theorem dX0_expandUse_83 : decode cX0_expandUse 83 = .ok (.iload 4, 2) := by decide +kernel
theorem dX0_expandUse_85 : decode cX0_expandUse 85 = .ok (.iconst 1, 1) := by decide +kernel
theorem dX0_expandUse_86 : decode cX0_expandUse 86 = .ok (.invokevirtual 196, 3) := by decide +kernel
theorem dX0_expandUse_89 : decode cX0_expandUse 89 = .ok (.iload_n 3, 1) := by decide +kernel
theorem dX0_expandUse_90 : decode cX0_expandUse 90 = .ok (.invokevirtual 255, 3) := by decide +kernel
theorem dX0_expandUse_93 : decode cX0_expandUse 93 = .ok (.putfield 25, 3) := by decide +kernel
theorem dX0_expandUse_96 : decode cX0_expandUse 96 = .ok (.aload_n 0, 1) := by decide +kernel
theorem dX0_expandUse_97 : decode cX0_expandUse 97 = .ok (.getfield 25, 3) := by decide +kernel
theorem dX0_expandUse_100 : decode cX0_expandUse 100 = .ok (.ifCond .ne 20, 3) := by decide +kernel
theorem dX0_expandUse_103 : decode cX0_expandUse 103 = .ok (.aload_n 0, 1) := by decide +kernel
theorem dX0_expandUse_104 : decode cX0_expandUse 104 = .ok (.getfield 12, 3) := by decide +kernel
theorem dX0_expandUse_107 : decode cX0_expandUse 107 = .ok (.iload 5, 2) := by decide +kernel
theorem dX0_expandUse_109 : decode cX0_expandUse 109 = .ok (.aload_n 0, 1) := by decide +kernel
theorem dX0_expandUse_110 : decode cX0_expandUse 110 = .ok (.getfield 43, 3) := by decide +kernel
theorem dX0_expandUse_113 : decode cX0_expandUse 113 = .ok (.getfield 94, 3) := by decide +kernel
theorem dX0_expandUse_116 : decode cX0_expandUse 116 = .ok (.iconst 0, 1) := by decide +kernel
theorem dX0_expandUse_117 : decode cX0_expandUse 117 = .ok (.invokevirtual 216, 3) := by decide +kernel
theorem dX0_expandUse_120 : decode cX0_expandUse 120 = .ok (.return_, 1) := by decide +kernel
theorem dX0_expandWord_0 : decode cX0_expandWord 0 = .ok (.iload_n 2, 1) := by decide +kernel
theorem dX0_expandWord_1 : decode cX0_expandWord 1 = .ok (.tableswitch 63 0 3 #[31, 47, 55, 39], 31) := by decide +kernel
theorem dX0_expandWord_32 : decode cX0_expandWord 32 = .ok (.aload_n 0, 1) := by decide +kernel
theorem dX0_expandWord_33 : decode cX0_expandWord 33 = .ok (.iload_n 1, 1) := by decide +kernel
theorem dX0_expandWord_34 : decode cX0_expandWord 34 = .ok (.invokevirtual 258, 3) := by decide +kernel
theorem dX0_expandWord_37 : decode cX0_expandWord 37 = .ok (.goto 32, 3) := by decide +kernel
theorem dX0_expandWord_40 : decode cX0_expandWord 40 = .ok (.aload_n 0, 1) := by decide +kernel
theorem dX0_expandWord_41 : decode cX0_expandWord 41 = .ok (.iload_n 1, 1) := by decide +kernel
theorem dX0_expandWord_42 : decode cX0_expandWord 42 = .ok (.invokevirtual 261, 3) := by decide +kernel
theorem dX0_expandWord_45 : decode cX0_expandWord 45 = .ok (.goto 24, 3) := by decide +kernel
theorem dX0_expandWord_48 : decode cX0_expandWord 48 = .ok (.aload_n 0, 1) := by decide +kernel
theorem dX0_expandWord_49 : decode cX0_expandWord 49 = .ok (.iload_n 1, 1) := by decide +kernel
theorem dX0_expandWord_50 : decode cX0_expandWord 50 = .ok (.invokevirtual 264, 3) := by decide +kernel
theorem dX0_expandWord_53 : decode cX0_expandWord 53 = .ok (.goto 16, 3) := by decide +kernel
theorem dX0_expandWord_56 : decode cX0_expandWord 56 = .ok (.aload_n 0, 1) := by decide +kernel
theorem dX0_expandWord_57 : decode cX0_expandWord 57 = .ok (.iload_n 1, 1) := by decide +kernel
theorem dX0_expandWord_58 : decode cX0_expandWord 58 = .ok (.invokevirtual 267, 3) := by decide +kernel
theorem dX0_expandWord_61 : decode cX0_expandWord 61 = .ok (.goto 8, 3) := by decide +kernel
theorem dX0_expandWord_64 : decode cX0_expandWord 64 = .ok (.aload_n 0, 1) := by decide +kernel
theorem dX0_expandWord_65 : decode cX0_expandWord 65 = .ok (.iconst 3, 1) := by decide +kernel
theorem dX0_expandWord_66 : decode cX0_expandWord 66 = .ok (.putfield 25, 3) := by decide +kernel
theorem dX0_expandWord_69 : decode cX0_expandWord 69 = .ok (.return_, 1) := by decide +kernel
theorem dX0_expandIf_0 : decode cX0_expandIf 0 = .ok (.aload_n 0, 1) := by decide +kernel
theorem dX0_expandIf_1 : decode cX0_expandIf 1 = .ok (.getfield 43, 3) := by decide +kernel
theorem dX0_expandIf_4 : decode cX0_expandIf 4 = .ok (.iload_n 1, 1) := by decide +kernel
theorem dX0_expandIf_5 : decode cX0_expandIf 5 = .ok (.invokevirtual 203, 3) := by decide +kernel
theorem dX0_expandIf_8 : decode cX0_expandIf 8 = .ok (.iconst 4, 1) := by decide +kernel
theorem dX0_expandIf_9 : decode cX0_expandIf 9 = .ok (.if_icmp .eq 9, 3) := by decide +kernel
theorem dX0_expandIf_12 : decode cX0_expandIf 12 = .ok (.aload_n 0, 1) := by decide +kernel
theorem dX0_expandIf_13 : decode cX0_expandIf 13 = .ok (.iconst 3, 1) := by decide +kernel
theorem dX0_expandIf_14 : decode cX0_expandIf 14 = .ok (.putfield 25, 3) := by decide +kernel
theorem dX0_expandIf_17 : decode cX0_expandIf 17 = .ok (.return_, 1) := by decide +kernel
theorem dX0_expandIf_18 : decode cX0_expandIf 18 = .ok (.aload_n 0, 1) := by decide +kernel
theorem dX0_expandIf_19 : decode cX0_expandIf 19 = .ok (.getfield 51, 3) := by decide +kernel
theorem dX0_expandIf_22 : decode cX0_expandIf 22 = .ok (.invokevirtual 209, 3) := by decide +kernel
theorem dX0_expandIf_25 : decode cX0_expandIf 25 = .ok (.aload_n 0, 1) := by decide +kernel
theorem dX0_expandIf_26 : decode cX0_expandIf 26 = .ok (.getfield 51, 3) := by decide +kernel
theorem dX0_expandIf_29 : decode cX0_expandIf 29 = .ok (.aload_n 0, 1) := by decide +kernel
theorem dX0_expandIf_30 : decode cX0_expandIf 30 = .ok (.getfield 47, 3) := by decide +kernel
theorem dX0_expandIf_33 : decode cX0_expandIf 33 = .ok (.iconst 1, 1) := by decide +kernel
theorem dX0_expandIf_34 : decode cX0_expandIf 34 = .ok (.invokevirtual 212, 3) := by decide +kernel
theorem dX0_expandIf_37 : decode cX0_expandIf 37 = .ok (.aload_n 0, 1) := by decide +kernel
theorem dX0_expandIf_38 : decode cX0_expandIf 38 = .ok (.getfield 12, 3) := by decide +kernel
theorem dX0_expandIf_41 : decode cX0_expandIf 41 = .ok (.aload_n 0, 1) := by decide +kernel
theorem dX0_expandIf_42 : decode cX0_expandIf 42 = .ok (.getfield 43, 3) := by decide +kernel
theorem dX0_expandIf_45 : decode cX0_expandIf 45 = .ok (.iload_n 1, 1) := by decide +kernel
theorem dX0_expandIf_46 : decode cX0_expandIf 46 = .ok (.iconst 1, 1) := by decide +kernel
theorem dX0_expandIf_47 : decode cX0_expandIf 47 = .ok (.invokevirtual 196, 3) := by decide +kernel
theorem dX0_expandIf_50 : decode cX0_expandIf 50 = .ok (.aload_n 0, 1) := by decide +kernel
theorem dX0_expandIf_51 : decode cX0_expandIf 51 = .ok (.getfield 43, 3) := by decide +kernel
theorem dX0_expandIf_54 : decode cX0_expandIf 54 = .ok (.iload_n 1, 1) := by decide +kernel
theorem dX0_expandIf_55 : decode cX0_expandIf 55 = .ok (.invokevirtual 177, 3) := by decide +kernel
theorem dX0_expandIf_58 : decode cX0_expandIf 58 = .ok (.iconst 1, 1) := by decide +kernel
theorem dX0_expandIf_59 : decode cX0_expandIf 59 = .ok (.invokevirtual 216, 3) := by decide +kernel
theorem dX0_expandIf_62 : decode cX0_expandIf 62 = .ok (.return_, 1) := by decide +kernel
theorem dX0_expandQuote_0 : decode cX0_expandQuote 0 = .ok (.aload_n 0, 1) := by decide +kernel
theorem dX0_expandQuote_1 : decode cX0_expandQuote 1 = .ok (.getfield 43, 3) := by decide +kernel
theorem dX0_expandQuote_4 : decode cX0_expandQuote 4 = .ok (.iload_n 1, 1) := by decide +kernel
theorem dX0_expandQuote_5 : decode cX0_expandQuote 5 = .ok (.invokevirtual 203, 3) := by decide +kernel
theorem dX0_expandQuote_8 : decode cX0_expandQuote 8 = .ok (.iconst 2, 1) := by decide +kernel
theorem dX0_expandQuote_9 : decode cX0_expandQuote 9 = .ok (.if_icmp .eq 9, 3) := by decide +kernel
theorem dX0_expandQuote_12 : decode cX0_expandQuote 12 = .ok (.aload_n 0, 1) := by decide +kernel
theorem dX0_expandQuote_13 : decode cX0_expandQuote 13 = .ok (.iconst 3, 1) := by decide +kernel
theorem dX0_expandQuote_14 : decode cX0_expandQuote 14 = .ok (.putfield 25, 3) := by decide +kernel
theorem dX0_expandQuote_17 : decode cX0_expandQuote 17 = .ok (.return_, 1) := by decide +kernel
theorem dX0_expandQuote_18 : decode cX0_expandQuote 18 = .ok (.aload_n 0, 1) := by decide +kernel
theorem dX0_expandQuote_19 : decode cX0_expandQuote 19 = .ok (.getfield 51, 3) := by decide +kernel
theorem dX0_expandQuote_22 : decode cX0_expandQuote 22 = .ok (.invokevirtual 209, 3) := by decide +kernel
theorem dX0_expandQuote_25 : decode cX0_expandQuote 25 = .ok (.aload_n 0, 1) := by decide +kernel
theorem dX0_expandQuote_26 : decode cX0_expandQuote 26 = .ok (.getfield 51, 3) := by decide +kernel
theorem dX0_expandQuote_29 : decode cX0_expandQuote 29 = .ok (.aload_n 0, 1) := by decide +kernel
theorem dX0_expandQuote_30 : decode cX0_expandQuote 30 = .ok (.getfield 47, 3) := by decide +kernel
theorem dX0_expandQuote_33 : decode cX0_expandQuote 33 = .ok (.iconst 2, 1) := by decide +kernel
theorem dX0_expandQuote_34 : decode cX0_expandQuote 34 = .ok (.invokevirtual 212, 3) := by decide +kernel
theorem dX0_expandQuote_37 : decode cX0_expandQuote 37 = .ok (.aload_n 0, 1) := by decide +kernel
theorem dX0_expandQuote_38 : decode cX0_expandQuote 38 = .ok (.aload_n 0, 1) := by decide +kernel
theorem dX0_expandQuote_39 : decode cX0_expandQuote 39 = .ok (.getfield 43, 3) := by decide +kernel
theorem dX0_expandQuote_42 : decode cX0_expandQuote 42 = .ok (.iload_n 1, 1) := by decide +kernel
theorem dX0_expandQuote_43 : decode cX0_expandQuote 43 = .ok (.iconst 1, 1) := by decide +kernel
theorem dX0_expandQuote_44 : decode cX0_expandQuote 44 = .ok (.invokevirtual 196, 3) := by decide +kernel
theorem dX0_expandQuote_47 : decode cX0_expandQuote 47 = .ok (.invokevirtual 270, 3) := by decide +kernel
theorem dX0_expandQuote_50 : decode cX0_expandQuote 50 = .ok (.aload_n 0, 1) := by decide +kernel
theorem dX0_expandQuote_51 : decode cX0_expandQuote 51 = .ok (.getfield 51, 3) := by decide +kernel
theorem dX0_expandQuote_54 : decode cX0_expandQuote 54 = .ok (.invokevirtual 158, 3) := by decide +kernel
theorem dX0_expandQuote_57 : decode cX0_expandQuote 57 = .ok (.return_, 1) := by decide +kernel
theorem dX0_tellRoots_0 : decode cX0_tellRoots 0 = .ok (.aload_n 0, 1) := by decide +kernel
theorem dX0_tellRoots_1 : decode cX0_tellRoots 1 = .ok (.getfield 43, 3) := by decide +kernel
theorem dX0_tellRoots_4 : decode cX0_tellRoots 4 = .ok (.iload_n 1, 1) := by decide +kernel
theorem dX0_tellRoots_5 : decode cX0_tellRoots 5 = .ok (.invokevirtual 200, 3) := by decide +kernel
theorem dX0_tellRoots_8 : decode cX0_tellRoots 8 = .ok (.iconst (-1), 1) := by decide +kernel
theorem dX0_tellRoots_9 : decode cX0_tellRoots 9 = .ok (.if_icmp .eq 30, 3) := by decide +kernel
theorem dX0_tellRoots_12 : decode cX0_tellRoots 12 = .ok (.aload_n 0, 1) := by decide +kernel
theorem dX0_tellRoots_13 : decode cX0_tellRoots 13 = .ok (.getfield 51, 3) := by decide +kernel
theorem dX0_tellRoots_16 : decode cX0_tellRoots 16 = .ok (.aload_n 0, 1) := by decide +kernel
theorem dX0_tellRoots_17 : decode cX0_tellRoots 17 = .ok (.getfield 47, 3) := by decide +kernel
theorem dX0_tellRoots_20 : decode cX0_tellRoots 20 = .ok (.aload_n 0, 1) := by decide +kernel
theorem dX0_tellRoots_21 : decode cX0_tellRoots 21 = .ok (.getfield 47, 3) := by decide +kernel
theorem dX0_tellRoots_24 : decode cX0_tellRoots 24 = .ok (.aload_n 0, 1) := by decide +kernel
theorem dX0_tellRoots_25 : decode cX0_tellRoots 25 = .ok (.getfield 43, 3) := by decide +kernel
theorem dX0_tellRoots_28 : decode cX0_tellRoots 28 = .ok (.iload_n 1, 1) := by decide +kernel
theorem dX0_tellRoots_29 : decode cX0_tellRoots 29 = .ok (.invokevirtual 200, 3) := by decide +kernel
theorem dX0_tellRoots_32 : decode cX0_tellRoots 32 = .ok (.invokevirtual 239, 3) := by decide +kernel
theorem dX0_tellRoots_35 : decode cX0_tellRoots 35 = .ok (.invokevirtual 212, 3) := by decide +kernel
theorem dX0_tellRoots_38 : decode cX0_tellRoots 38 = .ok (.return_, 1) := by decide +kernel
theorem dX0_tellRoots_39 : decode cX0_tellRoots 39 = .ok (.aload_n 0, 1) := by decide +kernel
theorem dX0_tellRoots_40 : decode cX0_tellRoots 40 = .ok (.getfield 43, 3) := by decide +kernel
theorem dX0_tellRoots_43 : decode cX0_tellRoots 43 = .ok (.iload_n 1, 1) := by decide +kernel
theorem dX0_tellRoots_44 : decode cX0_tellRoots 44 = .ok (.invokevirtual 112, 3) := by decide +kernel
theorem dX0_tellRoots_47 : decode cX0_tellRoots 47 = .ok (.ifCond .ne 19, 3) := by decide +kernel
theorem dX0_tellRoots_50 : decode cX0_tellRoots 50 = .ok (.aload_n 0, 1) := by decide +kernel
theorem dX0_tellRoots_51 : decode cX0_tellRoots 51 = .ok (.getfield 51, 3) := by decide +kernel
theorem dX0_tellRoots_54 : decode cX0_tellRoots 54 = .ok (.aload_n 0, 1) := by decide +kernel
theorem dX0_tellRoots_55 : decode cX0_tellRoots 55 = .ok (.getfield 43, 3) := by decide +kernel
theorem dX0_tellRoots_58 : decode cX0_tellRoots 58 = .ok (.iload_n 1, 1) := by decide +kernel
theorem dX0_tellRoots_59 : decode cX0_tellRoots 59 = .ok (.invokevirtual 230, 3) := by decide +kernel
theorem dX0_tellRoots_62 : decode cX0_tellRoots 62 = .ok (.invokevirtual 233, 3) := by decide +kernel
theorem dX0_tellRoots_65 : decode cX0_tellRoots 65 = .ok (.return_, 1) := by decide +kernel
theorem dX0_tellRoots_66 : decode cX0_tellRoots 66 = .ok (.aload_n 0, 1) := by decide +kernel
theorem dX0_tellRoots_67 : decode cX0_tellRoots 67 = .ok (.getfield 51, 3) := by decide +kernel
theorem dX0_tellRoots_70 : decode cX0_tellRoots 70 = .ok (.invokevirtual 209, 3) := by decide +kernel
theorem dX0_tellRoots_73 : decode cX0_tellRoots 73 = .ok (.iload_n 1, 1) := by decide +kernel
theorem dX0_tellRoots_74 : decode cX0_tellRoots 74 = .ok (.iconst 1, 1) := by decide +kernel
theorem dX0_tellRoots_75 : decode cX0_tellRoots 75 = .ok (.iadd, 1) := by decide +kernel
theorem dX0_tellRoots_76 : decode cX0_tellRoots 76 = .ok (.istore_n 2, 1) := by decide +kernel
theorem dX0_tellRoots_77 : decode cX0_tellRoots 77 = .ok (.iload_n 2, 1) := by decide +kernel
theorem dX0_tellRoots_78 : decode cX0_tellRoots 78 = .ok (.aload_n 0, 1) := by decide +kernel
theorem dX0_tellRoots_79 : decode cX0_tellRoots 79 = .ok (.getfield 43, 3) := by decide +kernel
theorem dX0_tellRoots_82 : decode cX0_tellRoots 82 = .ok (.iload_n 1, 1) := by decide +kernel
theorem dX0_tellRoots_83 : decode cX0_tellRoots 83 = .ok (.invokevirtual 177, 3) := by decide +kernel
theorem dX0_tellRoots_86 : decode cX0_tellRoots 86 = .ok (.if_icmp .ge 20, 3) := by decide +kernel
theorem dX0_tellRoots_89 : decode cX0_tellRoots 89 = .ok (.aload_n 0, 1) := by decide +kernel
theorem dX0_tellRoots_90 : decode cX0_tellRoots 90 = .ok (.iload_n 2, 1) := by decide +kernel
theorem dX0_tellRoots_91 : decode cX0_tellRoots 91 = .ok (.invokevirtual 270, 3) := by decide +kernel
theorem dX0_tellRoots_94 : decode cX0_tellRoots 94 = .ok (.aload_n 0, 1) := by decide +kernel
theorem dX0_tellRoots_95 : decode cX0_tellRoots 95 = .ok (.getfield 43, 3) := by decide +kernel
theorem dX0_tellRoots_98 : decode cX0_tellRoots 98 = .ok (.iload_n 2, 1) := by decide +kernel
theorem dX0_tellRoots_99 : decode cX0_tellRoots 99 = .ok (.invokevirtual 177, 3) := by decide +kernel
theorem dX0_tellRoots_102 : decode cX0_tellRoots 102 = .ok (.istore_n 2, 1) := by decide +kernel
theorem dX0_tellRoots_103 : decode cX0_tellRoots 103 = .ok (.goto (-26), 3) := by decide +kernel
theorem dX0_tellRoots_106 : decode cX0_tellRoots 106 = .ok (.aload_n 0, 1) := by decide +kernel
theorem dX0_tellRoots_107 : decode cX0_tellRoots 107 = .ok (.getfield 51, 3) := by decide +kernel
theorem dX0_tellRoots_110 : decode cX0_tellRoots 110 = .ok (.invokevirtual 158, 3) := by decide +kernel
theorem dX0_tellRoots_113 : decode cX0_tellRoots 113 = .ok (.return_, 1) := by decide +kernel
theorem dX0_startLayer_0 : decode cX0_startLayer 0 = .ok (.aload_n 0, 1) := by decide +kernel
theorem dX0_startLayer_1 : decode cX0_startLayer 1 = .ok (.getfield 34, 3) := by decide +kernel
theorem dX0_startLayer_4 : decode cX0_startLayer 4 = .ok (.sipush 250, 3) := by decide +kernel
theorem dX0_startLayer_7 : decode cX0_startLayer 7 = .ok (.if_icmp .lt 10, 3) := by decide +kernel
theorem dX0_startLayer_10 : decode cX0_startLayer 10 = .ok (.aload_n 0, 1) := by decide +kernel
theorem dX0_startLayer_11 : decode cX0_startLayer 11 = .ok (.iconst 2, 1) := by decide +kernel
theorem dX0_startLayer_12 : decode cX0_startLayer 12 = .ok (.putfield 25, 3) := by decide +kernel
theorem dX0_startLayer_15 : decode cX0_startLayer 15 = .ok (.iconst 0, 1) := by decide +kernel
theorem dX0_startLayer_16 : decode cX0_startLayer 16 = .ok (.ireturn, 1) := by decide +kernel
theorem dX0_startLayer_17 : decode cX0_startLayer 17 = .ok (.aload_n 0, 1) := by decide +kernel
theorem dX0_startLayer_18 : decode cX0_startLayer 18 = .ok (.dup, 1) := by decide +kernel
theorem dX0_startLayer_19 : decode cX0_startLayer 19 = .ok (.getfield 34, 3) := by decide +kernel
theorem dX0_startLayer_22 : decode cX0_startLayer 22 = .ok (.iconst 1, 1) := by decide +kernel
theorem dX0_startLayer_23 : decode cX0_startLayer 23 = .ok (.iadd, 1) := by decide +kernel
theorem dX0_startLayer_24 : decode cX0_startLayer 24 = .ok (.putfield 34, 3) := by decide +kernel
theorem dX0_startLayer_27 : decode cX0_startLayer 27 = .ok (.aload_n 0, 1) := by decide +kernel
theorem dX0_startLayer_28 : decode cX0_startLayer 28 = .ok (.getfield 43, 3) := by decide +kernel
theorem dX0_startLayer_31 : decode cX0_startLayer 31 = .ok (.iload_n 1, 1) := by decide +kernel
theorem dX0_startLayer_32 : decode cX0_startLayer 32 = .ok (.iconst 1, 1) := by decide +kernel
theorem dX0_startLayer_33 : decode cX0_startLayer 33 = .ok (.invokevirtual 196, 3) := by decide +kernel
theorem dX0_startLayer_36 : decode cX0_startLayer 36 = .ok (.istore_n 2, 1) := by decide +kernel
theorem dX0_startLayer_37 : decode cX0_startLayer 37 = .ok (.aload_n 0, 1) := by decide +kernel
theorem dX0_startLayer_38 : decode cX0_startLayer 38 = .ok (.getfield 43, 3) := by decide +kernel
theorem dX0_startLayer_41 : decode cX0_startLayer 41 = .ok (.iload_n 1, 1) := by decide +kernel
theorem dX0_startLayer_42 : decode cX0_startLayer 42 = .ok (.invokevirtual 203, 3) := by decide +kernel
theorem dX0_startLayer_45 : decode cX0_startLayer 45 = .ok (.iconst 3, 1) := by decide +kernel
theorem dX0_startLayer_46 : decode cX0_startLayer 46 = .ok (.if_icmp .ne 27, 3) := by decide +kernel
theorem dX0_startLayer_49 : decode cX0_startLayer 49 = .ok (.aload_n 0, 1) := by decide +kernel
theorem dX0_startLayer_50 : decode cX0_startLayer 50 = .ok (.getfield 43, 3) := by decide +kernel
theorem dX0_startLayer_53 : decode cX0_startLayer 53 = .ok (.iload_n 2, 1) := by decide +kernel
theorem dX0_startLayer_54 : decode cX0_startLayer 54 = .ok (.invokevirtual 112, 3) := by decide +kernel
theorem dX0_startLayer_57 : decode cX0_startLayer 57 = .ok (.ifCond .eq 16, 3) := by decide +kernel
theorem dX0_startLayer_60 : decode cX0_startLayer 60 = .ok (.aload_n 0, 1) := by decide +kernel
theorem dX0_startLayer_61 : decode cX0_startLayer 61 = .ok (.getfield 43, 3) := by decide +kernel
theorem dX0_startLayer_64 : decode cX0_startLayer 64 = .ok (.iload_n 2, 1) := by decide +kernel
theorem dX0_startLayer_65 : decode cX0_startLayer 65 = .ok (.invokevirtual 203, 3) := by decide +kernel
theorem dX0_startLayer_68 : decode cX0_startLayer 68 = .ok (.bipush 6, 2) := by decide +kernel
theorem dX0_startLayer_70 : decode cX0_startLayer 70 = .ok (.if_icmp .le 8, 3) := by decide +kernel
theorem dX0_startLayer_73 : decode cX0_startLayer 73 = .ok (.aload_n 0, 1) := by decide +kernel
theorem dX0_startLayer_74 : decode cX0_startLayer 74 = .ok (.iconst 3, 1) := by decide +kernel
theorem dX0_startLayer_75 : decode cX0_startLayer 75 = .ok (.putfield 25, 3) := by decide +kernel
theorem dX0_startLayer_78 : decode cX0_startLayer 78 = .ok (.aload_n 0, 1) := by decide +kernel
theorem dX0_startLayer_79 : decode cX0_startLayer 79 = .ok (.getfield 25, 3) := by decide +kernel
theorem dX0_startLayer_82 : decode cX0_startLayer 82 = .ok (.ifCond .ne 7, 3) := by decide +kernel
theorem dX0_startLayer_85 : decode cX0_startLayer 85 = .ok (.iconst 1, 1) := by decide +kernel
theorem dX0_startLayer_86 : decode cX0_startLayer 86 = .ok (.goto 4, 3) := by decide +kernel
theorem dX0_startLayer_89 : decode cX0_startLayer 89 = .ok (.iconst 0, 1) := by decide +kernel
theorem dX0_startLayer_90 : decode cX0_startLayer 90 = .ok (.ireturn, 1) := by decide +kernel
theorem dX0_canBind_0 : decode cX0_canBind 0 = .ok (.iload_n 1, 1) := by decide +kernel
theorem dX0_canBind_1 : decode cX0_canBind 1 = .ok (.invokestatic 273, 3) := by decide +kernel
theorem dX0_canBind_4 : decode cX0_canBind 4 = .ok (.ifCond .eq 15, 3) := by decide +kernel
theorem dX0_canBind_7 : decode cX0_canBind 7 = .ok (.aload_n 0, 1) := by decide +kernel
theorem dX0_canBind_8 : decode cX0_canBind 8 = .ok (.getfield 60, 3) := by decide +kernel
theorem dX0_canBind_11 : decode cX0_canBind 11 = .ok (.iload_n 2, 1) := by decide +kernel
theorem dX0_canBind_12 : decode cX0_canBind 12 = .ok (.iload_n 1, 1) := by decide +kernel
theorem dX0_canBind_13 : decode cX0_canBind 13 = .ok (.invokevirtual 276, 3) := by decide +kernel
theorem dX0_canBind_16 : decode cX0_canBind 16 = .ok (.ifCond .eq 8, 3) := by decide +kernel
theorem dX0_canBind_19 : decode cX0_canBind 19 = .ok (.aload_n 0, 1) := by decide +kernel
theorem dX0_canBind_20 : decode cX0_canBind 20 = .ok (.iconst 3, 1) := by decide +kernel
theorem dX0_canBind_21 : decode cX0_canBind 21 = .ok (.putfield 25, 3) := by decide +kernel
theorem dX0_canBind_24 : decode cX0_canBind 24 = .ok (.aload_n 0, 1) := by decide +kernel
theorem dX0_canBind_25 : decode cX0_canBind 25 = .ok (.getfield 25, 3) := by decide +kernel
theorem dX0_canBind_28 : decode cX0_canBind 28 = .ok (.ifCond .ne 7, 3) := by decide +kernel
theorem dX0_canBind_31 : decode cX0_canBind 31 = .ok (.iconst 1, 1) := by decide +kernel
theorem dX0_canBind_32 : decode cX0_canBind 32 = .ok (.goto 4, 3) := by decide +kernel
theorem dX0_canBind_35 : decode cX0_canBind 35 = .ok (.iconst 0, 1) := by decide +kernel
theorem dX0_canBind_36 : decode cX0_canBind 36 = .ok (.ireturn, 1) := by decide +kernel
theorem dX0_expandLambda_0 : decode cX0_expandLambda 0 = .ok (.aload_n 0, 1) := by decide +kernel
theorem dX0_expandLambda_1 : decode cX0_expandLambda 1 = .ok (.iload_n 1, 1) := by decide +kernel
theorem dX0_expandLambda_2 : decode cX0_expandLambda 2 = .ok (.invokevirtual 279, 3) := by decide +kernel
theorem dX0_expandLambda_5 : decode cX0_expandLambda 5 = .ok (.ifCond .ne 4, 3) := by decide +kernel
theorem dX0_expandLambda_8 : decode cX0_expandLambda 8 = .ok (.return_, 1) := by decide +kernel
theorem dX0_expandLambda_9 : decode cX0_expandLambda 9 = .ok (.aload_n 0, 1) := by decide +kernel
theorem dX0_expandLambda_10 : decode cX0_expandLambda 10 = .ok (.getfield 51, 3) := by decide +kernel
theorem dX0_expandLambda_13 : decode cX0_expandLambda 13 = .ok (.invokevirtual 209, 3) := by decide +kernel
theorem dX0_expandLambda_16 : decode cX0_expandLambda 16 = .ok (.aload_n 0, 1) := by decide +kernel
theorem dX0_expandLambda_17 : decode cX0_expandLambda 17 = .ok (.getfield 51, 3) := by decide +kernel
theorem dX0_expandLambda_20 : decode cX0_expandLambda 20 = .ok (.aload_n 0, 1) := by decide +kernel
theorem dX0_expandLambda_21 : decode cX0_expandLambda 21 = .ok (.getfield 47, 3) := by decide +kernel
theorem dX0_expandLambda_24 : decode cX0_expandLambda 24 = .ok (.iconst 0, 1) := by decide +kernel
theorem dX0_expandLambda_25 : decode cX0_expandLambda 25 = .ok (.invokevirtual 212, 3) := by decide +kernel
theorem dX0_expandLambda_28 : decode cX0_expandLambda 28 = .ok (.aload_n 0, 1) := by decide +kernel
theorem dX0_expandLambda_29 : decode cX0_expandLambda 29 = .ok (.getfield 51, 3) := by decide +kernel
theorem dX0_expandLambda_32 : decode cX0_expandLambda 32 = .ok (.invokevirtual 209, 3) := by decide +kernel
theorem dX0_expandLambda_35 : decode cX0_expandLambda 35 = .ok (.aload_n 0, 1) := by decide +kernel
theorem dX0_expandLambda_36 : decode cX0_expandLambda 36 = .ok (.getfield 43, 3) := by decide +kernel
theorem dX0_expandLambda_39 : decode cX0_expandLambda 39 = .ok (.iload_n 1, 1) := by decide +kernel
theorem dX0_expandLambda_40 : decode cX0_expandLambda 40 = .ok (.iconst 1, 1) := by decide +kernel
theorem dX0_expandLambda_41 : decode cX0_expandLambda 41 = .ok (.invokevirtual 196, 3) := by decide +kernel
theorem dX0_expandLambda_44 : decode cX0_expandLambda 44 = .ok (.istore_n 2, 1) := by decide +kernel
theorem dX0_expandLambda_45 : decode cX0_expandLambda 45 = .ok (.aload_n 0, 1) := by decide +kernel
theorem dX0_expandLambda_46 : decode cX0_expandLambda 46 = .ok (.iload_n 2, 1) := by decide +kernel
theorem dX0_expandLambda_47 : decode cX0_expandLambda 47 = .ok (.invokevirtual 282, 3) := by decide +kernel
theorem dX0_expandLambda_50 : decode cX0_expandLambda 50 = .ok (.aload_n 0, 1) := by decide +kernel
theorem dX0_expandLambda_51 : decode cX0_expandLambda 51 = .ok (.getfield 51, 3) := by decide +kernel
theorem dX0_expandLambda_54 : decode cX0_expandLambda 54 = .ok (.invokevirtual 158, 3) := by decide +kernel
theorem dX0_expandLambda_57 : decode cX0_expandLambda 57 = .ok (.aload_n 0, 1) := by decide +kernel
theorem dX0_expandLambda_58 : decode cX0_expandLambda 58 = .ok (.getfield 12, 3) := by decide +kernel
theorem dX0_expandLambda_61 : decode cX0_expandLambda 61 = .ok (.aload_n 0, 1) := by decide +kernel
theorem dX0_expandLambda_62 : decode cX0_expandLambda 62 = .ok (.getfield 43, 3) := by decide +kernel
theorem dX0_expandLambda_65 : decode cX0_expandLambda 65 = .ok (.iload_n 2, 1) := by decide +kernel
theorem dX0_expandLambda_66 : decode cX0_expandLambda 66 = .ok (.invokevirtual 177, 3) := by decide +kernel
theorem dX0_expandLambda_69 : decode cX0_expandLambda 69 = .ok (.aload_n 0, 1) := by decide +kernel
theorem dX0_expandLambda_70 : decode cX0_expandLambda 70 = .ok (.getfield 43, 3) := by decide +kernel
theorem dX0_expandLambda_73 : decode cX0_expandLambda 73 = .ok (.iload_n 1, 1) := by decide +kernel
theorem dX0_expandLambda_74 : decode cX0_expandLambda 74 = .ok (.invokevirtual 177, 3) := by decide +kernel
theorem dX0_expandLambda_77 : decode cX0_expandLambda 77 = .ok (.iconst 1, 1) := by decide +kernel
theorem dX0_expandLambda_78 : decode cX0_expandLambda 78 = .ok (.invokevirtual 216, 3) := by decide +kernel
theorem dX0_expandLambda_81 : decode cX0_expandLambda 81 = .ok (.return_, 1) := by decide +kernel
theorem dX0_bindVariables_0 : decode cX0_bindVariables 0 = .ok (.aload_n 0, 1) := by decide +kernel
theorem dX0_bindVariables_1 : decode cX0_bindVariables 1 = .ok (.getfield 60, 3) := by decide +kernel
theorem dX0_bindVariables_4 : decode cX0_bindVariables 4 = .ok (.getfield 192, 3) := by decide +kernel
theorem dX0_bindVariables_7 : decode cX0_bindVariables 7 = .ok (.istore_n 2, 1) := by decide +kernel
theorem dX0_bindVariables_8 : decode cX0_bindVariables 8 = .ok (.iload_n 1, 1) := by decide +kernel
theorem dX0_bindVariables_9 : decode cX0_bindVariables 9 = .ok (.iconst 1, 1) := by decide +kernel
theorem dX0_bindVariables_10 : decode cX0_bindVariables 10 = .ok (.iadd, 1) := by decide +kernel
theorem dX0_bindVariables_11 : decode cX0_bindVariables 11 = .ok (.istore_n 3, 1) := by decide +kernel
theorem dX0_bindVariables_12 : decode cX0_bindVariables 12 = .ok (.iload_n 3, 1) := by decide +kernel
theorem dX0_bindVariables_13 : decode cX0_bindVariables 13 = .ok (.aload_n 0, 1) := by decide +kernel
theorem dX0_bindVariables_14 : decode cX0_bindVariables 14 = .ok (.getfield 43, 3) := by decide +kernel
theorem dX0_bindVariables_17 : decode cX0_bindVariables 17 = .ok (.iload_n 1, 1) := by decide +kernel
theorem dX0_bindVariables_18 : decode cX0_bindVariables 18 = .ok (.invokevirtual 177, 3) := by decide +kernel
theorem dX0_bindVariables_21 : decode cX0_bindVariables 21 = .ok (.if_icmp .ge 76, 3) := by decide +kernel
theorem dX0_bindVariables_24 : decode cX0_bindVariables 24 = .ok (.aload_n 0, 1) := by decide +kernel
theorem dX0_bindVariables_25 : decode cX0_bindVariables 25 = .ok (.getfield 25, 3) := by decide +kernel
theorem dX0_bindVariables_28 : decode cX0_bindVariables 28 = .ok (.ifCond .ne 69, 3) := by decide +kernel
theorem dX0_bindVariables_31 : decode cX0_bindVariables 31 = .ok (.aload_n 0, 1) := by decide +kernel
theorem dX0_bindVariables_32 : decode cX0_bindVariables 32 = .ok (.getfield 43, 3) := by decide +kernel
theorem dX0_bindVariables_35 : decode cX0_bindVariables 35 = .ok (.iload_n 3, 1) := by decide +kernel
theorem dX0_bindVariables_36 : decode cX0_bindVariables 36 = .ok (.invokevirtual 200, 3) := by decide +kernel
theorem dX0_bindVariables_39 : decode cX0_bindVariables 39 = .ok (.istore 4, 2) := by decide +kernel
theorem dX0_bindVariables_41 : decode cX0_bindVariables 41 = .ok (.aload_n 0, 1) := by decide +kernel
theorem dX0_bindVariables_42 : decode cX0_bindVariables 42 = .ok (.iload 4, 2) := by decide +kernel
theorem dX0_bindVariables_44 : decode cX0_bindVariables 44 = .ok (.iload_n 2, 1) := by decide +kernel
theorem dX0_bindVariables_45 : decode cX0_bindVariables 45 = .ok (.invokevirtual 285, 3) := by decide +kernel
theorem dX0_bindVariables_48 : decode cX0_bindVariables 48 = .ok (.ifCond .eq 37, 3) := by decide +kernel
theorem dX0_bindVariables_51 : decode cX0_bindVariables 51 = .ok (.aload_n 0, 1) := by decide +kernel
theorem dX0_bindVariables_52 : decode cX0_bindVariables 52 = .ok (.getfield 51, 3) := by decide +kernel
theorem dX0_bindVariables_55 : decode cX0_bindVariables 55 = .ok (.aload_n 0, 1) := by decide +kernel
theorem dX0_bindVariables_56 : decode cX0_bindVariables 56 = .ok (.getfield 37, 3) := by decide +kernel
theorem dX0_bindVariables_59 : decode cX0_bindVariables 59 = .ok (.invokevirtual 236, 3) := by decide +kernel
theorem dX0_bindVariables_62 : decode cX0_bindVariables 62 = .ok (.aload_n 0, 1) := by decide +kernel
theorem dX0_bindVariables_63 : decode cX0_bindVariables 63 = .ok (.getfield 60, 3) := by decide +kernel
theorem dX0_bindVariables_66 : decode cX0_bindVariables 66 = .ok (.iload 4, 2) := by decide +kernel
theorem dX0_bindVariables_68 : decode cX0_bindVariables 68 = .ok (.aload_n 0, 1) := by decide +kernel
theorem dX0_bindVariables_69 : decode cX0_bindVariables 69 = .ok (.getfield 37, 3) := by decide +kernel
theorem dX0_bindVariables_72 : decode cX0_bindVariables 72 = .ok (.invokevirtual 288, 3) := by decide +kernel
theorem dX0_bindVariables_75 : decode cX0_bindVariables 75 = .ok (.aload_n 0, 1) := by decide +kernel
theorem dX0_bindVariables_76 : decode cX0_bindVariables 76 = .ok (.dup, 1) := by decide +kernel
theorem dX0_bindVariables_77 : decode cX0_bindVariables 77 = .ok (.getfield 37, 3) := by decide +kernel
theorem dX0_bindVariables_80 : decode cX0_bindVariables 80 = .ok (.iconst 1, 1) := by decide +kernel
theorem dX0_bindVariables_81 : decode cX0_bindVariables 81 = .ok (.iadd, 1) := by decide +kernel
theorem dX0_bindVariables_82 : decode cX0_bindVariables 82 = .ok (.putfield 37, 3) := by decide +kernel
theorem dX0_bindVariables_85 : decode cX0_bindVariables 85 = .ok (.aload_n 0, 1) := by decide +kernel
theorem dX0_bindVariables_86 : decode cX0_bindVariables 86 = .ok (.getfield 43, 3) := by decide +kernel
theorem dX0_bindVariables_89 : decode cX0_bindVariables 89 = .ok (.iload_n 3, 1) := by decide +kernel
theorem dX0_bindVariables_90 : decode cX0_bindVariables 90 = .ok (.invokevirtual 177, 3) := by decide +kernel
theorem dX0_bindVariables_93 : decode cX0_bindVariables 93 = .ok (.istore_n 3, 1) := by decide +kernel
theorem dX0_bindVariables_94 : decode cX0_bindVariables 94 = .ok (.goto (-82), 3) := by decide +kernel
theorem dX0_bindVariables_97 : decode cX0_bindVariables 97 = .ok (.return_, 1) := by decide +kernel
theorem dX0_expandLetSyntax_0 : decode cX0_expandLetSyntax 0 = .ok (.aload_n 0, 1) := by decide +kernel
theorem dX0_expandLetSyntax_1 : decode cX0_expandLetSyntax 1 = .ok (.iload_n 1, 1) := by decide +kernel
theorem dX0_expandLetSyntax_2 : decode cX0_expandLetSyntax 2 = .ok (.invokevirtual 279, 3) := by decide +kernel
theorem dX0_expandLetSyntax_5 : decode cX0_expandLetSyntax 5 = .ok (.ifCond .ne 4, 3) := by decide +kernel
theorem dX0_expandLetSyntax_8 : decode cX0_expandLetSyntax 8 = .ok (.return_, 1) := by decide +kernel
theorem dX0_expandLetSyntax_9 : decode cX0_expandLetSyntax 9 = .ok (.aload_n 0, 1) := by decide +kernel
theorem dX0_expandLetSyntax_10 : decode cX0_expandLetSyntax 10 = .ok (.getfield 43, 3) := by decide +kernel
theorem dX0_expandLetSyntax_13 : decode cX0_expandLetSyntax 13 = .ok (.iload_n 1, 1) := by decide +kernel
theorem dX0_expandLetSyntax_14 : decode cX0_expandLetSyntax 14 = .ok (.iconst 1, 1) := by decide +kernel
theorem dX0_expandLetSyntax_15 : decode cX0_expandLetSyntax 15 = .ok (.invokevirtual 196, 3) := by decide +kernel
theorem dX0_expandLetSyntax_18 : decode cX0_expandLetSyntax 18 = .ok (.istore_n 2, 1) := by decide +kernel
theorem dX0_expandLetSyntax_19 : decode cX0_expandLetSyntax 19 = .ok (.aload_n 0, 1) := by decide +kernel
theorem dX0_expandLetSyntax_20 : decode cX0_expandLetSyntax 20 = .ok (.getfield 60, 3) := by decide +kernel
theorem dX0_expandLetSyntax_23 : decode cX0_expandLetSyntax 23 = .ok (.getfield 192, 3) := by decide +kernel
theorem dX0_expandLetSyntax_26 : decode cX0_expandLetSyntax 26 = .ok (.aload_n 0, 1) := by decide +kernel
theorem dX0_expandLetSyntax_27 : decode cX0_expandLetSyntax 27 = .ok (.getfield 43, 3) := by decide +kernel
theorem dX0_expandLetSyntax_30 : decode cX0_expandLetSyntax 30 = .ok (.iload_n 2, 1) := by decide +kernel
theorem dX0_expandLetSyntax_31 : decode cX0_expandLetSyntax 31 = .ok (.invokevirtual 203, 3) := by decide +kernel
theorem dX0_expandLetSyntax_34 : decode cX0_expandLetSyntax 34 = .ok (.iadd, 1) := by decide +kernel
theorem dX0_expandLetSyntax_35 : decode cX0_expandLetSyntax 35 = .ok (.istore_n 3, 1) := by decide +kernel
theorem dX0_expandLetSyntax_36 : decode cX0_expandLetSyntax 36 = .ok (.iload_n 3, 1) := by decide +kernel
theorem dX0_expandLetSyntax_37 : decode cX0_expandLetSyntax 37 = .ok (.aload_n 0, 1) := by decide +kernel
theorem dX0_expandLetSyntax_38 : decode cX0_expandLetSyntax 38 = .ok (.getfield 60, 3) := by decide +kernel
theorem dX0_expandLetSyntax_41 : decode cX0_expandLetSyntax 41 = .ok (.getfield 192, 3) := by decide +kernel
theorem dX0_expandLetSyntax_44 : decode cX0_expandLetSyntax 44 = .ok (.if_icmp .ne 8, 3) := by decide +kernel
theorem dX0_expandLetSyntax_47 : decode cX0_expandLetSyntax 47 = .ok (.aload_n 0, 1) := by decide +kernel
theorem dX0_expandLetSyntax_48 : decode cX0_expandLetSyntax 48 = .ok (.iconst 3, 1) := by decide +kernel
theorem dX0_expandLetSyntax_49 : decode cX0_expandLetSyntax 49 = .ok (.putfield 25, 3) := by decide +kernel
theorem dX0_expandLetSyntax_52 : decode cX0_expandLetSyntax 52 = .ok (.aload_n 0, 1) := by decide +kernel
theorem dX0_expandLetSyntax_53 : decode cX0_expandLetSyntax 53 = .ok (.iload_n 2, 1) := by decide +kernel
theorem dX0_expandLetSyntax_54 : decode cX0_expandLetSyntax 54 = .ok (.iload_n 3, 1) := by decide +kernel
theorem dX0_expandLetSyntax_55 : decode cX0_expandLetSyntax 55 = .ok (.invokevirtual 291, 3) := by decide +kernel
theorem dX0_expandLetSyntax_58 : decode cX0_expandLetSyntax 58 = .ok (.iload_n 2, 1) := by decide +kernel
theorem dX0_expandLetSyntax_59 : decode cX0_expandLetSyntax 59 = .ok (.iconst 1, 1) := by decide +kernel
theorem dX0_expandLetSyntax_60 : decode cX0_expandLetSyntax 60 = .ok (.iadd, 1) := by decide +kernel
theorem dX0_expandLetSyntax_61 : decode cX0_expandLetSyntax 61 = .ok (.istore 4, 2) := by decide +kernel
theorem dX0_expandLetSyntax_63 : decode cX0_expandLetSyntax 63 = .ok (.iload 4, 2) := by decide +kernel
theorem dX0_expandLetSyntax_65 : decode cX0_expandLetSyntax 65 = .ok (.aload_n 0, 1) := by decide +kernel
theorem dX0_expandLetSyntax_66 : decode cX0_expandLetSyntax 66 = .ok (.getfield 43, 3) := by decide +kernel
theorem dX0_expandLetSyntax_69 : decode cX0_expandLetSyntax 69 = .ok (.iload_n 2, 1) := by decide +kernel
theorem dX0_expandLetSyntax_70 : decode cX0_expandLetSyntax 70 = .ok (.invokevirtual 177, 3) := by decide +kernel
theorem dX0_expandLetSyntax_73 : decode cX0_expandLetSyntax 73 = .ok (.if_icmp .ge 50, 3) := by decide +kernel
theorem dX0_expandLetSyntax_76 : decode cX0_expandLetSyntax 76 = .ok (.aload_n 0, 1) := by decide +kernel
theorem dX0_expandLetSyntax_77 : decode cX0_expandLetSyntax 77 = .ok (.getfield 25, 3) := by decide +kernel
theorem dX0_expandLetSyntax_80 : decode cX0_expandLetSyntax 80 = .ok (.ifCond .ne 43, 3) := by decide +kernel
theorem dX0_expandLetSyntax_83 : decode cX0_expandLetSyntax 83 = .ok (.aload_n 0, 1) := by decide +kernel
theorem dX0_expandLetSyntax_84 : decode cX0_expandLetSyntax 84 = .ok (.getfield 69, 3) := by decide +kernel
theorem dX0_expandLetSyntax_87 : decode cX0_expandLetSyntax 87 = .ok (.aload_n 0, 1) := by decide +kernel
theorem dX0_expandLetSyntax_88 : decode cX0_expandLetSyntax 88 = .ok (.getfield 43, 3) := by decide +kernel
theorem dX0_expandLetSyntax_91 : decode cX0_expandLetSyntax 91 = .ok (.iload 4, 2) := by decide +kernel
theorem dX0_expandLetSyntax_93 : decode cX0_expandLetSyntax 93 = .ok (.iconst 1, 1) := by decide +kernel
theorem dX0_expandLetSyntax_94 : decode cX0_expandLetSyntax 94 = .ok (.invokevirtual 196, 3) := by decide +kernel
theorem dX0_expandLetSyntax_97 : decode cX0_expandLetSyntax 97 = .ok (.iload_n 3, 1) := by decide +kernel
theorem dX0_expandLetSyntax_98 : decode cX0_expandLetSyntax 98 = .ok (.invokevirtual 220, 3) := by decide +kernel
theorem dX0_expandLetSyntax_101 : decode cX0_expandLetSyntax 101 = .ok (.ifCond .ne 8, 3) := by decide +kernel
theorem dX0_expandLetSyntax_104 : decode cX0_expandLetSyntax 104 = .ok (.aload_n 0, 1) := by decide +kernel
theorem dX0_expandLetSyntax_105 : decode cX0_expandLetSyntax 105 = .ok (.iconst 3, 1) := by decide +kernel
theorem dX0_expandLetSyntax_106 : decode cX0_expandLetSyntax 106 = .ok (.putfield 25, 3) := by decide +kernel
theorem dX0_expandLetSyntax_109 : decode cX0_expandLetSyntax 109 = .ok (.aload_n 0, 1) := by decide +kernel
theorem dX0_expandLetSyntax_110 : decode cX0_expandLetSyntax 110 = .ok (.getfield 43, 3) := by decide +kernel
theorem dX0_expandLetSyntax_113 : decode cX0_expandLetSyntax 113 = .ok (.iload 4, 2) := by decide +kernel
theorem dX0_expandLetSyntax_115 : decode cX0_expandLetSyntax 115 = .ok (.invokevirtual 177, 3) := by decide +kernel
theorem dX0_expandLetSyntax_118 : decode cX0_expandLetSyntax 118 = .ok (.istore 4, 2) := by decide +kernel
theorem dX0_expandLetSyntax_120 : decode cX0_expandLetSyntax 120 = .ok (.goto (-57), 3) := by decide +kernel
theorem dX0_expandLetSyntax_123 : decode cX0_expandLetSyntax 123 = .ok (.aload_n 0, 1) := by decide +kernel
theorem dX0_expandLetSyntax_124 : decode cX0_expandLetSyntax 124 = .ok (.getfield 12, 3) := by decide +kernel
theorem dX0_expandLetSyntax_127 : decode cX0_expandLetSyntax 127 = .ok (.aload_n 0, 1) := by decide +kernel
theorem dX0_expandLetSyntax_128 : decode cX0_expandLetSyntax 128 = .ok (.getfield 43, 3) := by decide +kernel
theorem dX0_expandLetSyntax_131 : decode cX0_expandLetSyntax 131 = .ok (.iload_n 2, 1) := by decide +kernel
theorem dX0_expandLetSyntax_132 : decode cX0_expandLetSyntax 132 = .ok (.invokevirtual 177, 3) := by decide +kernel
theorem dX0_expandLetSyntax_135 : decode cX0_expandLetSyntax 135 = .ok (.aload_n 0, 1) := by decide +kernel
theorem dX0_expandLetSyntax_136 : decode cX0_expandLetSyntax 136 = .ok (.getfield 43, 3) := by decide +kernel
theorem dX0_expandLetSyntax_139 : decode cX0_expandLetSyntax 139 = .ok (.iload_n 1, 1) := by decide +kernel
theorem dX0_expandLetSyntax_140 : decode cX0_expandLetSyntax 140 = .ok (.invokevirtual 177, 3) := by decide +kernel
theorem dX0_expandLetSyntax_143 : decode cX0_expandLetSyntax 143 = .ok (.iconst 0, 1) := by decide +kernel
theorem dX0_expandLetSyntax_144 : decode cX0_expandLetSyntax 144 = .ok (.invokevirtual 216, 3) := by decide +kernel
theorem dX0_expandLetSyntax_147 : decode cX0_expandLetSyntax 147 = .ok (.return_, 1) := by decide +kernel
theorem dX0_bindMacros_0 : decode cX0_bindMacros 0 = .ok (.aload_n 0, 1) := by decide +kernel
theorem dX0_bindMacros_1 : decode cX0_bindMacros 1 = .ok (.getfield 60, 3) := by decide +kernel
theorem dX0_bindMacros_4 : decode cX0_bindMacros 4 = .ok (.getfield 192, 3) := by decide +kernel
theorem dX0_bindMacros_7 : decode cX0_bindMacros 7 = .ok (.istore_n 3, 1) := by decide +kernel
theorem dX0_bindMacros_8 : decode cX0_bindMacros 8 = .ok (.iload_n 1, 1) := by decide +kernel
theorem dX0_bindMacros_9 : decode cX0_bindMacros 9 = .ok (.iconst 1, 1) := by decide +kernel
theorem dX0_bindMacros_10 : decode cX0_bindMacros 10 = .ok (.iadd, 1) := by decide +kernel
theorem dX0_bindMacros_11 : decode cX0_bindMacros 11 = .ok (.istore 4, 2) := by decide +kernel
theorem dX0_bindMacros_13 : decode cX0_bindMacros 13 = .ok (.iload 4, 2) := by decide +kernel
theorem dX0_bindMacros_15 : decode cX0_bindMacros 15 = .ok (.aload_n 0, 1) := by decide +kernel
theorem dX0_bindMacros_16 : decode cX0_bindMacros 16 = .ok (.getfield 43, 3) := by decide +kernel
theorem dX0_bindMacros_19 : decode cX0_bindMacros 19 = .ok (.iload_n 1, 1) := by decide +kernel
theorem dX0_bindMacros_20 : decode cX0_bindMacros 20 = .ok (.invokevirtual 177, 3) := by decide +kernel
theorem dX0_bindMacros_23 : decode cX0_bindMacros 23 = .ok (.if_icmp .ge 88, 3) := by decide +kernel
theorem dX0_bindMacros_26 : decode cX0_bindMacros 26 = .ok (.aload_n 0, 1) := by decide +kernel
theorem dX0_bindMacros_27 : decode cX0_bindMacros 27 = .ok (.getfield 25, 3) := by decide +kernel
theorem dX0_bindMacros_30 : decode cX0_bindMacros 30 = .ok (.ifCond .ne 81, 3) := by decide +kernel
theorem dX0_bindMacros_33 : decode cX0_bindMacros 33 = .ok (.aload_n 0, 1) := by decide +kernel
theorem dX0_bindMacros_34 : decode cX0_bindMacros 34 = .ok (.getfield 43, 3) := by decide +kernel
theorem dX0_bindMacros_37 : decode cX0_bindMacros 37 = .ok (.iload 4, 2) := by decide +kernel
theorem dX0_bindMacros_39 : decode cX0_bindMacros 39 = .ok (.iconst 1, 1) := by decide +kernel
theorem dX0_bindMacros_40 : decode cX0_bindMacros 40 = .ok (.iadd, 1) := by decide +kernel
theorem dX0_bindMacros_41 : decode cX0_bindMacros 41 = .ok (.invokevirtual 200, 3) := by decide +kernel
theorem dX0_bindMacros_44 : decode cX0_bindMacros 44 = .ok (.istore 5, 2) := by decide +kernel
theorem dX0_bindMacros_46 : decode cX0_bindMacros 46 = .ok (.aload_n 0, 1) := by decide +kernel
theorem dX0_bindMacros_47 : decode cX0_bindMacros 47 = .ok (.getfield 43, 3) := by decide +kernel
theorem dX0_bindMacros_50 : decode cX0_bindMacros 50 = .ok (.iload 4, 2) := by decide +kernel
theorem dX0_bindMacros_52 : decode cX0_bindMacros 52 = .ok (.invokevirtual 203, 3) := by decide +kernel
theorem dX0_bindMacros_55 : decode cX0_bindMacros 55 = .ok (.iconst 2, 1) := by decide +kernel
theorem dX0_bindMacros_56 : decode cX0_bindMacros 56 = .ok (.if_icmp .eq 11, 3) := by decide +kernel
theorem dX0_bindMacros_59 : decode cX0_bindMacros 59 = .ok (.aload_n 0, 1) := by decide +kernel
theorem dX0_bindMacros_60 : decode cX0_bindMacros 60 = .ok (.iconst 3, 1) := by decide +kernel
theorem dX0_bindMacros_61 : decode cX0_bindMacros 61 = .ok (.putfield 25, 3) := by decide +kernel
theorem dX0_bindMacros_64 : decode cX0_bindMacros 64 = .ok (.goto 33, 3) := by decide +kernel
theorem dX0_bindMacros_67 : decode cX0_bindMacros 67 = .ok (.aload_n 0, 1) := by decide +kernel
theorem dX0_bindMacros_68 : decode cX0_bindMacros 68 = .ok (.iload 5, 2) := by decide +kernel
theorem dX0_bindMacros_70 : decode cX0_bindMacros 70 = .ok (.iload_n 3, 1) := by decide +kernel
theorem dX0_bindMacros_71 : decode cX0_bindMacros 71 = .ok (.invokevirtual 285, 3) := by decide +kernel
theorem dX0_bindMacros_74 : decode cX0_bindMacros 74 = .ok (.ifCond .eq 23, 3) := by decide +kernel
theorem dX0_bindMacros_77 : decode cX0_bindMacros 77 = .ok (.aload_n 0, 1) := by decide +kernel
theorem dX0_bindMacros_78 : decode cX0_bindMacros 78 = .ok (.getfield 60, 3) := by decide +kernel
theorem dX0_bindMacros_81 : decode cX0_bindMacros 81 = .ok (.iload 5, 2) := by decide +kernel
theorem dX0_bindMacros_83 : decode cX0_bindMacros 83 = .ok (.aload_n 0, 1) := by decide +kernel
theorem dX0_bindMacros_84 : decode cX0_bindMacros 84 = .ok (.getfield 43, 3) := by decide +kernel
theorem dX0_bindMacros_87 : decode cX0_bindMacros 87 = .ok (.iload 4, 2) := by decide +kernel
theorem dX0_bindMacros_89 : decode cX0_bindMacros 89 = .ok (.iconst 1, 1) := by decide +kernel
theorem dX0_bindMacros_90 : decode cX0_bindMacros 90 = .ok (.invokevirtual 196, 3) := by decide +kernel
theorem dX0_bindMacros_93 : decode cX0_bindMacros 93 = .ok (.iload_n 2, 1) := by decide +kernel
theorem dX0_bindMacros_94 : decode cX0_bindMacros 94 = .ok (.invokevirtual 294, 3) := by decide +kernel
theorem dX0_bindMacros_97 : decode cX0_bindMacros 97 = .ok (.aload_n 0, 1) := by decide +kernel
theorem dX0_bindMacros_98 : decode cX0_bindMacros 98 = .ok (.getfield 43, 3) := by decide +kernel
theorem dX0_bindMacros_101 : decode cX0_bindMacros 101 = .ok (.iload 4, 2) := by decide +kernel
theorem dX0_bindMacros_103 : decode cX0_bindMacros 103 = .ok (.invokevirtual 177, 3) := by decide +kernel
theorem dX0_bindMacros_106 : decode cX0_bindMacros 106 = .ok (.istore 4, 2) := by decide +kernel
theorem dX0_bindMacros_108 : decode cX0_bindMacros 108 = .ok (.goto (-95), 3) := by decide +kernel
theorem dX0_bindMacros_111 : decode cX0_bindMacros 111 = .ok (.return_, 1) := by decide +kernel
theorem dX1_init_0 : decode cX1_init 0 = .ok (.aload_n 0, 1) := by decide +kernel
theorem dX1_init_1 : decode cX1_init 1 = .ok (.invokespecial 3, 3) := by decide +kernel
theorem dX1_init_4 : decode cX1_init 4 = .ok (.aload_n 0, 1) := by decide +kernel
theorem dX1_init_5 : decode cX1_init 5 = .ok (.sipush 10000, 3) := by decide +kernel
theorem dX1_init_8 : decode cX1_init 8 = .ok (.newarray .int, 2) := by decide +kernel
theorem dX1_init_10 : decode cX1_init 10 = .ok (.putfield 11, 3) := by decide +kernel
theorem dX1_init_13 : decode cX1_init 13 = .ok (.aload_n 0, 1) := by decide +kernel
theorem dX1_init_14 : decode cX1_init 14 = .ok (.sipush 10000, 3) := by decide +kernel
theorem dX1_init_17 : decode cX1_init 17 = .ok (.newarray .int, 2) := by decide +kernel
theorem dX1_init_19 : decode cX1_init 19 = .ok (.putfield 15, 3) := by decide +kernel
theorem dX1_init_22 : decode cX1_init 22 = .ok (.aload_n 0, 1) := by decide +kernel
theorem dX1_init_23 : decode cX1_init 23 = .ok (.sipush 4000, 3) := by decide +kernel
theorem dX1_init_26 : decode cX1_init 26 = .ok (.putfield 18, 3) := by decide +kernel
theorem dX1_init_29 : decode cX1_init 29 = .ok (.aload_n 0, 1) := by decide +kernel
theorem dX1_init_30 : decode cX1_init 30 = .ok (.iconst 0, 1) := by decide +kernel
theorem dX1_init_31 : decode cX1_init 31 = .ok (.putfield 22, 3) := by decide +kernel
theorem dX1_init_34 : decode cX1_init 34 = .ok (.return_, 1) := by decide +kernel
theorem dX1_startText_0 : decode cX1_startText 0 = .ok (.aload_n 0, 1) := by decide +kernel
theorem dX1_startText_1 : decode cX1_startText 1 = .ok (.sipush 4000, 3) := by decide +kernel
theorem dX1_startText_4 : decode cX1_startText 4 = .ok (.putfield 18, 3) := by decide +kernel
theorem dX1_startText_7 : decode cX1_startText 7 = .ok (.return_, 1) := by decide +kernel
theorem dX1_makeRoom_0 : decode cX1_makeRoom 0 = .ok (.aload_n 0, 1) := by decide +kernel
theorem dX1_makeRoom_1 : decode cX1_makeRoom 1 = .ok (.getfield 18, 3) := by decide +kernel
theorem dX1_makeRoom_4 : decode cX1_makeRoom 4 = .ok (.sipush 600, 3) := by decide +kernel
theorem dX1_makeRoom_7 : decode cX1_makeRoom 7 = .ok (.iadd, 1) := by decide +kernel
theorem dX1_makeRoom_8 : decode cX1_makeRoom 8 = .ok (.aload_n 0, 1) := by decide +kernel
theorem dX1_makeRoom_9 : decode cX1_makeRoom 9 = .ok (.getfield 11, 3) := by decide +kernel
theorem dX1_makeRoom_12 : decode cX1_makeRoom 12 = .ok (.arraylength, 1) := by decide +kernel
theorem dX1_makeRoom_13 : decode cX1_makeRoom 13 = .ok (.if_icmp .le 39, 3) := by decide +kernel
theorem dX1_makeRoom_16 : decode cX1_makeRoom 16 = .ok (.aload_n 0, 1) := by decide +kernel
theorem dX1_makeRoom_17 : decode cX1_makeRoom 17 = .ok (.getfield 11, 3) := by decide +kernel
theorem dX1_makeRoom_20 : decode cX1_makeRoom 20 = .ok (.arraylength, 1) := by decide +kernel
theorem dX1_makeRoom_21 : decode cX1_makeRoom 21 = .ok (.ldc 25, 2) := by decide +kernel
theorem dX1_makeRoom_23 : decode cX1_makeRoom 23 = .ok (.if_icmp .ge 29, 3) := by decide +kernel
theorem dX1_makeRoom_26 : decode cX1_makeRoom 26 = .ok (.aload_n 0, 1) := by decide +kernel
theorem dX1_makeRoom_27 : decode cX1_makeRoom 27 = .ok (.aload_n 0, 1) := by decide +kernel
theorem dX1_makeRoom_28 : decode cX1_makeRoom 28 = .ok (.getfield 11, 3) := by decide +kernel
theorem dX1_makeRoom_31 : decode cX1_makeRoom 31 = .ok (.ldc 25, 2) := by decide +kernel
theorem dX1_makeRoom_33 : decode cX1_makeRoom 33 = .ok (.invokestatic 26, 3) := by decide +kernel
theorem dX1_makeRoom_36 : decode cX1_makeRoom 36 = .ok (.putfield 11, 3) := by decide +kernel
theorem dX1_makeRoom_39 : decode cX1_makeRoom 39 = .ok (.aload_n 0, 1) := by decide +kernel
theorem dX1_makeRoom_40 : decode cX1_makeRoom 40 = .ok (.aload_n 0, 1) := by decide +kernel
theorem dX1_makeRoom_41 : decode cX1_makeRoom 41 = .ok (.getfield 15, 3) := by decide +kernel
theorem dX1_makeRoom_44 : decode cX1_makeRoom 44 = .ok (.ldc 25, 2) := by decide +kernel
theorem dX1_makeRoom_46 : decode cX1_makeRoom 46 = .ok (.invokestatic 26, 3) := by decide +kernel
theorem dX1_makeRoom_49 : decode cX1_makeRoom 49 = .ok (.putfield 15, 3) := by decide +kernel
theorem dX1_makeRoom_52 : decode cX1_makeRoom 52 = .ok (.return_, 1) := by decide +kernel
theorem dX1_add_0 : decode cX1_add 0 = .ok (.aload_n 0, 1) := by decide +kernel
theorem dX1_add_1 : decode cX1_add 1 = .ok (.getfield 18, 3) := by decide +kernel
theorem dX1_add_4 : decode cX1_add 4 = .ok (.ifCond .lt 15, 3) := by decide +kernel
theorem dX1_add_7 : decode cX1_add 7 = .ok (.aload_n 0, 1) := by decide +kernel
theorem dX1_add_8 : decode cX1_add 8 = .ok (.getfield 18, 3) := by decide +kernel
theorem dX1_add_11 : decode cX1_add 11 = .ok (.aload_n 0, 1) := by decide +kernel
theorem dX1_add_12 : decode cX1_add 12 = .ok (.getfield 11, 3) := by decide +kernel
theorem dX1_add_15 : decode cX1_add 15 = .ok (.arraylength, 1) := by decide +kernel
theorem dX1_add_16 : decode cX1_add 16 = .ok (.if_icmp .lt 5, 3) := by decide +kernel
theorem dX1_add_19 : decode cX1_add 19 = .ok (.iconst (-1), 1) := by decide +kernel
theorem dX1_add_20 : decode cX1_add 20 = .ok (.ireturn, 1) := by decide +kernel
theorem dX1_add_21 : decode cX1_add 21 = .ok (.aload_n 0, 1) := by decide +kernel
theorem dX1_add_22 : decode cX1_add 22 = .ok (.getfield 11, 3) := by decide +kernel
theorem dX1_add_25 : decode cX1_add 25 = .ok (.aload_n 0, 1) := by decide +kernel
theorem dX1_add_26 : decode cX1_add 26 = .ok (.getfield 18, 3) := by decide +kernel
theorem dX1_add_29 : decode cX1_add 29 = .ok (.iload_n 1, 1) := by decide +kernel
theorem dX1_add_30 : decode cX1_add 30 = .ok (.iastore, 1) := by decide +kernel
theorem dX1_add_31 : decode cX1_add 31 = .ok (.aload_n 0, 1) := by decide +kernel
theorem dX1_add_32 : decode cX1_add 32 = .ok (.getfield 15, 3) := by decide +kernel
theorem dX1_add_35 : decode cX1_add 35 = .ok (.aload_n 0, 1) := by decide +kernel
theorem dX1_add_36 : decode cX1_add 36 = .ok (.getfield 18, 3) := by decide +kernel
theorem dX1_add_39 : decode cX1_add 39 = .ok (.iconst 1, 1) := by decide +kernel
theorem dX1_add_40 : decode cX1_add 40 = .ok (.iastore, 1) := by decide +kernel
theorem dX1_add_41 : decode cX1_add 41 = .ok (.aload_n 0, 1) := by decide +kernel
theorem dX1_add_42 : decode cX1_add 42 = .ok (.dup, 1) := by decide +kernel
theorem dX1_add_43 : decode cX1_add 43 = .ok (.getfield 18, 3) := by decide +kernel
theorem dX1_add_46 : decode cX1_add 46 = .ok (.iconst 1, 1) := by decide +kernel
theorem dX1_add_47 : decode cX1_add 47 = .ok (.iadd, 1) := by decide +kernel
theorem dX1_add_48 : decode cX1_add 48 = .ok (.putfield 18, 3) := by decide +kernel
theorem dX1_add_51 : decode cX1_add 51 = .ok (.aload_n 0, 1) := by decide +kernel
theorem dX1_add_52 : decode cX1_add 52 = .ok (.getfield 18, 3) := by decide +kernel
theorem dX1_add_55 : decode cX1_add 55 = .ok (.iconst 1, 1) := by decide +kernel
theorem dX1_add_56 : decode cX1_add 56 = .ok (.isub, 1) := by decide +kernel
theorem dX1_add_57 : decode cX1_add 57 = .ok (.ireturn, 1) := by decide +kernel
theorem dX1_ofNumber_0 : decode cX1_ofNumber 0 = .ok (.iconst 2, 1) := by decide +kernel
theorem dX1_ofNumber_1 : decode cX1_ofNumber 1 = .ok (.iload_n 0, 1) := by decide +kernel
theorem dX1_ofNumber_2 : decode cX1_ofNumber 2 = .ok (.imul, 1) := by decide +kernel
theorem dX1_ofNumber_3 : decode cX1_ofNumber 3 = .ok (.ireturn, 1) := by decide +kernel
theorem dX1_ofName_0 : decode cX1_ofName 0 = .ok (.iconst 2, 1) := by decide +kernel
theorem dX1_ofName_1 : decode cX1_ofName 1 = .ok (.iload_n 0, 1) := by decide +kernel
theorem dX1_ofName_2 : decode cX1_ofName 2 = .ok (.imul, 1) := by decide +kernel
theorem dX1_ofName_3 : decode cX1_ofName 3 = .ok (.iconst 1, 1) := by decide +kernel
theorem dX1_ofName_4 : decode cX1_ofName 4 = .ok (.iadd, 1) := by decide +kernel
theorem dX1_ofName_5 : decode cX1_ofName 5 = .ok (.ireturn, 1) := by decide +kernel
theorem dX1_endList_0 : decode cX1_endList 0 = .ok (.iload_n 1, 1) := by decide +kernel
theorem dX1_endList_1 : decode cX1_endList 1 = .ok (.ifCond .lt 32, 3) := by decide +kernel
theorem dX1_endList_4 : decode cX1_endList 4 = .ok (.iload_n 1, 1) := by decide +kernel
theorem dX1_endList_5 : decode cX1_endList 5 = .ok (.aload_n 0, 1) := by decide +kernel
theorem dX1_endList_6 : decode cX1_endList 6 = .ok (.getfield 18, 3) := by decide +kernel
theorem dX1_endList_9 : decode cX1_endList 9 = .ok (.if_icmp .ge 24, 3) := by decide +kernel
theorem dX1_endList_12 : decode cX1_endList 12 = .ok (.iload_n 1, 1) := by decide +kernel
theorem dX1_endList_13 : decode cX1_endList 13 = .ok (.aload_n 0, 1) := by decide +kernel
theorem dX1_endList_14 : decode cX1_endList 14 = .ok (.getfield 15, 3) := by decide +kernel
theorem dX1_endList_17 : decode cX1_endList 17 = .ok (.arraylength, 1) := by decide +kernel
theorem dX1_endList_18 : decode cX1_endList 18 = .ok (.if_icmp .ge 15, 3) := by decide +kernel
theorem dX1_endList_21 : decode cX1_endList 21 = .ok (.aload_n 0, 1) := by decide +kernel
theorem dX1_endList_22 : decode cX1_endList 22 = .ok (.getfield 15, 3) := by decide +kernel
theorem dX1_endList_25 : decode cX1_endList 25 = .ok (.iload_n 1, 1) := by decide +kernel
theorem dX1_endList_26 : decode cX1_endList 26 = .ok (.aload_n 0, 1) := by decide +kernel
theorem dX1_endList_27 : decode cX1_endList 27 = .ok (.getfield 18, 3) := by decide +kernel
theorem dX1_endList_30 : decode cX1_endList 30 = .ok (.iload_n 1, 1) := by decide +kernel
theorem dX1_endList_31 : decode cX1_endList 31 = .ok (.isub, 1) := by decide +kernel
theorem dX1_endList_32 : decode cX1_endList 32 = .ok (.iastore, 1) := by decide +kernel
theorem dX1_endList_33 : decode cX1_endList 33 = .ok (.return_, 1) := by decide +kernel
theorem dX1_whatIs_0 : decode cX1_whatIs 0 = .ok (.iload_n 1, 1) := by decide +kernel
theorem dX1_whatIs_1 : decode cX1_whatIs 1 = .ok (.ifCond .lt 21, 3) := by decide +kernel
theorem dX1_whatIs_4 : decode cX1_whatIs 4 = .ok (.iload_n 1, 1) := by decide +kernel
theorem dX1_whatIs_5 : decode cX1_whatIs 5 = .ok (.aload_n 0, 1) := by decide +kernel
theorem dX1_whatIs_6 : decode cX1_whatIs 6 = .ok (.getfield 11, 3) := by decide +kernel
theorem dX1_whatIs_9 : decode cX1_whatIs 9 = .ok (.arraylength, 1) := by decide +kernel
theorem dX1_whatIs_10 : decode cX1_whatIs 10 = .ok (.if_icmp .ge 12, 3) := by decide +kernel
theorem dX1_whatIs_13 : decode cX1_whatIs 13 = .ok (.aload_n 0, 1) := by decide +kernel
theorem dX1_whatIs_14 : decode cX1_whatIs 14 = .ok (.getfield 11, 3) := by decide +kernel
theorem dX1_whatIs_17 : decode cX1_whatIs 17 = .ok (.iload_n 1, 1) := by decide +kernel
theorem dX1_whatIs_18 : decode cX1_whatIs 18 = .ok (.iaload, 1) := by decide +kernel
theorem dX1_whatIs_19 : decode cX1_whatIs 19 = .ok (.goto 4, 3) := by decide +kernel
theorem dX1_whatIs_22 : decode cX1_whatIs 22 = .ok (.iconst 0, 1) := by decide +kernel
theorem dX1_whatIs_23 : decode cX1_whatIs 23 = .ok (.ireturn, 1) := by decide +kernel
theorem dX1_isList_0 : decode cX1_isList 0 = .ok (.iload_n 1, 1) := by decide +kernel
theorem dX1_isList_1 : decode cX1_isList 1 = .ok (.ifCond .lt 26, 3) := by decide +kernel
theorem dX1_isList_4 : decode cX1_isList 4 = .ok (.iload_n 1, 1) := by decide +kernel
theorem dX1_isList_5 : decode cX1_isList 5 = .ok (.aload_n 0, 1) := by decide +kernel
theorem dX1_isList_6 : decode cX1_isList 6 = .ok (.getfield 11, 3) := by decide +kernel
theorem dX1_isList_9 : decode cX1_isList 9 = .ok (.arraylength, 1) := by decide +kernel
theorem dX1_isList_10 : decode cX1_isList 10 = .ok (.if_icmp .ge 17, 3) := by decide +kernel
theorem dX1_isList_13 : decode cX1_isList 13 = .ok (.aload_n 0, 1) := by decide +kernel
theorem dX1_isList_14 : decode cX1_isList 14 = .ok (.getfield 11, 3) := by decide +kernel
theorem dX1_isList_17 : decode cX1_isList 17 = .ok (.iload_n 1, 1) := by decide +kernel
theorem dX1_isList_18 : decode cX1_isList 18 = .ok (.iaload, 1) := by decide +kernel
theorem dX1_isList_19 : decode cX1_isList 19 = .ok (.iconst (-1), 1) := by decide +kernel
theorem dX1_isList_20 : decode cX1_isList 20 = .ok (.if_icmp .ne 7, 3) := by decide +kernel
theorem dX1_isList_23 : decode cX1_isList 23 = .ok (.iconst 1, 1) := by decide +kernel
theorem dX1_isList_24 : decode cX1_isList 24 = .ok (.goto 4, 3) := by decide +kernel
theorem dX1_isList_27 : decode cX1_isList 27 = .ok (.iconst 0, 1) := by decide +kernel
theorem dX1_isList_28 : decode cX1_isList 28 = .ok (.ireturn, 1) := by decide +kernel
theorem dX1_nameOf_0 : decode cX1_nameOf 0 = .ok (.iload_n 1, 1) := by decide +kernel
theorem dX1_nameOf_1 : decode cX1_nameOf 1 = .ok (.ifCond .lt 21, 3) := by decide +kernel
theorem dX1_nameOf_4 : decode cX1_nameOf 4 = .ok (.iload_n 1, 1) := by decide +kernel
theorem dX1_nameOf_5 : decode cX1_nameOf 5 = .ok (.aload_n 0, 1) := by decide +kernel
theorem dX1_nameOf_6 : decode cX1_nameOf 6 = .ok (.getfield 11, 3) := by decide +kernel
theorem dX1_nameOf_9 : decode cX1_nameOf 9 = .ok (.arraylength, 1) := by decide +kernel
theorem dX1_nameOf_10 : decode cX1_nameOf 10 = .ok (.if_icmp .ge 12, 3) := by decide +kernel
theorem dX1_nameOf_13 : decode cX1_nameOf 13 = .ok (.aload_n 0, 1) := by decide +kernel
theorem dX1_nameOf_14 : decode cX1_nameOf 14 = .ok (.getfield 11, 3) := by decide +kernel
theorem dX1_nameOf_17 : decode cX1_nameOf 17 = .ok (.iload_n 1, 1) := by decide +kernel
theorem dX1_nameOf_18 : decode cX1_nameOf 18 = .ok (.iaload, 1) := by decide +kernel
theorem dX1_nameOf_19 : decode cX1_nameOf 19 = .ok (.goto 4, 3) := by decide +kernel
theorem dX1_nameOf_22 : decode cX1_nameOf 22 = .ok (.iconst 0, 1) := by decide +kernel
theorem dX1_nameOf_23 : decode cX1_nameOf 23 = .ok (.istore_n 2, 1) := by decide +kernel
theorem dX1_nameOf_24 : decode cX1_nameOf 24 = .ok (.iload_n 2, 1) := by decide +kernel
theorem dX1_nameOf_25 : decode cX1_nameOf 25 = .ok (.ifCond .le 16, 3) := by decide +kernel
theorem dX1_nameOf_28 : decode cX1_nameOf 28 = .ok (.iload_n 2, 1) := by decide +kernel
theorem dX1_nameOf_29 : decode cX1_nameOf 29 = .ok (.iconst 1, 1) := by decide +kernel
theorem dX1_nameOf_30 : decode cX1_nameOf 30 = .ok (.iand, 1) := by decide +kernel
theorem dX1_nameOf_31 : decode cX1_nameOf 31 = .ok (.iconst 1, 1) := by decide +kernel
theorem dX1_nameOf_32 : decode cX1_nameOf 32 = .ok (.if_icmp .ne 9, 3) := by decide +kernel
theorem dX1_nameOf_35 : decode cX1_nameOf 35 = .ok (.iload_n 2, 1) := by decide +kernel
theorem dX1_nameOf_36 : decode cX1_nameOf 36 = .ok (.iconst 1, 1) := by decide +kernel
theorem dX1_nameOf_37 : decode cX1_nameOf 37 = .ok (.ishr, 1) := by decide +kernel
theorem dX1_nameOf_38 : decode cX1_nameOf 38 = .ok (.goto 4, 3) := by decide +kernel
theorem dX1_nameOf_41 : decode cX1_nameOf 41 = .ok (.iconst (-1), 1) := by decide +kernel
theorem dX1_nameOf_42 : decode cX1_nameOf 42 = .ok (.ireturn, 1) := by decide +kernel
theorem dX1_numberOf_0 : decode cX1_numberOf 0 = .ok (.aload_n 0, 1) := by decide +kernel
theorem dX1_numberOf_1 : decode cX1_numberOf 1 = .ok (.iload_n 1, 1) := by decide +kernel
theorem dX1_numberOf_2 : decode cX1_numberOf 2 = .ok (.invokevirtual 32, 3) := by decide +kernel
theorem dX1_numberOf_5 : decode cX1_numberOf 5 = .ok (.iconst 1, 1) := by decide +kernel
theorem dX1_numberOf_6 : decode cX1_numberOf 6 = .ok (.ishr, 1) := by decide +kernel
theorem dX1_numberOf_7 : decode cX1_numberOf 7 = .ok (.ireturn, 1) := by decide +kernel
theorem dX1_size_0 : decode cX1_size 0 = .ok (.iload_n 1, 1) := by decide +kernel
theorem dX1_size_1 : decode cX1_size 1 = .ok (.ifCond .lt 21, 3) := by decide +kernel
theorem dX1_size_4 : decode cX1_size 4 = .ok (.iload_n 1, 1) := by decide +kernel
theorem dX1_size_5 : decode cX1_size 5 = .ok (.aload_n 0, 1) := by decide +kernel
theorem dX1_size_6 : decode cX1_size 6 = .ok (.getfield 15, 3) := by decide +kernel
theorem dX1_size_9 : decode cX1_size 9 = .ok (.arraylength, 1) := by decide +kernel
theorem dX1_size_10 : decode cX1_size 10 = .ok (.if_icmp .ge 12, 3) := by decide +kernel
theorem dX1_size_13 : decode cX1_size 13 = .ok (.aload_n 0, 1) := by decide +kernel
theorem dX1_size_14 : decode cX1_size 14 = .ok (.getfield 15, 3) := by decide +kernel
theorem dX1_size_17 : decode cX1_size 17 = .ok (.iload_n 1, 1) := by decide +kernel
theorem dX1_size_18 : decode cX1_size 18 = .ok (.iaload, 1) := by decide +kernel
theorem dX1_size_19 : decode cX1_size 19 = .ok (.goto 4, 3) := by decide +kernel
theorem dX1_size_22 : decode cX1_size 22 = .ok (.iconst 0, 1) := by decide +kernel
theorem dX1_size_23 : decode cX1_size 23 = .ok (.ireturn, 1) := by decide +kernel
theorem dX1_after_0 : decode cX1_after 0 = .ok (.iload_n 1, 1) := by decide +kernel
theorem dX1_after_1 : decode cX1_after 1 = .ok (.ifCond .lt 33, 3) := by decide +kernel
theorem dX1_after_4 : decode cX1_after 4 = .ok (.iload_n 1, 1) := by decide +kernel
theorem dX1_after_5 : decode cX1_after 5 = .ok (.aload_n 0, 1) := by decide +kernel
theorem dX1_after_6 : decode cX1_after 6 = .ok (.getfield 15, 3) := by decide +kernel
theorem dX1_after_9 : decode cX1_after 9 = .ok (.arraylength, 1) := by decide +kernel
theorem dX1_after_10 : decode cX1_after 10 = .ok (.if_icmp .ge 24, 3) := by decide +kernel
theorem dX1_after_13 : decode cX1_after 13 = .ok (.aload_n 0, 1) := by decide +kernel
theorem dX1_after_14 : decode cX1_after 14 = .ok (.getfield 15, 3) := by decide +kernel
theorem dX1_after_17 : decode cX1_after 17 = .ok (.iload_n 1, 1) := by decide +kernel
theorem dX1_after_18 : decode cX1_after 18 = .ok (.iaload, 1) := by decide +kernel
theorem dX1_after_19 : decode cX1_after 19 = .ok (.iconst 1, 1) := by decide +kernel
theorem dX1_after_20 : decode cX1_after 20 = .ok (.if_icmp .le 14, 3) := by decide +kernel
theorem dX1_after_23 : decode cX1_after 23 = .ok (.iload_n 1, 1) := by decide +kernel
theorem dX1_after_24 : decode cX1_after 24 = .ok (.aload_n 0, 1) := by decide +kernel
theorem dX1_after_25 : decode cX1_after 25 = .ok (.getfield 15, 3) := by decide +kernel
theorem dX1_after_28 : decode cX1_after 28 = .ok (.iload_n 1, 1) := by decide +kernel
theorem dX1_after_29 : decode cX1_after 29 = .ok (.iaload, 1) := by decide +kernel
theorem dX1_after_30 : decode cX1_after 30 = .ok (.iadd, 1) := by decide +kernel
theorem dX1_after_31 : decode cX1_after 31 = .ok (.goto 6, 3) := by decide +kernel
theorem dX1_after_34 : decode cX1_after 34 = .ok (.iload_n 1, 1) := by decide +kernel
theorem dX1_after_35 : decode cX1_after 35 = .ok (.iconst 1, 1) := by decide +kernel
theorem dX1_after_36 : decode cX1_after 36 = .ok (.iadd, 1) := by decide +kernel
theorem dX1_after_37 : decode cX1_after 37 = .ok (.ireturn, 1) := by decide +kernel
theorem dX1_head_0 : decode cX1_head 0 = .ok (.aload_n 0, 1) := by decide +kernel
theorem dX1_head_1 : decode cX1_head 1 = .ok (.iload_n 1, 1) := by decide +kernel
theorem dX1_head_2 : decode cX1_head 2 = .ok (.invokevirtual 36, 3) := by decide +kernel
theorem dX1_head_5 : decode cX1_head 5 = .ok (.ifCond .eq 22, 3) := by decide +kernel
theorem dX1_head_8 : decode cX1_head 8 = .ok (.aload_n 0, 1) := by decide +kernel
theorem dX1_head_9 : decode cX1_head 9 = .ok (.iload_n 1, 1) := by decide +kernel
theorem dX1_head_10 : decode cX1_head 10 = .ok (.invokevirtual 40, 3) := by decide +kernel
theorem dX1_head_13 : decode cX1_head 13 = .ok (.iconst 1, 1) := by decide +kernel
theorem dX1_head_14 : decode cX1_head 14 = .ok (.if_icmp .le 13, 3) := by decide +kernel
theorem dX1_head_17 : decode cX1_head 17 = .ok (.aload_n 0, 1) := by decide +kernel
theorem dX1_head_18 : decode cX1_head 18 = .ok (.iload_n 1, 1) := by decide +kernel
theorem dX1_head_19 : decode cX1_head 19 = .ok (.iconst 1, 1) := by decide +kernel
theorem dX1_head_20 : decode cX1_head 20 = .ok (.iadd, 1) := by decide +kernel
theorem dX1_head_21 : decode cX1_head 21 = .ok (.invokevirtual 43, 3) := by decide +kernel
theorem dX1_head_24 : decode cX1_head 24 = .ok (.goto 4, 3) := by decide +kernel
theorem dX1_head_27 : decode cX1_head 27 = .ok (.iconst (-1), 1) := by decide +kernel
theorem dX1_head_28 : decode cX1_head 28 = .ok (.ireturn, 1) := by decide +kernel
theorem dX1_parts_0 : decode cX1_parts 0 = .ok (.iconst 0, 1) := by decide +kernel
theorem dX1_parts_1 : decode cX1_parts 1 = .ok (.istore_n 2, 1) := by decide +kernel
theorem dX1_parts_2 : decode cX1_parts 2 = .ok (.aload_n 0, 1) := by decide +kernel
theorem dX1_parts_3 : decode cX1_parts 3 = .ok (.iload_n 1, 1) := by decide +kernel
theorem dX1_parts_4 : decode cX1_parts 4 = .ok (.invokevirtual 36, 3) := by decide +kernel
theorem dX1_parts_7 : decode cX1_parts 7 = .ok (.ifCond .eq 28, 3) := by decide +kernel
theorem dX1_parts_10 : decode cX1_parts 10 = .ok (.iload_n 1, 1) := by decide +kernel
theorem dX1_parts_11 : decode cX1_parts 11 = .ok (.iconst 1, 1) := by decide +kernel
theorem dX1_parts_12 : decode cX1_parts 12 = .ok (.iadd, 1) := by decide +kernel
theorem dX1_parts_13 : decode cX1_parts 13 = .ok (.istore_n 3, 1) := by decide +kernel
theorem dX1_parts_14 : decode cX1_parts 14 = .ok (.iload_n 3, 1) := by decide +kernel
theorem dX1_parts_15 : decode cX1_parts 15 = .ok (.aload_n 0, 1) := by decide +kernel
theorem dX1_parts_16 : decode cX1_parts 16 = .ok (.iload_n 1, 1) := by decide +kernel
theorem dX1_parts_17 : decode cX1_parts 17 = .ok (.invokevirtual 46, 3) := by decide +kernel
theorem dX1_parts_20 : decode cX1_parts 20 = .ok (.if_icmp .ge 15, 3) := by decide +kernel
theorem dX1_parts_23 : decode cX1_parts 23 = .ok (.iinc 2 1, 3) := by decide +kernel
theorem dX1_parts_26 : decode cX1_parts 26 = .ok (.aload_n 0, 1) := by decide +kernel
theorem dX1_parts_27 : decode cX1_parts 27 = .ok (.iload_n 3, 1) := by decide +kernel
theorem dX1_parts_28 : decode cX1_parts 28 = .ok (.invokevirtual 46, 3) := by decide +kernel
theorem dX1_parts_31 : decode cX1_parts 31 = .ok (.istore_n 3, 1) := by decide +kernel
theorem dX1_parts_32 : decode cX1_parts 32 = .ok (.goto (-18), 3) := by decide +kernel
theorem dX1_parts_35 : decode cX1_parts 35 = .ok (.iload_n 2, 1) := by decide +kernel
theorem dX1_parts_36 : decode cX1_parts 36 = .ok (.ireturn, 1) := by decide +kernel
theorem dX1_part_0 : decode cX1_part 0 = .ok (.iload_n 1, 1) := by decide +kernel
theorem dX1_part_1 : decode cX1_part 1 = .ok (.iconst 1, 1) := by decide +kernel
theorem dX1_part_2 : decode cX1_part 2 = .ok (.iadd, 1) := by decide +kernel
theorem dX1_part_3 : decode cX1_part 3 = .ok (.istore_n 3, 1) := by decide +kernel
theorem dX1_part_4 : decode cX1_part 4 = .ok (.iconst 0, 1) := by decide +kernel
theorem dX1_part_5 : decode cX1_part 5 = .ok (.istore 4, 2) := by decide +kernel
theorem dX1_part_7 : decode cX1_part 7 = .ok (.iload 4, 2) := by decide +kernel
theorem dX1_part_9 : decode cX1_part 9 = .ok (.iload_n 2, 1) := by decide +kernel
theorem dX1_part_10 : decode cX1_part 10 = .ok (.if_icmp .ge 15, 3) := by decide +kernel
theorem dX1_part_13 : decode cX1_part 13 = .ok (.aload_n 0, 1) := by decide +kernel
theorem dX1_part_14 : decode cX1_part 14 = .ok (.iload_n 3, 1) := by decide +kernel
theorem dX1_part_15 : decode cX1_part 15 = .ok (.invokevirtual 46, 3) := by decide +kernel
theorem dX1_part_18 : decode cX1_part 18 = .ok (.istore_n 3, 1) := by decide +kernel
theorem dX1_part_19 : decode cX1_part 19 = .ok (.iinc 4 1, 3) := by decide +kernel
theorem dX1_part_22 : decode cX1_part 22 = .ok (.goto (-15), 3) := by decide +kernel
theorem dX1_part_25 : decode cX1_part 25 = .ok (.iload_n 3, 1) := by decide +kernel
theorem dX1_part_26 : decode cX1_part 26 = .ok (.ireturn, 1) := by decide +kernel
theorem dX1_holdsDots_0 : decode cX1_holdsDots 0 = .ok (.iload_n 1, 1) := by decide +kernel
theorem dX1_holdsDots_1 : decode cX1_holdsDots 1 = .ok (.istore_n 2, 1) := by decide +kernel
theorem dX1_holdsDots_2 : decode cX1_holdsDots 2 = .ok (.iload_n 2, 1) := by decide +kernel
theorem dX1_holdsDots_3 : decode cX1_holdsDots 3 = .ok (.aload_n 0, 1) := by decide +kernel
theorem dX1_holdsDots_4 : decode cX1_holdsDots 4 = .ok (.iload_n 1, 1) := by decide +kernel
theorem dX1_holdsDots_5 : decode cX1_holdsDots 5 = .ok (.invokevirtual 46, 3) := by decide +kernel
theorem dX1_holdsDots_8 : decode cX1_holdsDots 8 = .ok (.if_icmp .ge 21, 3) := by decide +kernel
theorem dX1_holdsDots_11 : decode cX1_holdsDots 11 = .ok (.aload_n 0, 1) := by decide +kernel
theorem dX1_holdsDots_12 : decode cX1_holdsDots 12 = .ok (.iload_n 2, 1) := by decide +kernel
theorem dX1_holdsDots_13 : decode cX1_holdsDots 13 = .ok (.invokevirtual 43, 3) := by decide +kernel
theorem dX1_holdsDots_16 : decode cX1_holdsDots 16 = .ok (.bipush 7, 2) := by decide +kernel
theorem dX1_holdsDots_18 : decode cX1_holdsDots 18 = .ok (.if_icmp .ne 5, 3) := by decide +kernel
theorem dX1_holdsDots_21 : decode cX1_holdsDots 21 = .ok (.iconst 1, 1) := by decide +kernel
theorem dX1_holdsDots_22 : decode cX1_holdsDots 22 = .ok (.ireturn, 1) := by decide +kernel
theorem dX1_holdsDots_23 : decode cX1_holdsDots 23 = .ok (.iinc 2 1, 3) := by decide +kernel
theorem dX1_holdsDots_26 : decode cX1_holdsDots 26 = .ok (.goto (-24), 3) := by decide +kernel
theorem dX1_holdsDots_29 : decode cX1_holdsDots 29 = .ok (.iconst 0, 1) := by decide +kernel
theorem dX1_holdsDots_30 : decode cX1_holdsDots 30 = .ok (.ireturn, 1) := by decide +kernel
theorem dX1_isRepeated_0 : decode cX1_isRepeated 0 = .ok (.aload_n 0, 1) := by decide +kernel
theorem dX1_isRepeated_1 : decode cX1_isRepeated 1 = .ok (.iload_n 1, 1) := by decide +kernel
theorem dX1_isRepeated_2 : decode cX1_isRepeated 2 = .ok (.invokevirtual 46, 3) := by decide +kernel
theorem dX1_isRepeated_5 : decode cX1_isRepeated 5 = .ok (.iload_n 2, 1) := by decide +kernel
theorem dX1_isRepeated_6 : decode cX1_isRepeated 6 = .ok (.if_icmp .ge 21, 3) := by decide +kernel
theorem dX1_isRepeated_9 : decode cX1_isRepeated 9 = .ok (.aload_n 0, 1) := by decide +kernel
theorem dX1_isRepeated_10 : decode cX1_isRepeated 10 = .ok (.aload_n 0, 1) := by decide +kernel
theorem dX1_isRepeated_11 : decode cX1_isRepeated 11 = .ok (.iload_n 1, 1) := by decide +kernel
theorem dX1_isRepeated_12 : decode cX1_isRepeated 12 = .ok (.invokevirtual 46, 3) := by decide +kernel
theorem dX1_isRepeated_15 : decode cX1_isRepeated 15 = .ok (.invokevirtual 43, 3) := by decide +kernel
theorem dX1_isRepeated_18 : decode cX1_isRepeated 18 = .ok (.bipush 7, 2) := by decide +kernel
theorem dX1_isRepeated_20 : decode cX1_isRepeated 20 = .ok (.if_icmp .ne 7, 3) := by decide +kernel
theorem dX1_isRepeated_23 : decode cX1_isRepeated 23 = .ok (.iconst 1, 1) := by decide +kernel
theorem dX1_isRepeated_24 : decode cX1_isRepeated 24 = .ok (.goto 4, 3) := by decide +kernel
theorem dX1_isRepeated_27 : decode cX1_isRepeated 27 = .ok (.iconst 0, 1) := by decide +kernel
theorem dX1_isRepeated_28 : decode cX1_isRepeated 28 = .ok (.ireturn, 1) := by decide +kernel
theorem dX1_keep_0 : decode cX1_keep 0 = .ok (.aload_n 0, 1) := by decide +kernel
theorem dX1_keep_1 : decode cX1_keep 1 = .ok (.iload_n 1, 1) := by decide +kernel
theorem dX1_keep_2 : decode cX1_keep 2 = .ok (.invokevirtual 40, 3) := by decide +kernel
theorem dX1_keep_5 : decode cX1_keep 5 = .ok (.istore_n 2, 1) := by decide +kernel
theorem dX1_keep_6 : decode cX1_keep 6 = .ok (.iload_n 1, 1) := by decide +kernel
theorem dX1_keep_7 : decode cX1_keep 7 = .ok (.sipush 4000, 3) := by decide +kernel
theorem dX1_keep_10 : decode cX1_keep 10 = .ok (.if_icmp .lt 26, 3) := by decide +kernel
theorem dX1_keep_13 : decode cX1_keep 13 = .ok (.iload_n 1, 1) := by decide +kernel
theorem dX1_keep_14 : decode cX1_keep 14 = .ok (.iload_n 2, 1) := by decide +kernel
theorem dX1_keep_15 : decode cX1_keep 15 = .ok (.iadd, 1) := by decide +kernel
theorem dX1_keep_16 : decode cX1_keep 16 = .ok (.aload_n 0, 1) := by decide +kernel
theorem dX1_keep_17 : decode cX1_keep 17 = .ok (.getfield 11, 3) := by decide +kernel
theorem dX1_keep_20 : decode cX1_keep 20 = .ok (.arraylength, 1) := by decide +kernel
theorem dX1_keep_21 : decode cX1_keep 21 = .ok (.if_icmp .gt 15, 3) := by decide +kernel
theorem dX1_keep_24 : decode cX1_keep 24 = .ok (.aload_n 0, 1) := by decide +kernel
theorem dX1_keep_25 : decode cX1_keep 25 = .ok (.getfield 22, 3) := by decide +kernel
theorem dX1_keep_28 : decode cX1_keep 28 = .ok (.iload_n 2, 1) := by decide +kernel
theorem dX1_keep_29 : decode cX1_keep 29 = .ok (.iadd, 1) := by decide +kernel
theorem dX1_keep_30 : decode cX1_keep 30 = .ok (.sipush 4000, 3) := by decide +kernel
theorem dX1_keep_33 : decode cX1_keep 33 = .ok (.if_icmp .le 5, 3) := by decide +kernel
theorem dX1_keep_36 : decode cX1_keep 36 = .ok (.iconst (-1), 1) := by decide +kernel
theorem dX1_keep_37 : decode cX1_keep 37 = .ok (.ireturn, 1) := by decide +kernel
theorem dX1_keep_38 : decode cX1_keep 38 = .ok (.aload_n 0, 1) := by decide +kernel
theorem dX1_keep_39 : decode cX1_keep 39 = .ok (.getfield 11, 3) := by decide +kernel
theorem dX1_keep_42 : decode cX1_keep 42 = .ok (.iload_n 1, 1) := by decide +kernel
theorem dX1_keep_43 : decode cX1_keep 43 = .ok (.aload_n 0, 1) := by decide +kernel
theorem dX1_keep_44 : decode cX1_keep 44 = .ok (.getfield 11, 3) := by decide +kernel
theorem dX1_keep_47 : decode cX1_keep 47 = .ok (.aload_n 0, 1) := by decide +kernel
theorem dX1_keep_48 : decode cX1_keep 48 = .ok (.getfield 22, 3) := by decide +kernel
theorem dX1_keep_51 : decode cX1_keep 51 = .ok (.iload_n 2, 1) := by decide +kernel
theorem dX1_keep_52 : decode cX1_keep 52 = .ok (.invokestatic 49, 3) := by decide +kernel
theorem dX1_keep_55 : decode cX1_keep 55 = .ok (.aload_n 0, 1) := by decide +kernel
theorem dX1_keep_56 : decode cX1_keep 56 = .ok (.getfield 15, 3) := by decide +kernel
theorem dX1_keep_59 : decode cX1_keep 59 = .ok (.iload_n 1, 1) := by decide +kernel
theorem dX1_keep_60 : decode cX1_keep 60 = .ok (.aload_n 0, 1) := by decide +kernel
theorem dX1_keep_61 : decode cX1_keep 61 = .ok (.getfield 15, 3) := by decide +kernel
theorem dX1_keep_64 : decode cX1_keep 64 = .ok (.aload_n 0, 1) := by decide +kernel
theorem dX1_keep_65 : decode cX1_keep 65 = .ok (.getfield 22, 3) := by decide +kernel
theorem dX1_keep_68 : decode cX1_keep 68 = .ok (.iload_n 2, 1) := by decide +kernel
theorem dX1_keep_69 : decode cX1_keep 69 = .ok (.invokestatic 49, 3) := by decide +kernel
theorem dX1_keep_72 : decode cX1_keep 72 = .ok (.aload_n 0, 1) := by decide +kernel
theorem dX1_keep_73 : decode cX1_keep 73 = .ok (.dup, 1) := by decide +kernel
theorem dX1_keep_74 : decode cX1_keep 74 = .ok (.getfield 22, 3) := by decide +kernel
theorem dX1_keep_77 : decode cX1_keep 77 = .ok (.iload_n 2, 1) := by decide +kernel
theorem dX1_keep_78 : decode cX1_keep 78 = .ok (.iadd, 1) := by decide +kernel
theorem dX1_keep_79 : decode cX1_keep 79 = .ok (.putfield 22, 3) := by decide +kernel
theorem dX1_keep_82 : decode cX1_keep 82 = .ok (.aload_n 0, 1) := by decide +kernel
theorem dX1_keep_83 : decode cX1_keep 83 = .ok (.getfield 22, 3) := by decide +kernel
theorem dX1_keep_86 : decode cX1_keep 86 = .ok (.iload_n 2, 1) := by decide +kernel
theorem dX1_keep_87 : decode cX1_keep 87 = .ok (.isub, 1) := by decide +kernel
theorem dX1_keep_88 : decode cX1_keep 88 = .ok (.ireturn, 1) := by decide +kernel
theorem dX2_init_0 : decode cX2_init 0 = .ok (.aload_n 0, 1) := by decide +kernel
theorem dX2_init_1 : decode cX2_init 1 = .ok (.invokespecial 3, 3) := by decide +kernel
theorem dX2_init_4 : decode cX2_init 4 = .ok (.aload_n 0, 1) := by decide +kernel
theorem dX2_init_5 : decode cX2_init 5 = .ok (.bipush 101, 2) := by decide +kernel
theorem dX2_init_7 : decode cX2_init 7 = .ok (.newarray .int, 2) := by decide +kernel
theorem dX2_init_9 : decode cX2_init 9 = .ok (.putfield 11, 3) := by decide +kernel
theorem dX2_init_12 : decode cX2_init 12 = .ok (.aload_n 0, 1) := by decide +kernel
theorem dX2_init_13 : decode cX2_init 13 = .ok (.bipush 101, 2) := by decide +kernel
theorem dX2_init_15 : decode cX2_init 15 = .ok (.newarray .int, 2) := by decide +kernel
theorem dX2_init_17 : decode cX2_init 17 = .ok (.putfield 15, 3) := by decide +kernel
theorem dX2_init_20 : decode cX2_init 20 = .ok (.aload_n 0, 1) := by decide +kernel
theorem dX2_init_21 : decode cX2_init 21 = .ok (.bipush 101, 2) := by decide +kernel
theorem dX2_init_23 : decode cX2_init 23 = .ok (.newarray .boolean, 2) := by decide +kernel
theorem dX2_init_25 : decode cX2_init 25 = .ok (.putfield 18, 3) := by decide +kernel
theorem dX2_init_28 : decode cX2_init 28 = .ok (.aload_n 0, 1) := by decide +kernel
theorem dX2_init_29 : decode cX2_init 29 = .ok (.bipush 101, 2) := by decide +kernel
theorem dX2_init_31 : decode cX2_init 31 = .ok (.newarray .int, 2) := by decide +kernel
theorem dX2_init_33 : decode cX2_init 33 = .ok (.putfield 22, 3) := by decide +kernel
theorem dX2_init_36 : decode cX2_init 36 = .ok (.aload_n 0, 1) := by decide +kernel
theorem dX2_init_37 : decode cX2_init 37 = .ok (.bipush 101, 2) := by decide +kernel
theorem dX2_init_39 : decode cX2_init 39 = .ok (.newarray .int, 2) := by decide +kernel
theorem dX2_init_41 : decode cX2_init 41 = .ok (.putfield 25, 3) := by decide +kernel
theorem dX2_init_44 : decode cX2_init 44 = .ok (.aload_n 0, 1) := by decide +kernel
theorem dX2_init_45 : decode cX2_init 45 = .ok (.bipush 101, 2) := by decide +kernel
theorem dX2_init_47 : decode cX2_init 47 = .ok (.newarray .int, 2) := by decide +kernel
theorem dX2_init_49 : decode cX2_init 49 = .ok (.putfield 28, 3) := by decide +kernel
theorem dX2_init_52 : decode cX2_init 52 = .ok (.aload_n 0, 1) := by decide +kernel
theorem dX2_init_53 : decode cX2_init 53 = .ok (.iconst 0, 1) := by decide +kernel
theorem dX2_init_54 : decode cX2_init 54 = .ok (.putfield 31, 3) := by decide +kernel
theorem dX2_init_57 : decode cX2_init 57 = .ok (.return_, 1) := by decide +kernel
theorem dX2_enter_0 : decode cX2_enter 0 = .ok (.aload_n 0, 1) := by decide +kernel
theorem dX2_enter_1 : decode cX2_enter 1 = .ok (.getfield 31, 3) := by decide +kernel
theorem dX2_enter_4 : decode cX2_enter 4 = .ok (.bipush 101, 2) := by decide +kernel
theorem dX2_enter_6 : decode cX2_enter 6 = .ok (.if_icmp .ge 43, 3) := by decide +kernel
theorem dX2_enter_9 : decode cX2_enter 9 = .ok (.aload_n 0, 1) := by decide +kernel
theorem dX2_enter_10 : decode cX2_enter 10 = .ok (.getfield 11, 3) := by decide +kernel
theorem dX2_enter_13 : decode cX2_enter 13 = .ok (.aload_n 0, 1) := by decide +kernel
theorem dX2_enter_14 : decode cX2_enter 14 = .ok (.getfield 31, 3) := by decide +kernel
theorem dX2_enter_17 : decode cX2_enter 17 = .ok (.iload_n 1, 1) := by decide +kernel
theorem dX2_enter_18 : decode cX2_enter 18 = .ok (.iastore, 1) := by decide +kernel
theorem dX2_enter_19 : decode cX2_enter 19 = .ok (.aload_n 0, 1) := by decide +kernel
theorem dX2_enter_20 : decode cX2_enter 20 = .ok (.getfield 15, 3) := by decide +kernel
theorem dX2_enter_23 : decode cX2_enter 23 = .ok (.aload_n 0, 1) := by decide +kernel
theorem dX2_enter_24 : decode cX2_enter 24 = .ok (.getfield 31, 3) := by decide +kernel
theorem dX2_enter_27 : decode cX2_enter 27 = .ok (.iload_n 2, 1) := by decide +kernel
theorem dX2_enter_28 : decode cX2_enter 28 = .ok (.iastore, 1) := by decide +kernel
theorem dX2_enter_29 : decode cX2_enter 29 = .ok (.aload_n 0, 1) := by decide +kernel
theorem dX2_enter_30 : decode cX2_enter 30 = .ok (.getfield 18, 3) := by decide +kernel
theorem dX2_enter_33 : decode cX2_enter 33 = .ok (.aload_n 0, 1) := by decide +kernel
theorem dX2_enter_34 : decode cX2_enter 34 = .ok (.getfield 31, 3) := by decide +kernel
theorem dX2_enter_37 : decode cX2_enter 37 = .ok (.iload_n 3, 1) := by decide +kernel
theorem dX2_enter_38 : decode cX2_enter 38 = .ok (.bastore, 1) := by decide +kernel
theorem dX2_enter_39 : decode cX2_enter 39 = .ok (.aload_n 0, 1) := by decide +kernel
theorem dX2_enter_40 : decode cX2_enter 40 = .ok (.dup, 1) := by decide +kernel
theorem dX2_enter_41 : decode cX2_enter 41 = .ok (.getfield 31, 3) := by decide +kernel
theorem dX2_enter_44 : decode cX2_enter 44 = .ok (.iconst 1, 1) := by decide +kernel
theorem dX2_enter_45 : decode cX2_enter 45 = .ok (.iadd, 1) := by decide +kernel
theorem dX2_enter_46 : decode cX2_enter 46 = .ok (.putfield 31, 3) := by decide +kernel
theorem dX2_enter_49 : decode cX2_enter 49 = .ok (.return_, 1) := by decide +kernel
theorem dX2_remember_0 : decode cX2_remember 0 = .ok (.aload_n 0, 1) := by decide +kernel
theorem dX2_remember_1 : decode cX2_remember 1 = .ok (.getfield 31, 3) := by decide +kernel
theorem dX2_remember_4 : decode cX2_remember 4 = .ok (.bipush 101, 2) := by decide +kernel
theorem dX2_remember_6 : decode cX2_remember 6 = .ok (.if_icmp .ge 33, 3) := by decide +kernel
theorem dX2_remember_9 : decode cX2_remember 9 = .ok (.aload_n 0, 1) := by decide +kernel
theorem dX2_remember_10 : decode cX2_remember 10 = .ok (.getfield 22, 3) := by decide +kernel
theorem dX2_remember_13 : decode cX2_remember 13 = .ok (.aload_n 0, 1) := by decide +kernel
theorem dX2_remember_14 : decode cX2_remember 14 = .ok (.getfield 31, 3) := by decide +kernel
theorem dX2_remember_17 : decode cX2_remember 17 = .ok (.iload_n 1, 1) := by decide +kernel
theorem dX2_remember_18 : decode cX2_remember 18 = .ok (.iastore, 1) := by decide +kernel
theorem dX2_remember_19 : decode cX2_remember 19 = .ok (.aload_n 0, 1) := by decide +kernel
theorem dX2_remember_20 : decode cX2_remember 20 = .ok (.getfield 25, 3) := by decide +kernel
theorem dX2_remember_23 : decode cX2_remember 23 = .ok (.aload_n 0, 1) := by decide +kernel
theorem dX2_remember_24 : decode cX2_remember 24 = .ok (.getfield 31, 3) := by decide +kernel
theorem dX2_remember_27 : decode cX2_remember 27 = .ok (.iload_n 2, 1) := by decide +kernel
theorem dX2_remember_28 : decode cX2_remember 28 = .ok (.iastore, 1) := by decide +kernel
theorem dX2_remember_29 : decode cX2_remember 29 = .ok (.aload_n 0, 1) := by decide +kernel
theorem dX2_remember_30 : decode cX2_remember 30 = .ok (.getfield 28, 3) := by decide +kernel
theorem dX2_remember_33 : decode cX2_remember 33 = .ok (.aload_n 0, 1) := by decide +kernel
theorem dX2_remember_34 : decode cX2_remember 34 = .ok (.getfield 31, 3) := by decide +kernel
theorem dX2_remember_37 : decode cX2_remember 37 = .ok (.iload_n 3, 1) := by decide +kernel
theorem dX2_remember_38 : decode cX2_remember 38 = .ok (.iastore, 1) := by decide +kernel
theorem dX2_remember_39 : decode cX2_remember 39 = .ok (.return_, 1) := by decide +kernel
theorem dX2_nextForm_0 : decode cX2_nextForm 0 = .ok (.aload_n 0, 1) := by decide +kernel
theorem dX2_nextForm_1 : decode cX2_nextForm 1 = .ok (.getfield 31, 3) := by decide +kernel
theorem dX2_nextForm_4 : decode cX2_nextForm 4 = .ok (.iconst 1, 1) := by decide +kernel
theorem dX2_nextForm_5 : decode cX2_nextForm 5 = .ok (.isub, 1) := by decide +kernel
theorem dX2_nextForm_6 : decode cX2_nextForm 6 = .ok (.istore_n 2, 1) := by decide +kernel
theorem dX2_nextForm_7 : decode cX2_nextForm 7 = .ok (.iload_n 2, 1) := by decide +kernel
theorem dX2_nextForm_8 : decode cX2_nextForm 8 = .ok (.ifCond .lt 18, 3) := by decide +kernel
theorem dX2_nextForm_11 : decode cX2_nextForm 11 = .ok (.aload_n 0, 1) := by decide +kernel
theorem dX2_nextForm_12 : decode cX2_nextForm 12 = .ok (.getfield 11, 3) := by decide +kernel
theorem dX2_nextForm_15 : decode cX2_nextForm 15 = .ok (.iload_n 2, 1) := by decide +kernel
theorem dX2_nextForm_16 : decode cX2_nextForm 16 = .ok (.iaload, 1) := by decide +kernel
theorem dX2_nextForm_17 : decode cX2_nextForm 17 = .ok (.aload_n 0, 1) := by decide +kernel
theorem dX2_nextForm_18 : decode cX2_nextForm 18 = .ok (.getfield 15, 3) := by decide +kernel
theorem dX2_nextForm_21 : decode cX2_nextForm 21 = .ok (.iload_n 2, 1) := by decide +kernel
theorem dX2_nextForm_22 : decode cX2_nextForm 22 = .ok (.iaload, 1) := by decide +kernel
theorem dX2_nextForm_23 : decode cX2_nextForm 23 = .ok (.if_icmp .lt 5, 3) := by decide +kernel
theorem dX2_nextForm_26 : decode cX2_nextForm 26 = .ok (.iconst (-1), 1) := by decide +kernel
theorem dX2_nextForm_27 : decode cX2_nextForm 27 = .ok (.ireturn, 1) := by decide +kernel
theorem dX2_nextForm_28 : decode cX2_nextForm 28 = .ok (.aload_n 0, 1) := by decide +kernel
theorem dX2_nextForm_29 : decode cX2_nextForm 29 = .ok (.getfield 11, 3) := by decide +kernel
theorem dX2_nextForm_32 : decode cX2_nextForm 32 = .ok (.iload_n 2, 1) := by decide +kernel
theorem dX2_nextForm_33 : decode cX2_nextForm 33 = .ok (.iaload, 1) := by decide +kernel
theorem dX2_nextForm_34 : decode cX2_nextForm 34 = .ok (.istore_n 3, 1) := by decide +kernel
theorem dX2_nextForm_35 : decode cX2_nextForm 35 = .ok (.aload_n 0, 1) := by decide +kernel
theorem dX2_nextForm_36 : decode cX2_nextForm 36 = .ok (.getfield 11, 3) := by decide +kernel
theorem dX2_nextForm_39 : decode cX2_nextForm 39 = .ok (.iload_n 2, 1) := by decide +kernel
theorem dX2_nextForm_40 : decode cX2_nextForm 40 = .ok (.aload_n 1, 1) := by decide +kernel
theorem dX2_nextForm_41 : decode cX2_nextForm 41 = .ok (.iload_n 3, 1) := by decide +kernel
theorem dX2_nextForm_42 : decode cX2_nextForm 42 = .ok (.invokevirtual 35, 3) := by decide +kernel
theorem dX2_nextForm_45 : decode cX2_nextForm 45 = .ok (.iastore, 1) := by decide +kernel
theorem dX2_nextForm_46 : decode cX2_nextForm 46 = .ok (.iload_n 3, 1) := by decide +kernel
theorem dX2_nextForm_47 : decode cX2_nextForm 47 = .ok (.ireturn, 1) := by decide +kernel
theorem dX3_init_0 : decode cX3_init 0 = .ok (.aload_n 0, 1) := by decide +kernel
theorem dX3_init_1 : decode cX3_init 1 = .ok (.invokespecial 3, 3) := by decide +kernel
theorem dX3_init_4 : decode cX3_init 4 = .ok (.aload_n 0, 1) := by decide +kernel
theorem dX3_init_5 : decode cX3_init 5 = .ok (.iconst 0, 1) := by decide +kernel
theorem dX3_init_6 : decode cX3_init 6 = .ok (.putfield 9, 3) := by decide +kernel
theorem dX3_init_9 : decode cX3_init 9 = .ok (.aload_n 0, 1) := by decide +kernel
theorem dX3_init_10 : decode cX3_init 10 = .ok (.iconst 0, 1) := by decide +kernel
theorem dX3_init_11 : decode cX3_init 11 = .ok (.putfield 15, 3) := by decide +kernel
theorem dX3_init_14 : decode cX3_init 14 = .ok (.aload_n 0, 1) := by decide +kernel
theorem dX3_init_15 : decode cX3_init 15 = .ok (.iconst 0, 1) := by decide +kernel
theorem dX3_init_16 : decode cX3_init 16 = .ok (.putfield 18, 3) := by decide +kernel
theorem dX3_init_19 : decode cX3_init 19 = .ok (.aload_n 0, 1) := by decide +kernel
theorem dX3_init_20 : decode cX3_init 20 = .ok (.aload_n 1, 1) := by decide +kernel
theorem dX3_init_21 : decode cX3_init 21 = .ok (.putfield 22, 3) := by decide +kernel
theorem dX3_init_24 : decode cX3_init 24 = .ok (.aload_n 0, 1) := by decide +kernel
theorem dX3_init_25 : decode cX3_init 25 = .ok (.aload_n 2, 1) := by decide +kernel
theorem dX3_init_26 : decode cX3_init 26 = .ok (.putfield 26, 3) := by decide +kernel
theorem dX3_init_29 : decode cX3_init 29 = .ok (.aload_n 0, 1) := by decide +kernel
theorem dX3_init_30 : decode cX3_init 30 = .ok (.aload_n 3, 1) := by decide +kernel
theorem dX3_init_31 : decode cX3_init 31 = .ok (.putfield 30, 3) := by decide +kernel
theorem dX3_init_34 : decode cX3_init 34 = .ok (.return_, 1) := by decide +kernel
theorem dX3_make_0 : decode cX3_make 0 = .ok (.aload_n 0, 1) := by decide +kernel
theorem dX3_make_1 : decode cX3_make 1 = .ok (.iload_n 1, 1) := by decide +kernel
theorem dX3_make_2 : decode cX3_make 2 = .ok (.invokevirtual 34, 3) := by decide +kernel
theorem dX3_make_5 : decode cX3_make 5 = .ok (.ifCond .ne 6, 3) := by decide +kernel
theorem dX3_make_8 : decode cX3_make 8 = .ok (.bipush 6, 2) := by decide +kernel
theorem dX3_make_10 : decode cX3_make 10 = .ok (.ireturn, 1) := by decide +kernel
theorem dX3_make_11 : decode cX3_make 11 = .ok (.aload_n 0, 1) := by decide +kernel
theorem dX3_make_12 : decode cX3_make 12 = .ok (.getfield 22, 3) := by decide +kernel
theorem dX3_make_15 : decode cX3_make 15 = .ok (.invokevirtual 38, 3) := by decide +kernel
theorem dX3_make_18 : decode cX3_make 18 = .ok (.aload_n 0, 1) := by decide +kernel
theorem dX3_make_19 : decode cX3_make 19 = .ok (.getfield 26, 3) := by decide +kernel
theorem dX3_make_22 : decode cX3_make 22 = .ok (.invokevirtual 43, 3) := by decide +kernel
theorem dX3_make_25 : decode cX3_make 25 = .ok (.aload_n 0, 1) := by decide +kernel
theorem dX3_make_26 : decode cX3_make 26 = .ok (.iload_n 2, 1) := by decide +kernel
theorem dX3_make_27 : decode cX3_make 27 = .ok (.putfield 9, 3) := by decide +kernel
theorem dX3_make_30 : decode cX3_make 30 = .ok (.aload_n 0, 1) := by decide +kernel
theorem dX3_make_31 : decode cX3_make 31 = .ok (.aload_n 0, 1) := by decide +kernel
theorem dX3_make_32 : decode cX3_make 32 = .ok (.getfield 22, 3) := by decide +kernel
theorem dX3_make_35 : decode cX3_make 35 = .ok (.getfield 46, 3) := by decide +kernel
theorem dX3_make_38 : decode cX3_make 38 = .ok (.putfield 15, 3) := by decide +kernel
theorem dX3_make_41 : decode cX3_make 41 = .ok (.aload_n 0, 1) := by decide +kernel
theorem dX3_make_42 : decode cX3_make 42 = .ok (.iconst 0, 1) := by decide +kernel
theorem dX3_make_43 : decode cX3_make 43 = .ok (.putfield 18, 3) := by decide +kernel
theorem dX3_make_46 : decode cX3_make 46 = .ok (.aload_n 0, 1) := by decide +kernel
theorem dX3_make_47 : decode cX3_make 47 = .ok (.iload_n 1, 1) := by decide +kernel
theorem dX3_make_48 : decode cX3_make 48 = .ok (.iconst 0, 1) := by decide +kernel
theorem dX3_make_49 : decode cX3_make 49 = .ok (.iconst 0, 1) := by decide +kernel
theorem dX3_make_50 : decode cX3_make 50 = .ok (.invokevirtual 49, 3) := by decide +kernel
theorem dX3_make_53 : decode cX3_make 53 = .ok (.aload_n 0, 1) := by decide +kernel
theorem dX3_make_54 : decode cX3_make 54 = .ok (.getfield 18, 3) := by decide +kernel
theorem dX3_make_57 : decode cX3_make 57 = .ok (.ifCond .eq 7, 3) := by decide +kernel
theorem dX3_make_60 : decode cX3_make 60 = .ok (.iconst 2, 1) := by decide +kernel
theorem dX3_make_61 : decode cX3_make 61 = .ok (.goto 4, 3) := by decide +kernel
theorem dX3_make_64 : decode cX3_make 64 = .ok (.iconst 0, 1) := by decide +kernel
theorem dX3_make_65 : decode cX3_make 65 = .ok (.ireturn, 1) := by decide +kernel
theorem dX3_isEven_0 : decode cX3_isEven 0 = .ok (.aload_n 0, 1) := by decide +kernel
theorem dX3_isEven_1 : decode cX3_isEven 1 = .ok (.getfield 22, 3) := by decide +kernel
theorem dX3_isEven_4 : decode cX3_isEven 4 = .ok (.iload_n 1, 1) := by decide +kernel
theorem dX3_isEven_5 : decode cX3_isEven 5 = .ok (.invokevirtual 53, 3) := by decide +kernel
theorem dX3_isEven_8 : decode cX3_isEven 8 = .ok (.istore_n 2, 1) := by decide +kernel
theorem dX3_isEven_9 : decode cX3_isEven 9 = .ok (.iload_n 1, 1) := by decide +kernel
theorem dX3_isEven_10 : decode cX3_isEven 10 = .ok (.istore_n 3, 1) := by decide +kernel
theorem dX3_isEven_11 : decode cX3_isEven 11 = .ok (.iload_n 3, 1) := by decide +kernel
theorem dX3_isEven_12 : decode cX3_isEven 12 = .ok (.iload_n 2, 1) := by decide +kernel
theorem dX3_isEven_13 : decode cX3_isEven 13 = .ok (.if_icmp .ge 33, 3) := by decide +kernel
theorem dX3_isEven_16 : decode cX3_isEven 16 = .ok (.aload_n 0, 1) := by decide +kernel
theorem dX3_isEven_17 : decode cX3_isEven 17 = .ok (.getfield 22, 3) := by decide +kernel
theorem dX3_isEven_20 : decode cX3_isEven 20 = .ok (.iload_n 3, 1) := by decide +kernel
theorem dX3_isEven_21 : decode cX3_isEven 21 = .ok (.iload_n 2, 1) := by decide +kernel
theorem dX3_isEven_22 : decode cX3_isEven 22 = .ok (.invokevirtual 57, 3) := by decide +kernel
theorem dX3_isEven_25 : decode cX3_isEven 25 = .ok (.ifCond .eq 15, 3) := by decide +kernel
theorem dX3_isEven_28 : decode cX3_isEven 28 = .ok (.aload_n 0, 1) := by decide +kernel
theorem dX3_isEven_29 : decode cX3_isEven 29 = .ok (.iload_n 3, 1) := by decide +kernel
theorem dX3_isEven_30 : decode cX3_isEven 30 = .ok (.invokevirtual 61, 3) := by decide +kernel
theorem dX3_isEven_33 : decode cX3_isEven 33 = .ok (.bipush (-2), 2) := by decide +kernel
theorem dX3_isEven_35 : decode cX3_isEven 35 = .ok (.if_icmp .ne 5, 3) := by decide +kernel
theorem dX3_isEven_38 : decode cX3_isEven 38 = .ok (.iconst 0, 1) := by decide +kernel
theorem dX3_isEven_39 : decode cX3_isEven 39 = .ok (.ireturn, 1) := by decide +kernel
theorem dX3_isEven_40 : decode cX3_isEven 40 = .ok (.iinc 3 1, 3) := by decide +kernel
theorem dX3_isEven_43 : decode cX3_isEven 43 = .ok (.goto (-32), 3) := by decide +kernel
theorem dX3_isEven_46 : decode cX3_isEven 46 = .ok (.iconst 1, 1) := by decide +kernel
theorem dX3_isEven_47 : decode cX3_isEven 47 = .ok (.ireturn, 1) := by decide +kernel
theorem dX3_turnsOf_0 : decode cX3_turnsOf 0 = .ok (.iconst (-1), 1) := by decide +kernel
theorem dX3_turnsOf_1 : decode cX3_turnsOf 1 = .ok (.istore_n 2, 1) := by decide +kernel
theorem dX3_turnsOf_2 : decode cX3_turnsOf 2 = .ok (.iload_n 1, 1) := by decide +kernel
theorem dX3_turnsOf_3 : decode cX3_turnsOf 3 = .ok (.istore_n 3, 1) := by decide +kernel
theorem dX3_turnsOf_4 : decode cX3_turnsOf 4 = .ok (.iload_n 3, 1) := by decide +kernel
theorem dX3_turnsOf_5 : decode cX3_turnsOf 5 = .ok (.aload_n 0, 1) := by decide +kernel
theorem dX3_turnsOf_6 : decode cX3_turnsOf 6 = .ok (.getfield 22, 3) := by decide +kernel
theorem dX3_turnsOf_9 : decode cX3_turnsOf 9 = .ok (.iload_n 1, 1) := by decide +kernel
theorem dX3_turnsOf_10 : decode cX3_turnsOf 10 = .ok (.invokevirtual 53, 3) := by decide +kernel
theorem dX3_turnsOf_13 : decode cX3_turnsOf 13 = .ok (.if_icmp .ge 60, 3) := by decide +kernel
theorem dX3_turnsOf_16 : decode cX3_turnsOf 16 = .ok (.aload_n 0, 1) := by decide +kernel
theorem dX3_turnsOf_17 : decode cX3_turnsOf 17 = .ok (.getfield 30, 3) := by decide +kernel
theorem dX3_turnsOf_20 : decode cX3_turnsOf 20 = .ok (.aload_n 0, 1) := by decide +kernel
theorem dX3_turnsOf_21 : decode cX3_turnsOf 21 = .ok (.getfield 26, 3) := by decide +kernel
theorem dX3_turnsOf_24 : decode cX3_turnsOf 24 = .ok (.aload_n 0, 1) := by decide +kernel
theorem dX3_turnsOf_25 : decode cX3_turnsOf 25 = .ok (.getfield 22, 3) := by decide +kernel
theorem dX3_turnsOf_28 : decode cX3_turnsOf 28 = .ok (.iload_n 3, 1) := by decide +kernel
theorem dX3_turnsOf_29 : decode cX3_turnsOf 29 = .ok (.invokevirtual 66, 3) := by decide +kernel
theorem dX3_turnsOf_32 : decode cX3_turnsOf 32 = .ok (.invokevirtual 69, 3) := by decide +kernel
theorem dX3_turnsOf_35 : decode cX3_turnsOf 35 = .ok (.invokevirtual 72, 3) := by decide +kernel
theorem dX3_turnsOf_38 : decode cX3_turnsOf 38 = .ok (.istore 4, 2) := by decide +kernel
theorem dX3_turnsOf_40 : decode cX3_turnsOf 40 = .ok (.iload_n 2, 1) := by decide +kernel
theorem dX3_turnsOf_41 : decode cX3_turnsOf 41 = .ok (.iconst (-1), 1) := by decide +kernel
theorem dX3_turnsOf_42 : decode cX3_turnsOf 42 = .ok (.if_icmp .eq 18, 3) := by decide +kernel
theorem dX3_turnsOf_45 : decode cX3_turnsOf 45 = .ok (.iload 4, 2) := by decide +kernel
theorem dX3_turnsOf_47 : decode cX3_turnsOf 47 = .ok (.iconst (-1), 1) := by decide +kernel
theorem dX3_turnsOf_48 : decode cX3_turnsOf 48 = .ok (.if_icmp .eq 12, 3) := by decide +kernel
theorem dX3_turnsOf_51 : decode cX3_turnsOf 51 = .ok (.iload 4, 2) := by decide +kernel
theorem dX3_turnsOf_53 : decode cX3_turnsOf 53 = .ok (.iload_n 2, 1) := by decide +kernel
theorem dX3_turnsOf_54 : decode cX3_turnsOf 54 = .ok (.if_icmp .eq 6, 3) := by decide +kernel
theorem dX3_turnsOf_57 : decode cX3_turnsOf 57 = .ok (.bipush (-2), 2) := by decide +kernel
theorem dX3_turnsOf_59 : decode cX3_turnsOf 59 = .ok (.ireturn, 1) := by decide +kernel
theorem dX3_turnsOf_60 : decode cX3_turnsOf 60 = .ok (.iload_n 2, 1) := by decide +kernel
theorem dX3_turnsOf_61 : decode cX3_turnsOf 61 = .ok (.iload 4, 2) := by decide +kernel
theorem dX3_turnsOf_63 : decode cX3_turnsOf 63 = .ok (.invokestatic 75, 3) := by decide +kernel
theorem dX3_turnsOf_66 : decode cX3_turnsOf 66 = .ok (.istore_n 2, 1) := by decide +kernel
theorem dX3_turnsOf_67 : decode cX3_turnsOf 67 = .ok (.iinc 3 1, 3) := by decide +kernel
theorem dX3_turnsOf_70 : decode cX3_turnsOf 70 = .ok (.goto (-66), 3) := by decide +kernel
theorem dX3_turnsOf_73 : decode cX3_turnsOf 73 = .ok (.iload_n 2, 1) := by decide +kernel
theorem dX3_turnsOf_74 : decode cX3_turnsOf 74 = .ok (.ireturn, 1) := by decide +kernel
theorem dX3_build_0 : decode cX3_build 0 = .ok (.aload_n 0, 1) := by decide +kernel
theorem dX3_build_1 : decode cX3_build 1 = .ok (.getfield 22, 3) := by decide +kernel
theorem dX3_build_4 : decode cX3_build 4 = .ok (.iload_n 1, 1) := by decide +kernel
theorem dX3_build_5 : decode cX3_build 5 = .ok (.invokevirtual 81, 3) := by decide +kernel
theorem dX3_build_8 : decode cX3_build 8 = .ok (.ifCond .ne 11, 3) := by decide +kernel
theorem dX3_build_11 : decode cX3_build 11 = .ok (.aload_n 0, 1) := by decide +kernel
theorem dX3_build_12 : decode cX3_build 12 = .ok (.iload_n 1, 1) := by decide +kernel
theorem dX3_build_13 : decode cX3_build 13 = .ok (.iload_n 2, 1) := by decide +kernel
theorem dX3_build_14 : decode cX3_build 14 = .ok (.iload_n 3, 1) := by decide +kernel
theorem dX3_build_15 : decode cX3_build 15 = .ok (.invokevirtual 84, 3) := by decide +kernel
theorem dX3_build_18 : decode cX3_build 18 = .ok (.return_, 1) := by decide +kernel
theorem dX3_build_19 : decode cX3_build 19 = .ok (.aload_n 0, 1) := by decide +kernel
theorem dX3_build_20 : decode cX3_build 20 = .ok (.iload_n 3, 1) := by decide +kernel
theorem dX3_build_21 : decode cX3_build 21 = .ok (.invokevirtual 87, 3) := by decide +kernel
theorem dX3_build_24 : decode cX3_build 24 = .ok (.istore 4, 2) := by decide +kernel
theorem dX3_build_26 : decode cX3_build 26 = .ok (.aload_n 0, 1) := by decide +kernel
theorem dX3_build_27 : decode cX3_build 27 = .ok (.getfield 22, 3) := by decide +kernel
theorem dX3_build_30 : decode cX3_build 30 = .ok (.iload_n 1, 1) := by decide +kernel
theorem dX3_build_31 : decode cX3_build 31 = .ok (.invokevirtual 53, 3) := by decide +kernel
theorem dX3_build_34 : decode cX3_build 34 = .ok (.istore 5, 2) := by decide +kernel
theorem dX3_build_36 : decode cX3_build 36 = .ok (.iconst 0, 1) := by decide +kernel
theorem dX3_build_37 : decode cX3_build 37 = .ok (.istore 6, 2) := by decide +kernel
theorem dX3_build_39 : decode cX3_build 39 = .ok (.iload_n 1, 1) := by decide +kernel
theorem dX3_build_40 : decode cX3_build 40 = .ok (.iconst 1, 1) := by decide +kernel
theorem dX3_build_41 : decode cX3_build 41 = .ok (.iadd, 1) := by decide +kernel
theorem dX3_build_42 : decode cX3_build 42 = .ok (.istore 7, 2) := by decide +kernel
theorem dX3_build_44 : decode cX3_build 44 = .ok (.iload 7, 2) := by decide +kernel
theorem dX3_build_46 : decode cX3_build 46 = .ok (.iload 5, 2) := by decide +kernel
theorem dX3_build_48 : decode cX3_build 48 = .ok (.if_icmp .ge 75, 3) := by decide +kernel
theorem dX3_build_51 : decode cX3_build 51 = .ok (.aload_n 0, 1) := by decide +kernel
theorem dX3_build_52 : decode cX3_build 52 = .ok (.getfield 18, 3) := by decide +kernel
theorem dX3_build_55 : decode cX3_build 55 = .ok (.ifCond .ne 68, 3) := by decide +kernel
theorem dX3_build_58 : decode cX3_build 58 = .ok (.aload_n 0, 1) := by decide +kernel
theorem dX3_build_59 : decode cX3_build 59 = .ok (.getfield 22, 3) := by decide +kernel
theorem dX3_build_62 : decode cX3_build 62 = .ok (.iload 7, 2) := by decide +kernel
theorem dX3_build_64 : decode cX3_build 64 = .ok (.invokevirtual 53, 3) := by decide +kernel
theorem dX3_build_67 : decode cX3_build 67 = .ok (.istore 6, 2) := by decide +kernel
theorem dX3_build_69 : decode cX3_build 69 = .ok (.aload_n 0, 1) := by decide +kernel
theorem dX3_build_70 : decode cX3_build 70 = .ok (.getfield 22, 3) := by decide +kernel
theorem dX3_build_73 : decode cX3_build 73 = .ok (.iload 7, 2) := by decide +kernel
theorem dX3_build_75 : decode cX3_build 75 = .ok (.iload 5, 2) := by decide +kernel
theorem dX3_build_77 : decode cX3_build 77 = .ok (.invokevirtual 57, 3) := by decide +kernel
theorem dX3_build_80 : decode cX3_build 80 = .ok (.ifCond .eq 26, 3) := by decide +kernel
theorem dX3_build_83 : decode cX3_build 83 = .ok (.aload_n 0, 1) := by decide +kernel
theorem dX3_build_84 : decode cX3_build 84 = .ok (.getfield 22, 3) := by decide +kernel
theorem dX3_build_87 : decode cX3_build 87 = .ok (.iload 6, 2) := by decide +kernel
theorem dX3_build_89 : decode cX3_build 89 = .ok (.invokevirtual 53, 3) := by decide +kernel
theorem dX3_build_92 : decode cX3_build 92 = .ok (.istore 6, 2) := by decide +kernel
theorem dX3_build_94 : decode cX3_build 94 = .ok (.aload_n 0, 1) := by decide +kernel
theorem dX3_build_95 : decode cX3_build 95 = .ok (.iload 7, 2) := by decide +kernel
theorem dX3_build_97 : decode cX3_build 97 = .ok (.iload_n 3, 1) := by decide +kernel
theorem dX3_build_98 : decode cX3_build 98 = .ok (.iconst 1, 1) := by decide +kernel
theorem dX3_build_99 : decode cX3_build 99 = .ok (.iadd, 1) := by decide +kernel
theorem dX3_build_100 : decode cX3_build 100 = .ok (.invokevirtual 90, 3) := by decide +kernel
theorem dX3_build_103 : decode cX3_build 103 = .ok (.goto 13, 3) := by decide +kernel
theorem dX3_build_106 : decode cX3_build 106 = .ok (.aload_n 0, 1) := by decide +kernel
theorem dX3_build_107 : decode cX3_build 107 = .ok (.iload 7, 2) := by decide +kernel
theorem dX3_build_109 : decode cX3_build 109 = .ok (.iload_n 2, 1) := by decide +kernel
theorem dX3_build_110 : decode cX3_build 110 = .ok (.iload_n 3, 1) := by decide +kernel
theorem dX3_build_111 : decode cX3_build 111 = .ok (.iconst 1, 1) := by decide +kernel
theorem dX3_build_112 : decode cX3_build 112 = .ok (.iadd, 1) := by decide +kernel
theorem dX3_build_113 : decode cX3_build 113 = .ok (.invokevirtual 49, 3) := by decide +kernel
theorem dX3_build_116 : decode cX3_build 116 = .ok (.iload 6, 2) := by decide +kernel
theorem dX3_build_118 : decode cX3_build 118 = .ok (.istore 7, 2) := by decide +kernel
theorem dX3_build_120 : decode cX3_build 120 = .ok (.goto (-76), 3) := by decide +kernel
theorem dX3_build_123 : decode cX3_build 123 = .ok (.aload_n 0, 1) := by decide +kernel
theorem dX3_build_124 : decode cX3_build 124 = .ok (.getfield 22, 3) := by decide +kernel
theorem dX3_build_127 : decode cX3_build 127 = .ok (.iload 4, 2) := by decide +kernel
theorem dX3_build_129 : decode cX3_build 129 = .ok (.invokevirtual 94, 3) := by decide +kernel
theorem dX3_build_132 : decode cX3_build 132 = .ok (.return_, 1) := by decide +kernel
theorem dX3_buildTurns_0 : decode cX3_buildTurns 0 = .ok (.aload_n 0, 1) := by decide +kernel
theorem dX3_buildTurns_1 : decode cX3_buildTurns 1 = .ok (.iload_n 1, 1) := by decide +kernel
theorem dX3_buildTurns_2 : decode cX3_buildTurns 2 = .ok (.invokevirtual 61, 3) := by decide +kernel
theorem dX3_buildTurns_5 : decode cX3_buildTurns 5 = .ok (.istore_n 3, 1) := by decide +kernel
theorem dX3_buildTurns_6 : decode cX3_buildTurns 6 = .ok (.iconst 0, 1) := by decide +kernel
theorem dX3_buildTurns_7 : decode cX3_buildTurns 7 = .ok (.istore 4, 2) := by decide +kernel
theorem dX3_buildTurns_9 : decode cX3_buildTurns 9 = .ok (.iload 4, 2) := by decide +kernel
theorem dX3_buildTurns_11 : decode cX3_buildTurns 11 = .ok (.iload_n 3, 1) := by decide +kernel
theorem dX3_buildTurns_12 : decode cX3_buildTurns 12 = .ok (.if_icmp .ge 24, 3) := by decide +kernel
theorem dX3_buildTurns_15 : decode cX3_buildTurns 15 = .ok (.aload_n 0, 1) := by decide +kernel
theorem dX3_buildTurns_16 : decode cX3_buildTurns 16 = .ok (.getfield 18, 3) := by decide +kernel
theorem dX3_buildTurns_19 : decode cX3_buildTurns 19 = .ok (.ifCond .ne 17, 3) := by decide +kernel
theorem dX3_buildTurns_22 : decode cX3_buildTurns 22 = .ok (.aload_n 0, 1) := by decide +kernel
theorem dX3_buildTurns_23 : decode cX3_buildTurns 23 = .ok (.iload_n 1, 1) := by decide +kernel
theorem dX3_buildTurns_24 : decode cX3_buildTurns 24 = .ok (.iload 4, 2) := by decide +kernel
theorem dX3_buildTurns_26 : decode cX3_buildTurns 26 = .ok (.iload_n 2, 1) := by decide +kernel
theorem dX3_buildTurns_27 : decode cX3_buildTurns 27 = .ok (.invokevirtual 49, 3) := by decide +kernel
theorem dX3_buildTurns_30 : decode cX3_buildTurns 30 = .ok (.iinc 4 1, 3) := by decide +kernel
theorem dX3_buildTurns_33 : decode cX3_buildTurns 33 = .ok (.goto (-24), 3) := by decide +kernel
theorem dX3_buildTurns_36 : decode cX3_buildTurns 36 = .ok (.return_, 1) := by decide +kernel
theorem dX3_buildPart_0 : decode cX3_buildPart 0 = .ok (.aload_n 0, 1) := by decide +kernel
theorem dX3_buildPart_1 : decode cX3_buildPart 1 = .ok (.getfield 22, 3) := by decide +kernel
theorem dX3_buildPart_4 : decode cX3_buildPart 4 = .ok (.iload_n 1, 1) := by decide +kernel
theorem dX3_buildPart_5 : decode cX3_buildPart 5 = .ok (.invokevirtual 66, 3) := by decide +kernel
theorem dX3_buildPart_8 : decode cX3_buildPart 8 = .ok (.istore 4, 2) := by decide +kernel
theorem dX3_buildPart_10 : decode cX3_buildPart 10 = .ok (.aload_n 0, 1) := by decide +kernel
theorem dX3_buildPart_11 : decode cX3_buildPart 11 = .ok (.getfield 26, 3) := by decide +kernel
theorem dX3_buildPart_14 : decode cX3_buildPart 14 = .ok (.iload 4, 2) := by decide +kernel
theorem dX3_buildPart_16 : decode cX3_buildPart 16 = .ok (.invokevirtual 69, 3) := by decide +kernel
theorem dX3_buildPart_19 : decode cX3_buildPart 19 = .ok (.istore 5, 2) := by decide +kernel
theorem dX3_buildPart_21 : decode cX3_buildPart 21 = .ok (.iload 4, 2) := by decide +kernel
theorem dX3_buildPart_23 : decode cX3_buildPart 23 = .ok (.invokestatic 98, 3) := by decide +kernel
theorem dX3_buildPart_26 : decode cX3_buildPart 26 = .ok (.ifCond .ne 19, 3) := by decide +kernel
theorem dX3_buildPart_29 : decode cX3_buildPart 29 = .ok (.aload_n 0, 1) := by decide +kernel
theorem dX3_buildPart_30 : decode cX3_buildPart 30 = .ok (.aload_n 0, 1) := by decide +kernel
theorem dX3_buildPart_31 : decode cX3_buildPart 31 = .ok (.getfield 22, 3) := by decide +kernel
theorem dX3_buildPart_34 : decode cX3_buildPart 34 = .ok (.iload_n 1, 1) := by decide +kernel
theorem dX3_buildPart_35 : decode cX3_buildPart 35 = .ok (.invokevirtual 101, 3) := by decide +kernel
theorem dX3_buildPart_38 : decode cX3_buildPart 38 = .ok (.invokevirtual 104, 3) := by decide +kernel
theorem dX3_buildPart_41 : decode cX3_buildPart 41 = .ok (.pop, 1) := by decide +kernel
theorem dX3_buildPart_42 : decode cX3_buildPart 42 = .ok (.goto 40, 3) := by decide +kernel
theorem dX3_buildPart_45 : decode cX3_buildPart 45 = .ok (.iload 5, 2) := by decide +kernel
theorem dX3_buildPart_47 : decode cX3_buildPart 47 = .ok (.ifCond .lt 21, 3) := by decide +kernel
theorem dX3_buildPart_50 : decode cX3_buildPart 50 = .ok (.aload_n 0, 1) := by decide +kernel
theorem dX3_buildPart_51 : decode cX3_buildPart 51 = .ok (.aload_n 0, 1) := by decide +kernel
theorem dX3_buildPart_52 : decode cX3_buildPart 52 = .ok (.getfield 30, 3) := by decide +kernel
theorem dX3_buildPart_55 : decode cX3_buildPart 55 = .ok (.iload 5, 2) := by decide +kernel
theorem dX3_buildPart_57 : decode cX3_buildPart 57 = .ok (.iload_n 2, 1) := by decide +kernel
theorem dX3_buildPart_58 : decode cX3_buildPart 58 = .ok (.invokevirtual 107, 3) := by decide +kernel
theorem dX3_buildPart_61 : decode cX3_buildPart 61 = .ok (.iload_n 3, 1) := by decide +kernel
theorem dX3_buildPart_62 : decode cX3_buildPart 62 = .ok (.invokevirtual 110, 3) := by decide +kernel
theorem dX3_buildPart_65 : decode cX3_buildPart 65 = .ok (.goto 17, 3) := by decide +kernel
theorem dX3_buildPart_68 : decode cX3_buildPart 68 = .ok (.aload_n 0, 1) := by decide +kernel
theorem dX3_buildPart_69 : decode cX3_buildPart 69 = .ok (.aload_n 0, 1) := by decide +kernel
theorem dX3_buildPart_70 : decode cX3_buildPart 70 = .ok (.iload 4, 2) := by decide +kernel
theorem dX3_buildPart_72 : decode cX3_buildPart 72 = .ok (.invokevirtual 113, 3) := by decide +kernel
theorem dX3_buildPart_75 : decode cX3_buildPart 75 = .ok (.invokestatic 116, 3) := by decide +kernel
theorem dX3_buildPart_78 : decode cX3_buildPart 78 = .ok (.invokevirtual 104, 3) := by decide +kernel
theorem dX3_buildPart_81 : decode cX3_buildPart 81 = .ok (.pop, 1) := by decide +kernel
theorem dX3_buildPart_82 : decode cX3_buildPart 82 = .ok (.return_, 1) := by decide +kernel
theorem dX3_aliasOf_0 : decode cX3_aliasOf 0 = .ok (.aload_n 0, 1) := by decide +kernel
theorem dX3_aliasOf_1 : decode cX3_aliasOf 1 = .ok (.getfield 26, 3) := by decide +kernel
theorem dX3_aliasOf_4 : decode cX3_aliasOf 4 = .ok (.iload_n 1, 1) := by decide +kernel
theorem dX3_aliasOf_5 : decode cX3_aliasOf 5 = .ok (.invokevirtual 119, 3) := by decide +kernel
theorem dX3_aliasOf_8 : decode cX3_aliasOf 8 = .ok (.ifCond .ne 26, 3) := by decide +kernel
theorem dX3_aliasOf_11 : decode cX3_aliasOf 11 = .ok (.aload_n 0, 1) := by decide +kernel
theorem dX3_aliasOf_12 : decode cX3_aliasOf 12 = .ok (.getfield 26, 3) := by decide +kernel
theorem dX3_aliasOf_15 : decode cX3_aliasOf 15 = .ok (.iload_n 1, 1) := by decide +kernel
theorem dX3_aliasOf_16 : decode cX3_aliasOf 16 = .ok (.bipush (-2), 2) := by decide +kernel
theorem dX3_aliasOf_18 : decode cX3_aliasOf 18 = .ok (.aload_n 0, 1) := by decide +kernel
theorem dX3_aliasOf_19 : decode cX3_aliasOf 19 = .ok (.getfield 26, 3) := by decide +kernel
theorem dX3_aliasOf_22 : decode cX3_aliasOf 22 = .ok (.iload_n 1, 1) := by decide +kernel
theorem dX3_aliasOf_23 : decode cX3_aliasOf 23 = .ok (.aload_n 0, 1) := by decide +kernel
theorem dX3_aliasOf_24 : decode cX3_aliasOf 24 = .ok (.getfield 9, 3) := by decide +kernel
theorem dX3_aliasOf_27 : decode cX3_aliasOf 27 = .ok (.invokevirtual 122, 3) := by decide +kernel
theorem dX3_aliasOf_30 : decode cX3_aliasOf 30 = .ok (.isub, 1) := by decide +kernel
theorem dX3_aliasOf_31 : decode cX3_aliasOf 31 = .ok (.invokevirtual 125, 3) := by decide +kernel
theorem dX3_aliasOf_34 : decode cX3_aliasOf 34 = .ok (.bipush (-2), 2) := by decide +kernel
theorem dX3_aliasOf_36 : decode cX3_aliasOf 36 = .ok (.aload_n 0, 1) := by decide +kernel
theorem dX3_aliasOf_37 : decode cX3_aliasOf 37 = .ok (.getfield 26, 3) := by decide +kernel
theorem dX3_aliasOf_40 : decode cX3_aliasOf 40 = .ok (.iload_n 1, 1) := by decide +kernel
theorem dX3_aliasOf_41 : decode cX3_aliasOf 41 = .ok (.invokevirtual 69, 3) := by decide +kernel
theorem dX3_aliasOf_44 : decode cX3_aliasOf 44 = .ok (.isub, 1) := by decide +kernel
theorem dX3_aliasOf_45 : decode cX3_aliasOf 45 = .ok (.ireturn, 1) := by decide +kernel
theorem dX3_copy_0 : decode cX3_copy 0 = .ok (.aload_n 0, 1) := by decide +kernel
theorem dX3_copy_1 : decode cX3_copy 1 = .ok (.getfield 22, 3) := by decide +kernel
theorem dX3_copy_4 : decode cX3_copy 4 = .ok (.iload_n 1, 1) := by decide +kernel
theorem dX3_copy_5 : decode cX3_copy 5 = .ok (.invokevirtual 81, 3) := by decide +kernel
theorem dX3_copy_8 : decode cX3_copy 8 = .ok (.ifCond .ne 17, 3) := by decide +kernel
theorem dX3_copy_11 : decode cX3_copy 11 = .ok (.aload_n 0, 1) := by decide +kernel
theorem dX3_copy_12 : decode cX3_copy 12 = .ok (.aload_n 0, 1) := by decide +kernel
theorem dX3_copy_13 : decode cX3_copy 13 = .ok (.getfield 22, 3) := by decide +kernel
theorem dX3_copy_16 : decode cX3_copy 16 = .ok (.iload_n 1, 1) := by decide +kernel
theorem dX3_copy_17 : decode cX3_copy 17 = .ok (.invokevirtual 101, 3) := by decide +kernel
theorem dX3_copy_20 : decode cX3_copy 20 = .ok (.invokevirtual 104, 3) := by decide +kernel
theorem dX3_copy_23 : decode cX3_copy 23 = .ok (.pop, 1) := by decide +kernel
theorem dX3_copy_24 : decode cX3_copy 24 = .ok (.return_, 1) := by decide +kernel
theorem dX3_copy_25 : decode cX3_copy 25 = .ok (.aload_n 0, 1) := by decide +kernel
theorem dX3_copy_26 : decode cX3_copy 26 = .ok (.iload_n 2, 1) := by decide +kernel
theorem dX3_copy_27 : decode cX3_copy 27 = .ok (.invokevirtual 87, 3) := by decide +kernel
theorem dX3_copy_30 : decode cX3_copy 30 = .ok (.istore_n 3, 1) := by decide +kernel
theorem dX3_copy_31 : decode cX3_copy 31 = .ok (.iload_n 1, 1) := by decide +kernel
theorem dX3_copy_32 : decode cX3_copy 32 = .ok (.iconst 1, 1) := by decide +kernel
theorem dX3_copy_33 : decode cX3_copy 33 = .ok (.iadd, 1) := by decide +kernel
theorem dX3_copy_34 : decode cX3_copy 34 = .ok (.istore 4, 2) := by decide +kernel
theorem dX3_copy_36 : decode cX3_copy 36 = .ok (.iload 4, 2) := by decide +kernel
theorem dX3_copy_38 : decode cX3_copy 38 = .ok (.aload_n 0, 1) := by decide +kernel
theorem dX3_copy_39 : decode cX3_copy 39 = .ok (.getfield 22, 3) := by decide +kernel
theorem dX3_copy_42 : decode cX3_copy 42 = .ok (.iload_n 1, 1) := by decide +kernel
theorem dX3_copy_43 : decode cX3_copy 43 = .ok (.invokevirtual 53, 3) := by decide +kernel
theorem dX3_copy_46 : decode cX3_copy 46 = .ok (.if_icmp .ge 33, 3) := by decide +kernel
theorem dX3_copy_49 : decode cX3_copy 49 = .ok (.aload_n 0, 1) := by decide +kernel
theorem dX3_copy_50 : decode cX3_copy 50 = .ok (.getfield 18, 3) := by decide +kernel
theorem dX3_copy_53 : decode cX3_copy 53 = .ok (.ifCond .ne 26, 3) := by decide +kernel
theorem dX3_copy_56 : decode cX3_copy 56 = .ok (.aload_n 0, 1) := by decide +kernel
theorem dX3_copy_57 : decode cX3_copy 57 = .ok (.iload 4, 2) := by decide +kernel
theorem dX3_copy_59 : decode cX3_copy 59 = .ok (.iload_n 2, 1) := by decide +kernel
theorem dX3_copy_60 : decode cX3_copy 60 = .ok (.iconst 1, 1) := by decide +kernel
theorem dX3_copy_61 : decode cX3_copy 61 = .ok (.iadd, 1) := by decide +kernel
theorem dX3_copy_62 : decode cX3_copy 62 = .ok (.invokevirtual 110, 3) := by decide +kernel
theorem dX3_copy_65 : decode cX3_copy 65 = .ok (.aload_n 0, 1) := by decide +kernel
theorem dX3_copy_66 : decode cX3_copy 66 = .ok (.getfield 22, 3) := by decide +kernel
theorem dX3_copy_69 : decode cX3_copy 69 = .ok (.iload 4, 2) := by decide +kernel
theorem dX3_copy_71 : decode cX3_copy 71 = .ok (.invokevirtual 53, 3) := by decide +kernel
theorem dX3_copy_74 : decode cX3_copy 74 = .ok (.istore 4, 2) := by decide +kernel
theorem dX3_copy_76 : decode cX3_copy 76 = .ok (.goto (-40), 3) := by decide +kernel
theorem dX3_copy_79 : decode cX3_copy 79 = .ok (.aload_n 0, 1) := by decide +kernel
theorem dX3_copy_80 : decode cX3_copy 80 = .ok (.getfield 22, 3) := by decide +kernel
theorem dX3_copy_83 : decode cX3_copy 83 = .ok (.iload_n 3, 1) := by decide +kernel
theorem dX3_copy_84 : decode cX3_copy 84 = .ok (.invokevirtual 94, 3) := by decide +kernel
theorem dX3_copy_87 : decode cX3_copy 87 = .ok (.return_, 1) := by decide +kernel
theorem dX3_addList_0 : decode cX3_addList 0 = .ok (.iload_n 1, 1) := by decide +kernel
theorem dX3_addList_1 : decode cX3_addList 1 = .ok (.bipush 60, 2) := by decide +kernel
theorem dX3_addList_3 : decode cX3_addList 3 = .ok (.if_icmp .le 8, 3) := by decide +kernel
theorem dX3_addList_6 : decode cX3_addList 6 = .ok (.aload_n 0, 1) := by decide +kernel
theorem dX3_addList_7 : decode cX3_addList 7 = .ok (.iconst 1, 1) := by decide +kernel
theorem dX3_addList_8 : decode cX3_addList 8 = .ok (.putfield 18, 3) := by decide +kernel
theorem dX3_addList_11 : decode cX3_addList 11 = .ok (.aload_n 0, 1) := by decide +kernel
theorem dX3_addList_12 : decode cX3_addList 12 = .ok (.iconst (-1), 1) := by decide +kernel
theorem dX3_addList_13 : decode cX3_addList 13 = .ok (.invokevirtual 104, 3) := by decide +kernel
theorem dX3_addList_16 : decode cX3_addList 16 = .ok (.ireturn, 1) := by decide +kernel
theorem dX3_add_0 : decode cX3_add 0 = .ok (.aload_n 0, 1) := by decide +kernel
theorem dX3_add_1 : decode cX3_add 1 = .ok (.getfield 18, 3) := by decide +kernel
theorem dX3_add_4 : decode cX3_add 4 = .ok (.ifCond .ne 21, 3) := by decide +kernel
theorem dX3_add_7 : decode cX3_add 7 = .ok (.aload_n 0, 1) := by decide +kernel
theorem dX3_add_8 : decode cX3_add 8 = .ok (.getfield 22, 3) := by decide +kernel
theorem dX3_add_11 : decode cX3_add 11 = .ok (.getfield 46, 3) := by decide +kernel
theorem dX3_add_14 : decode cX3_add 14 = .ok (.aload_n 0, 1) := by decide +kernel
theorem dX3_add_15 : decode cX3_add 15 = .ok (.getfield 15, 3) := by decide +kernel
theorem dX3_add_18 : decode cX3_add 18 = .ok (.isub, 1) := by decide +kernel
theorem dX3_add_19 : decode cX3_add 19 = .ok (.sipush 600, 3) := by decide +kernel
theorem dX3_add_22 : decode cX3_add 22 = .ok (.if_icmp .lt 10, 3) := by decide +kernel
theorem dX3_add_25 : decode cX3_add 25 = .ok (.aload_n 0, 1) := by decide +kernel
theorem dX3_add_26 : decode cX3_add 26 = .ok (.iconst 1, 1) := by decide +kernel
theorem dX3_add_27 : decode cX3_add 27 = .ok (.putfield 18, 3) := by decide +kernel
theorem dX3_add_30 : decode cX3_add 30 = .ok (.iconst (-1), 1) := by decide +kernel
theorem dX3_add_31 : decode cX3_add 31 = .ok (.ireturn, 1) := by decide +kernel
theorem dX3_add_32 : decode cX3_add 32 = .ok (.aload_n 0, 1) := by decide +kernel
theorem dX3_add_33 : decode cX3_add 33 = .ok (.getfield 22, 3) := by decide +kernel
theorem dX3_add_36 : decode cX3_add 36 = .ok (.iload_n 1, 1) := by decide +kernel
theorem dX3_add_37 : decode cX3_add 37 = .ok (.invokevirtual 128, 3) := by decide +kernel
theorem dX3_add_40 : decode cX3_add 40 = .ok (.ireturn, 1) := by decide +kernel
theorem dX4_init_0 : decode cX4_init 0 = .ok (.aload_n 0, 1) := by decide +kernel
theorem dX4_init_1 : decode cX4_init 1 = .ok (.invokespecial 3, 3) := by decide +kernel
theorem dX4_init_4 : decode cX4_init 4 = .ok (.aload_n 0, 1) := by decide +kernel
theorem dX4_init_5 : decode cX4_init 5 = .ok (.iconst (-1), 1) := by decide +kernel
theorem dX4_init_6 : decode cX4_init 6 = .ok (.putfield 9, 3) := by decide +kernel
theorem dX4_init_9 : decode cX4_init 9 = .ok (.aload_n 0, 1) := by decide +kernel
theorem dX4_init_10 : decode cX4_init 10 = .ok (.iconst 0, 1) := by decide +kernel
theorem dX4_init_11 : decode cX4_init 11 = .ok (.putfield 15, 3) := by decide +kernel
theorem dX4_init_14 : decode cX4_init 14 = .ok (.aload_n 0, 1) := by decide +kernel
theorem dX4_init_15 : decode cX4_init 15 = .ok (.aload_n 1, 1) := by decide +kernel
theorem dX4_init_16 : decode cX4_init 16 = .ok (.putfield 18, 3) := by decide +kernel
theorem dX4_init_19 : decode cX4_init 19 = .ok (.aload_n 0, 1) := by decide +kernel
theorem dX4_init_20 : decode cX4_init 20 = .ok (.aload_n 2, 1) := by decide +kernel
theorem dX4_init_21 : decode cX4_init 21 = .ok (.putfield 22, 3) := by decide +kernel
theorem dX4_init_24 : decode cX4_init 24 = .ok (.aload_n 0, 1) := by decide +kernel
theorem dX4_init_25 : decode cX4_init 25 = .ok (.aload_n 3, 1) := by decide +kernel
theorem dX4_init_26 : decode cX4_init 26 = .ok (.putfield 26, 3) := by decide +kernel
theorem dX4_init_29 : decode cX4_init 29 = .ok (.aload_n 0, 1) := by decide +kernel
theorem dX4_init_30 : decode cX4_init 30 = .ok (.aload 4, 2) := by decide +kernel
theorem dX4_init_32 : decode cX4_init 32 = .ok (.putfield 30, 3) := by decide +kernel
theorem dX4_init_35 : decode cX4_init 35 = .ok (.return_, 1) := by decide +kernel
theorem dX4_ruleFor_0 : decode cX4_ruleFor 0 = .ok (.aload_n 0, 1) := by decide +kernel
theorem dX4_ruleFor_1 : decode cX4_ruleFor 1 = .ok (.aload_n 0, 1) := by decide +kernel
theorem dX4_ruleFor_2 : decode cX4_ruleFor 2 = .ok (.getfield 18, 3) := by decide +kernel
theorem dX4_ruleFor_5 : decode cX4_ruleFor 5 = .ok (.iload_n 2, 1) := by decide +kernel
theorem dX4_ruleFor_6 : decode cX4_ruleFor 6 = .ok (.iconst 1, 1) := by decide +kernel
theorem dX4_ruleFor_7 : decode cX4_ruleFor 7 = .ok (.invokevirtual 34, 3) := by decide +kernel
theorem dX4_ruleFor_10 : decode cX4_ruleFor 10 = .ok (.putfield 9, 3) := by decide +kernel
theorem dX4_ruleFor_13 : decode cX4_ruleFor 13 = .ok (.aload_n 0, 1) := by decide +kernel
theorem dX4_ruleFor_14 : decode cX4_ruleFor 14 = .ok (.iload_n 3, 1) := by decide +kernel
theorem dX4_ruleFor_15 : decode cX4_ruleFor 15 = .ok (.putfield 15, 3) := by decide +kernel
theorem dX4_ruleFor_18 : decode cX4_ruleFor 18 = .ok (.aload_n 0, 1) := by decide +kernel
theorem dX4_ruleFor_19 : decode cX4_ruleFor 19 = .ok (.getfield 18, 3) := by decide +kernel
theorem dX4_ruleFor_22 : decode cX4_ruleFor 22 = .ok (.iload_n 2, 1) := by decide +kernel
theorem dX4_ruleFor_23 : decode cX4_ruleFor 23 = .ok (.iconst 2, 1) := by decide +kernel
theorem dX4_ruleFor_24 : decode cX4_ruleFor 24 = .ok (.invokevirtual 34, 3) := by decide +kernel
theorem dX4_ruleFor_27 : decode cX4_ruleFor 27 = .ok (.istore 4, 2) := by decide +kernel
theorem dX4_ruleFor_29 : decode cX4_ruleFor 29 = .ok (.iload 4, 2) := by decide +kernel
theorem dX4_ruleFor_31 : decode cX4_ruleFor 31 = .ok (.aload_n 0, 1) := by decide +kernel
theorem dX4_ruleFor_32 : decode cX4_ruleFor 32 = .ok (.getfield 18, 3) := by decide +kernel
theorem dX4_ruleFor_35 : decode cX4_ruleFor 35 = .ok (.iload_n 2, 1) := by decide +kernel
theorem dX4_ruleFor_36 : decode cX4_ruleFor 36 = .ok (.invokevirtual 40, 3) := by decide +kernel
theorem dX4_ruleFor_39 : decode cX4_ruleFor 39 = .ok (.if_icmp .ge 70, 3) := by decide +kernel
theorem dX4_ruleFor_42 : decode cX4_ruleFor 42 = .ok (.aload_n 0, 1) := by decide +kernel
theorem dX4_ruleFor_43 : decode cX4_ruleFor 43 = .ok (.getfield 22, 3) := by decide +kernel
theorem dX4_ruleFor_46 : decode cX4_ruleFor 46 = .ok (.invokevirtual 44, 3) := by decide +kernel
theorem dX4_ruleFor_49 : decode cX4_ruleFor 49 = .ok (.aload_n 0, 1) := by decide +kernel
theorem dX4_ruleFor_50 : decode cX4_ruleFor 50 = .ok (.getfield 30, 3) := by decide +kernel
theorem dX4_ruleFor_53 : decode cX4_ruleFor 53 = .ok (.invokevirtual 49, 3) := by decide +kernel
theorem dX4_ruleFor_56 : decode cX4_ruleFor 56 = .ok (.iload 4, 2) := by decide +kernel
theorem dX4_ruleFor_58 : decode cX4_ruleFor 58 = .ok (.iconst 1, 1) := by decide +kernel
theorem dX4_ruleFor_59 : decode cX4_ruleFor 59 = .ok (.iadd, 1) := by decide +kernel
theorem dX4_ruleFor_60 : decode cX4_ruleFor 60 = .ok (.istore 5, 2) := by decide +kernel
theorem dX4_ruleFor_62 : decode cX4_ruleFor 62 = .ok (.aload_n 0, 1) := by decide +kernel
theorem dX4_ruleFor_63 : decode cX4_ruleFor 63 = .ok (.iload 5, 2) := by decide +kernel
theorem dX4_ruleFor_65 : decode cX4_ruleFor 65 = .ok (.aload_n 0, 1) := by decide +kernel
theorem dX4_ruleFor_66 : decode cX4_ruleFor 66 = .ok (.getfield 18, 3) := by decide +kernel
theorem dX4_ruleFor_69 : decode cX4_ruleFor 69 = .ok (.iload 5, 2) := by decide +kernel
theorem dX4_ruleFor_71 : decode cX4_ruleFor 71 = .ok (.iconst 1, 1) := by decide +kernel
theorem dX4_ruleFor_72 : decode cX4_ruleFor 72 = .ok (.invokevirtual 34, 3) := by decide +kernel
theorem dX4_ruleFor_75 : decode cX4_ruleFor 75 = .ok (.iload_n 1, 1) := by decide +kernel
theorem dX4_ruleFor_76 : decode cX4_ruleFor 76 = .ok (.aload_n 0, 1) := by decide +kernel
theorem dX4_ruleFor_77 : decode cX4_ruleFor 77 = .ok (.getfield 18, 3) := by decide +kernel
theorem dX4_ruleFor_80 : decode cX4_ruleFor 80 = .ok (.iload_n 1, 1) := by decide +kernel
theorem dX4_ruleFor_81 : decode cX4_ruleFor 81 = .ok (.iconst 1, 1) := by decide +kernel
theorem dX4_ruleFor_82 : decode cX4_ruleFor 82 = .ok (.invokevirtual 34, 3) := by decide +kernel
theorem dX4_ruleFor_85 : decode cX4_ruleFor 85 = .ok (.iconst 0, 1) := by decide +kernel
theorem dX4_ruleFor_86 : decode cX4_ruleFor 86 = .ok (.invokevirtual 54, 3) := by decide +kernel
theorem dX4_ruleFor_89 : decode cX4_ruleFor 89 = .ok (.ifCond .eq 6, 3) := by decide +kernel
theorem dX4_ruleFor_92 : decode cX4_ruleFor 92 = .ok (.iload 4, 2) := by decide +kernel
theorem dX4_ruleFor_94 : decode cX4_ruleFor 94 = .ok (.ireturn, 1) := by decide +kernel
theorem dX4_ruleFor_95 : decode cX4_ruleFor 95 = .ok (.aload_n 0, 1) := by decide +kernel
theorem dX4_ruleFor_96 : decode cX4_ruleFor 96 = .ok (.getfield 18, 3) := by decide +kernel
theorem dX4_ruleFor_99 : decode cX4_ruleFor 99 = .ok (.iload 4, 2) := by decide +kernel
theorem dX4_ruleFor_101 : decode cX4_ruleFor 101 = .ok (.invokevirtual 40, 3) := by decide +kernel
theorem dX4_ruleFor_104 : decode cX4_ruleFor 104 = .ok (.istore 4, 2) := by decide +kernel
theorem dX4_ruleFor_106 : decode cX4_ruleFor 106 = .ok (.goto (-77), 3) := by decide +kernel
theorem dX4_ruleFor_109 : decode cX4_ruleFor 109 = .ok (.iconst (-1), 1) := by decide +kernel
theorem dX4_ruleFor_110 : decode cX4_ruleFor 110 = .ok (.ireturn, 1) := by decide +kernel
theorem dX4_rowMatches_0 : decode cX4_rowMatches 0 = .ok (.aload_n 0, 1) := by decide +kernel
theorem dX4_rowMatches_1 : decode cX4_rowMatches 1 = .ok (.getfield 18, 3) := by decide +kernel
theorem dX4_rowMatches_4 : decode cX4_rowMatches 4 = .ok (.iload_n 3, 1) := by decide +kernel
theorem dX4_rowMatches_5 : decode cX4_rowMatches 5 = .ok (.invokevirtual 40, 3) := by decide +kernel
theorem dX4_rowMatches_8 : decode cX4_rowMatches 8 = .ok (.istore 6, 2) := by decide +kernel
theorem dX4_rowMatches_10 : decode cX4_rowMatches 10 = .ok (.iload 4, 2) := by decide +kernel
theorem dX4_rowMatches_12 : decode cX4_rowMatches 12 = .ok (.istore 7, 2) := by decide +kernel
theorem dX4_rowMatches_14 : decode cX4_rowMatches 14 = .ok (.iload_n 2, 1) := by decide +kernel
theorem dX4_rowMatches_15 : decode cX4_rowMatches 15 = .ok (.istore 8, 2) := by decide +kernel
theorem dX4_rowMatches_17 : decode cX4_rowMatches 17 = .ok (.iload 8, 2) := by decide +kernel
theorem dX4_rowMatches_19 : decode cX4_rowMatches 19 = .ok (.aload_n 0, 1) := by decide +kernel
theorem dX4_rowMatches_20 : decode cX4_rowMatches 20 = .ok (.getfield 18, 3) := by decide +kernel
theorem dX4_rowMatches_23 : decode cX4_rowMatches 23 = .ok (.iload_n 1, 1) := by decide +kernel
theorem dX4_rowMatches_24 : decode cX4_rowMatches 24 = .ok (.invokevirtual 40, 3) := by decide +kernel
theorem dX4_rowMatches_27 : decode cX4_rowMatches 27 = .ok (.if_icmp .ge 81, 3) := by decide +kernel
theorem dX4_rowMatches_30 : decode cX4_rowMatches 30 = .ok (.aload_n 0, 1) := by decide +kernel
theorem dX4_rowMatches_31 : decode cX4_rowMatches 31 = .ok (.getfield 18, 3) := by decide +kernel
theorem dX4_rowMatches_34 : decode cX4_rowMatches 34 = .ok (.iload 8, 2) := by decide +kernel
theorem dX4_rowMatches_36 : decode cX4_rowMatches 36 = .ok (.aload_n 0, 1) := by decide +kernel
theorem dX4_rowMatches_37 : decode cX4_rowMatches 37 = .ok (.getfield 18, 3) := by decide +kernel
theorem dX4_rowMatches_40 : decode cX4_rowMatches 40 = .ok (.iload_n 1, 1) := by decide +kernel
theorem dX4_rowMatches_41 : decode cX4_rowMatches 41 = .ok (.invokevirtual 40, 3) := by decide +kernel
theorem dX4_rowMatches_44 : decode cX4_rowMatches 44 = .ok (.invokevirtual 58, 3) := by decide +kernel
theorem dX4_rowMatches_47 : decode cX4_rowMatches 47 = .ok (.ifCond .eq 14, 3) := by decide +kernel
theorem dX4_rowMatches_50 : decode cX4_rowMatches 50 = .ok (.aload_n 0, 1) := by decide +kernel
theorem dX4_rowMatches_51 : decode cX4_rowMatches 51 = .ok (.iload 8, 2) := by decide +kernel
theorem dX4_rowMatches_53 : decode cX4_rowMatches 53 = .ok (.iload 7, 2) := by decide +kernel
theorem dX4_rowMatches_55 : decode cX4_rowMatches 55 = .ok (.iload 6, 2) := by decide +kernel
theorem dX4_rowMatches_57 : decode cX4_rowMatches 57 = .ok (.invokevirtual 62, 3) := by decide +kernel
theorem dX4_rowMatches_60 : decode cX4_rowMatches 60 = .ok (.ireturn, 1) := by decide +kernel
theorem dX4_rowMatches_61 : decode cX4_rowMatches 61 = .ok (.iload 7, 2) := by decide +kernel
theorem dX4_rowMatches_63 : decode cX4_rowMatches 63 = .ok (.iload 6, 2) := by decide +kernel
theorem dX4_rowMatches_65 : decode cX4_rowMatches 65 = .ok (.if_icmp .ge 16, 3) := by decide +kernel
theorem dX4_rowMatches_68 : decode cX4_rowMatches 68 = .ok (.aload_n 0, 1) := by decide +kernel
theorem dX4_rowMatches_69 : decode cX4_rowMatches 69 = .ok (.iload 8, 2) := by decide +kernel
theorem dX4_rowMatches_71 : decode cX4_rowMatches 71 = .ok (.iload 7, 2) := by decide +kernel
theorem dX4_rowMatches_73 : decode cX4_rowMatches 73 = .ok (.iload 5, 2) := by decide +kernel
theorem dX4_rowMatches_75 : decode cX4_rowMatches 75 = .ok (.invokevirtual 66, 3) := by decide +kernel
theorem dX4_rowMatches_78 : decode cX4_rowMatches 78 = .ok (.ifCond .ne 5, 3) := by decide +kernel
theorem dX4_rowMatches_81 : decode cX4_rowMatches 81 = .ok (.iconst 0, 1) := by decide +kernel
theorem dX4_rowMatches_82 : decode cX4_rowMatches 82 = .ok (.ireturn, 1) := by decide +kernel
theorem dX4_rowMatches_83 : decode cX4_rowMatches 83 = .ok (.aload_n 0, 1) := by decide +kernel
theorem dX4_rowMatches_84 : decode cX4_rowMatches 84 = .ok (.getfield 18, 3) := by decide +kernel
theorem dX4_rowMatches_87 : decode cX4_rowMatches 87 = .ok (.iload 7, 2) := by decide +kernel
theorem dX4_rowMatches_89 : decode cX4_rowMatches 89 = .ok (.invokevirtual 40, 3) := by decide +kernel
theorem dX4_rowMatches_92 : decode cX4_rowMatches 92 = .ok (.istore 7, 2) := by decide +kernel
theorem dX4_rowMatches_94 : decode cX4_rowMatches 94 = .ok (.aload_n 0, 1) := by decide +kernel
theorem dX4_rowMatches_95 : decode cX4_rowMatches 95 = .ok (.getfield 18, 3) := by decide +kernel
theorem dX4_rowMatches_98 : decode cX4_rowMatches 98 = .ok (.iload 8, 2) := by decide +kernel
theorem dX4_rowMatches_100 : decode cX4_rowMatches 100 = .ok (.invokevirtual 40, 3) := by decide +kernel
theorem dX4_rowMatches_103 : decode cX4_rowMatches 103 = .ok (.istore 8, 2) := by decide +kernel
theorem dX4_rowMatches_105 : decode cX4_rowMatches 105 = .ok (.goto (-88), 3) := by decide +kernel
theorem dX4_rowMatches_108 : decode cX4_rowMatches 108 = .ok (.iload 7, 2) := by decide +kernel
theorem dX4_rowMatches_110 : decode cX4_rowMatches 110 = .ok (.iload 6, 2) := by decide +kernel
theorem dX4_rowMatches_112 : decode cX4_rowMatches 112 = .ok (.if_icmp .lt 7, 3) := by decide +kernel
theorem dX4_rowMatches_115 : decode cX4_rowMatches 115 = .ok (.iconst 1, 1) := by decide +kernel
theorem dX4_rowMatches_116 : decode cX4_rowMatches 116 = .ok (.goto 4, 3) := by decide +kernel
theorem dX4_rowMatches_119 : decode cX4_rowMatches 119 = .ok (.iconst 0, 1) := by decide +kernel
theorem dX4_rowMatches_120 : decode cX4_rowMatches 120 = .ok (.ireturn, 1) := by decide +kernel
theorem dX4_restMatches_0 : decode cX4_restMatches 0 = .ok (.aload_n 0, 1) := by decide +kernel
theorem dX4_restMatches_1 : decode cX4_restMatches 1 = .ok (.getfield 30, 3) := by decide +kernel
theorem dX4_restMatches_4 : decode cX4_restMatches 4 = .ok (.getfield 70, 3) := by decide +kernel
theorem dX4_restMatches_7 : decode cX4_restMatches 7 = .ok (.istore 4, 2) := by decide +kernel
theorem dX4_restMatches_9 : decode cX4_restMatches 9 = .ok (.aload_n 0, 1) := by decide +kernel
theorem dX4_restMatches_10 : decode cX4_restMatches 10 = .ok (.iload_n 1, 1) := by decide +kernel
theorem dX4_restMatches_11 : decode cX4_restMatches 11 = .ok (.invokevirtual 73, 3) := by decide +kernel
theorem dX4_restMatches_14 : decode cX4_restMatches 14 = .ok (.iconst 0, 1) := by decide +kernel
theorem dX4_restMatches_15 : decode cX4_restMatches 15 = .ok (.istore 5, 2) := by decide +kernel
theorem dX4_restMatches_17 : decode cX4_restMatches 17 = .ok (.iload_n 2, 1) := by decide +kernel
theorem dX4_restMatches_18 : decode cX4_restMatches 18 = .ok (.istore 6, 2) := by decide +kernel
theorem dX4_restMatches_20 : decode cX4_restMatches 20 = .ok (.iload 6, 2) := by decide +kernel
theorem dX4_restMatches_22 : decode cX4_restMatches 22 = .ok (.iload_n 3, 1) := by decide +kernel
theorem dX4_restMatches_23 : decode cX4_restMatches 23 = .ok (.if_icmp .ge 33, 3) := by decide +kernel
theorem dX4_restMatches_26 : decode cX4_restMatches 26 = .ok (.aload_n 0, 1) := by decide +kernel
theorem dX4_restMatches_27 : decode cX4_restMatches 27 = .ok (.iload_n 1, 1) := by decide +kernel
theorem dX4_restMatches_28 : decode cX4_restMatches 28 = .ok (.iload 6, 2) := by decide +kernel
theorem dX4_restMatches_30 : decode cX4_restMatches 30 = .ok (.iconst 1, 1) := by decide +kernel
theorem dX4_restMatches_31 : decode cX4_restMatches 31 = .ok (.invokevirtual 66, 3) := by decide +kernel
theorem dX4_restMatches_34 : decode cX4_restMatches 34 = .ok (.ifCond .ne 5, 3) := by decide +kernel
theorem dX4_restMatches_37 : decode cX4_restMatches 37 = .ok (.iconst 0, 1) := by decide +kernel
theorem dX4_restMatches_38 : decode cX4_restMatches 38 = .ok (.ireturn, 1) := by decide +kernel
theorem dX4_restMatches_39 : decode cX4_restMatches 39 = .ok (.iinc 5 1, 3) := by decide +kernel
theorem dX4_restMatches_42 : decode cX4_restMatches 42 = .ok (.aload_n 0, 1) := by decide +kernel
theorem dX4_restMatches_43 : decode cX4_restMatches 43 = .ok (.getfield 18, 3) := by decide +kernel
theorem dX4_restMatches_46 : decode cX4_restMatches 46 = .ok (.iload 6, 2) := by decide +kernel
theorem dX4_restMatches_48 : decode cX4_restMatches 48 = .ok (.invokevirtual 40, 3) := by decide +kernel
theorem dX4_restMatches_51 : decode cX4_restMatches 51 = .ok (.istore 6, 2) := by decide +kernel
theorem dX4_restMatches_53 : decode cX4_restMatches 53 = .ok (.goto (-33), 3) := by decide +kernel
theorem dX4_restMatches_56 : decode cX4_restMatches 56 = .ok (.aload_n 0, 1) := by decide +kernel
theorem dX4_restMatches_57 : decode cX4_restMatches 57 = .ok (.getfield 30, 3) := by decide +kernel
theorem dX4_restMatches_60 : decode cX4_restMatches 60 = .ok (.iload 4, 2) := by decide +kernel
theorem dX4_restMatches_62 : decode cX4_restMatches 62 = .ok (.iload 5, 2) := by decide +kernel
theorem dX4_restMatches_64 : decode cX4_restMatches 64 = .ok (.invokevirtual 77, 3) := by decide +kernel
theorem dX4_restMatches_67 : decode cX4_restMatches 67 = .ok (.iconst 1, 1) := by decide +kernel
theorem dX4_restMatches_68 : decode cX4_restMatches 68 = .ok (.ireturn, 1) := by decide +kernel
theorem dX4_addVariables_0 : decode cX4_addVariables 0 = .ok (.aload_n 0, 1) := by decide +kernel
theorem dX4_addVariables_1 : decode cX4_addVariables 1 = .ok (.getfield 30, 3) := by decide +kernel
theorem dX4_addVariables_4 : decode cX4_addVariables 4 = .ok (.getfield 81, 3) := by decide +kernel
theorem dX4_addVariables_7 : decode cX4_addVariables 7 = .ok (.istore_n 2, 1) := by decide +kernel
theorem dX4_addVariables_8 : decode cX4_addVariables 8 = .ok (.iload_n 1, 1) := by decide +kernel
theorem dX4_addVariables_9 : decode cX4_addVariables 9 = .ok (.istore_n 3, 1) := by decide +kernel
theorem dX4_addVariables_10 : decode cX4_addVariables 10 = .ok (.iload_n 3, 1) := by decide +kernel
theorem dX4_addVariables_11 : decode cX4_addVariables 11 = .ok (.aload_n 0, 1) := by decide +kernel
theorem dX4_addVariables_12 : decode cX4_addVariables 12 = .ok (.getfield 18, 3) := by decide +kernel
theorem dX4_addVariables_15 : decode cX4_addVariables 15 = .ok (.iload_n 1, 1) := by decide +kernel
theorem dX4_addVariables_16 : decode cX4_addVariables 16 = .ok (.invokevirtual 40, 3) := by decide +kernel
theorem dX4_addVariables_19 : decode cX4_addVariables 19 = .ok (.if_icmp .ge 48, 3) := by decide +kernel
theorem dX4_addVariables_22 : decode cX4_addVariables 22 = .ok (.aload_n 0, 1) := by decide +kernel
theorem dX4_addVariables_23 : decode cX4_addVariables 23 = .ok (.getfield 18, 3) := by decide +kernel
theorem dX4_addVariables_26 : decode cX4_addVariables 26 = .ok (.iload_n 3, 1) := by decide +kernel
theorem dX4_addVariables_27 : decode cX4_addVariables 27 = .ok (.invokevirtual 83, 3) := by decide +kernel
theorem dX4_addVariables_30 : decode cX4_addVariables 30 = .ok (.istore 4, 2) := by decide +kernel
theorem dX4_addVariables_32 : decode cX4_addVariables 32 = .ok (.aload_n 0, 1) := by decide +kernel
theorem dX4_addVariables_33 : decode cX4_addVariables 33 = .ok (.iload 4, 2) := by decide +kernel
theorem dX4_addVariables_35 : decode cX4_addVariables 35 = .ok (.invokevirtual 86, 3) := by decide +kernel
theorem dX4_addVariables_38 : decode cX4_addVariables 38 = .ok (.ifCond .eq 23, 3) := by decide +kernel
theorem dX4_addVariables_41 : decode cX4_addVariables 41 = .ok (.aload_n 0, 1) := by decide +kernel
theorem dX4_addVariables_42 : decode cX4_addVariables 42 = .ok (.getfield 22, 3) := by decide +kernel
theorem dX4_addVariables_45 : decode cX4_addVariables 45 = .ok (.iload 4, 2) := by decide +kernel
theorem dX4_addVariables_47 : decode cX4_addVariables 47 = .ok (.aload_n 0, 1) := by decide +kernel
theorem dX4_addVariables_48 : decode cX4_addVariables 48 = .ok (.getfield 30, 3) := by decide +kernel
theorem dX4_addVariables_51 : decode cX4_addVariables 51 = .ok (.iload_n 2, 1) := by decide +kernel
theorem dX4_addVariables_52 : decode cX4_addVariables 52 = .ok (.invokevirtual 90, 3) := by decide +kernel
theorem dX4_addVariables_55 : decode cX4_addVariables 55 = .ok (.invokevirtual 93, 3) := by decide +kernel
theorem dX4_addVariables_58 : decode cX4_addVariables 58 = .ok (.iinc 2 1, 3) := by decide +kernel
theorem dX4_addVariables_61 : decode cX4_addVariables 61 = .ok (.iinc 3 1, 3) := by decide +kernel
theorem dX4_addVariables_64 : decode cX4_addVariables 64 = .ok (.goto (-54), 3) := by decide +kernel
theorem dX4_addVariables_67 : decode cX4_addVariables 67 = .ok (.return_, 1) := by decide +kernel
theorem dX4_formMatches_0 : decode cX4_formMatches 0 = .ok (.aload_n 0, 1) := by decide +kernel
theorem dX4_formMatches_1 : decode cX4_formMatches 1 = .ok (.getfield 18, 3) := by decide +kernel
theorem dX4_formMatches_4 : decode cX4_formMatches 4 = .ok (.iload_n 1, 1) := by decide +kernel
theorem dX4_formMatches_5 : decode cX4_formMatches 5 = .ok (.invokevirtual 83, 3) := by decide +kernel
theorem dX4_formMatches_8 : decode cX4_formMatches 8 = .ok (.istore 4, 2) := by decide +kernel
theorem dX4_formMatches_10 : decode cX4_formMatches 10 = .ok (.iload 4, 2) := by decide +kernel
theorem dX4_formMatches_12 : decode cX4_formMatches 12 = .ok (.bipush 8, 2) := by decide +kernel
theorem dX4_formMatches_14 : decode cX4_formMatches 14 = .ok (.if_icmp .ne 5, 3) := by decide +kernel
theorem dX4_formMatches_17 : decode cX4_formMatches 17 = .ok (.iconst 1, 1) := by decide +kernel
theorem dX4_formMatches_18 : decode cX4_formMatches 18 = .ok (.ireturn, 1) := by decide +kernel
theorem dX4_formMatches_19 : decode cX4_formMatches 19 = .ok (.aload_n 0, 1) := by decide +kernel
theorem dX4_formMatches_20 : decode cX4_formMatches 20 = .ok (.iload 4, 2) := by decide +kernel
theorem dX4_formMatches_22 : decode cX4_formMatches 22 = .ok (.invokevirtual 86, 3) := by decide +kernel
theorem dX4_formMatches_25 : decode cX4_formMatches 25 = .ok (.ifCond .eq 40, 3) := by decide +kernel
theorem dX4_formMatches_28 : decode cX4_formMatches 28 = .ok (.iload_n 3, 1) := by decide +kernel
theorem dX4_formMatches_29 : decode cX4_formMatches 29 = .ok (.ifCond .ne 26, 3) := by decide +kernel
theorem dX4_formMatches_32 : decode cX4_formMatches 32 = .ok (.aload_n 0, 1) := by decide +kernel
theorem dX4_formMatches_33 : decode cX4_formMatches 33 = .ok (.getfield 22, 3) := by decide +kernel
theorem dX4_formMatches_36 : decode cX4_formMatches 36 = .ok (.iload 4, 2) := by decide +kernel
theorem dX4_formMatches_38 : decode cX4_formMatches 38 = .ok (.aload_n 0, 1) := by decide +kernel
theorem dX4_formMatches_39 : decode cX4_formMatches 39 = .ok (.getfield 30, 3) := by decide +kernel
theorem dX4_formMatches_42 : decode cX4_formMatches 42 = .ok (.aload_n 0, 1) := by decide +kernel
theorem dX4_formMatches_43 : decode cX4_formMatches 43 = .ok (.getfield 30, 3) := by decide +kernel
theorem dX4_formMatches_46 : decode cX4_formMatches 46 = .ok (.getfield 81, 3) := by decide +kernel
theorem dX4_formMatches_49 : decode cX4_formMatches 49 = .ok (.invokevirtual 90, 3) := by decide +kernel
theorem dX4_formMatches_52 : decode cX4_formMatches 52 = .ok (.invokevirtual 93, 3) := by decide +kernel
theorem dX4_formMatches_55 : decode cX4_formMatches 55 = .ok (.aload_n 0, 1) := by decide +kernel
theorem dX4_formMatches_56 : decode cX4_formMatches 56 = .ok (.getfield 30, 3) := by decide +kernel
theorem dX4_formMatches_59 : decode cX4_formMatches 59 = .ok (.iload_n 2, 1) := by decide +kernel
theorem dX4_formMatches_60 : decode cX4_formMatches 60 = .ok (.invokevirtual 96, 3) := by decide +kernel
theorem dX4_formMatches_63 : decode cX4_formMatches 63 = .ok (.iconst 1, 1) := by decide +kernel
theorem dX4_formMatches_64 : decode cX4_formMatches 64 = .ok (.ireturn, 1) := by decide +kernel
theorem dX4_formMatches_65 : decode cX4_formMatches 65 = .ok (.iload 4, 2) := by decide +kernel
theorem dX4_formMatches_67 : decode cX4_formMatches 67 = .ok (.iconst (-1), 1) := by decide +kernel
theorem dX4_formMatches_68 : decode cX4_formMatches 68 = .ok (.if_icmp .eq 18, 3) := by decide +kernel
theorem dX4_formMatches_71 : decode cX4_formMatches 71 = .ok (.aload_n 0, 1) := by decide +kernel
theorem dX4_formMatches_72 : decode cX4_formMatches 72 = .ok (.iload 4, 2) := by decide +kernel
theorem dX4_formMatches_74 : decode cX4_formMatches 74 = .ok (.aload_n 0, 1) := by decide +kernel
theorem dX4_formMatches_75 : decode cX4_formMatches 75 = .ok (.getfield 18, 3) := by decide +kernel
theorem dX4_formMatches_78 : decode cX4_formMatches 78 = .ok (.iload_n 2, 1) := by decide +kernel
theorem dX4_formMatches_79 : decode cX4_formMatches 79 = .ok (.invokevirtual 83, 3) := by decide +kernel
theorem dX4_formMatches_82 : decode cX4_formMatches 82 = .ok (.invokevirtual 99, 3) := by decide +kernel
theorem dX4_formMatches_85 : decode cX4_formMatches 85 = .ok (.ireturn, 1) := by decide +kernel
theorem dX4_formMatches_86 : decode cX4_formMatches 86 = .ok (.aload_n 0, 1) := by decide +kernel
theorem dX4_formMatches_87 : decode cX4_formMatches 87 = .ok (.getfield 18, 3) := by decide +kernel
theorem dX4_formMatches_90 : decode cX4_formMatches 90 = .ok (.iload_n 1, 1) := by decide +kernel
theorem dX4_formMatches_91 : decode cX4_formMatches 91 = .ok (.invokevirtual 102, 3) := by decide +kernel
theorem dX4_formMatches_94 : decode cX4_formMatches 94 = .ok (.ifCond .ne 28, 3) := by decide +kernel
theorem dX4_formMatches_97 : decode cX4_formMatches 97 = .ok (.aload_n 0, 1) := by decide +kernel
theorem dX4_formMatches_98 : decode cX4_formMatches 98 = .ok (.getfield 18, 3) := by decide +kernel
theorem dX4_formMatches_101 : decode cX4_formMatches 101 = .ok (.iload_n 1, 1) := by decide +kernel
theorem dX4_formMatches_102 : decode cX4_formMatches 102 = .ok (.invokevirtual 105, 3) := by decide +kernel
theorem dX4_formMatches_105 : decode cX4_formMatches 105 = .ok (.aload_n 0, 1) := by decide +kernel
theorem dX4_formMatches_106 : decode cX4_formMatches 106 = .ok (.getfield 18, 3) := by decide +kernel
theorem dX4_formMatches_109 : decode cX4_formMatches 109 = .ok (.iload_n 2, 1) := by decide +kernel
theorem dX4_formMatches_110 : decode cX4_formMatches 110 = .ok (.invokevirtual 105, 3) := by decide +kernel
theorem dX4_formMatches_113 : decode cX4_formMatches 113 = .ok (.if_icmp .ne 7, 3) := by decide +kernel
theorem dX4_formMatches_116 : decode cX4_formMatches 116 = .ok (.iconst 1, 1) := by decide +kernel
theorem dX4_formMatches_117 : decode cX4_formMatches 117 = .ok (.goto 4, 3) := by decide +kernel
theorem dX4_formMatches_120 : decode cX4_formMatches 120 = .ok (.iconst 0, 1) := by decide +kernel
theorem dX4_formMatches_121 : decode cX4_formMatches 121 = .ok (.ireturn, 1) := by decide +kernel
theorem dX4_formMatches_122 : decode cX4_formMatches 122 = .ok (.aload_n 0, 1) := by decide +kernel
theorem dX4_formMatches_123 : decode cX4_formMatches 123 = .ok (.getfield 18, 3) := by decide +kernel
theorem dX4_formMatches_126 : decode cX4_formMatches 126 = .ok (.iload_n 2, 1) := by decide +kernel
theorem dX4_formMatches_127 : decode cX4_formMatches 127 = .ok (.invokevirtual 102, 3) := by decide +kernel
theorem dX4_formMatches_130 : decode cX4_formMatches 130 = .ok (.ifCond .eq 23, 3) := by decide +kernel
theorem dX4_formMatches_133 : decode cX4_formMatches 133 = .ok (.aload_n 0, 1) := by decide +kernel
theorem dX4_formMatches_134 : decode cX4_formMatches 134 = .ok (.iload_n 1, 1) := by decide +kernel
theorem dX4_formMatches_135 : decode cX4_formMatches 135 = .ok (.iload_n 1, 1) := by decide +kernel
theorem dX4_formMatches_136 : decode cX4_formMatches 136 = .ok (.iconst 1, 1) := by decide +kernel
theorem dX4_formMatches_137 : decode cX4_formMatches 137 = .ok (.iadd, 1) := by decide +kernel
theorem dX4_formMatches_138 : decode cX4_formMatches 138 = .ok (.iload_n 2, 1) := by decide +kernel
theorem dX4_formMatches_139 : decode cX4_formMatches 139 = .ok (.iload_n 2, 1) := by decide +kernel
theorem dX4_formMatches_140 : decode cX4_formMatches 140 = .ok (.iconst 1, 1) := by decide +kernel
theorem dX4_formMatches_141 : decode cX4_formMatches 141 = .ok (.iadd, 1) := by decide +kernel
theorem dX4_formMatches_142 : decode cX4_formMatches 142 = .ok (.iload_n 3, 1) := by decide +kernel
theorem dX4_formMatches_143 : decode cX4_formMatches 143 = .ok (.invokevirtual 54, 3) := by decide +kernel
theorem dX4_formMatches_146 : decode cX4_formMatches 146 = .ok (.ifCond .eq 7, 3) := by decide +kernel
theorem dX4_formMatches_149 : decode cX4_formMatches 149 = .ok (.iconst 1, 1) := by decide +kernel
theorem dX4_formMatches_150 : decode cX4_formMatches 150 = .ok (.goto 4, 3) := by decide +kernel
theorem dX4_formMatches_153 : decode cX4_formMatches 153 = .ok (.iconst 0, 1) := by decide +kernel
theorem dX4_formMatches_154 : decode cX4_formMatches 154 = .ok (.ireturn, 1) := by decide +kernel
theorem dX4_isVariable_0 : decode cX4_isVariable 0 = .ok (.iload_n 1, 1) := by decide +kernel
theorem dX4_isVariable_1 : decode cX4_isVariable 1 = .ok (.invokestatic 108, 3) := by decide +kernel
theorem dX4_isVariable_4 : decode cX4_isVariable 4 = .ok (.ifCond .eq 22, 3) := by decide +kernel
theorem dX4_isVariable_7 : decode cX4_isVariable 7 = .ok (.aload_n 0, 1) := by decide +kernel
theorem dX4_isVariable_8 : decode cX4_isVariable 8 = .ok (.getfield 18, 3) := by decide +kernel
theorem dX4_isVariable_11 : decode cX4_isVariable 11 = .ok (.aload_n 0, 1) := by decide +kernel
theorem dX4_isVariable_12 : decode cX4_isVariable 12 = .ok (.getfield 9, 3) := by decide +kernel
theorem dX4_isVariable_15 : decode cX4_isVariable 15 = .ok (.iload_n 1, 1) := by decide +kernel
theorem dX4_isVariable_16 : decode cX4_isVariable 16 = .ok (.invokestatic 111, 3) := by decide +kernel
theorem dX4_isVariable_19 : decode cX4_isVariable 19 = .ok (.ifCond .ne 7, 3) := by decide +kernel
theorem dX4_isVariable_22 : decode cX4_isVariable 22 = .ok (.iconst 1, 1) := by decide +kernel
theorem dX4_isVariable_23 : decode cX4_isVariable 23 = .ok (.goto 4, 3) := by decide +kernel
theorem dX4_isVariable_26 : decode cX4_isVariable 26 = .ok (.iconst 0, 1) := by decide +kernel
theorem dX4_isVariable_27 : decode cX4_isVariable 27 = .ok (.ireturn, 1) := by decide +kernel
theorem dX4_isMeant_0 : decode cX4_isMeant 0 = .ok (.iload_n 2, 1) := by decide +kernel
theorem dX4_isMeant_1 : decode cX4_isMeant 1 = .ok (.iconst (-1), 1) := by decide +kernel
theorem dX4_isMeant_2 : decode cX4_isMeant 2 = .ok (.if_icmp .eq 37, 3) := by decide +kernel
theorem dX4_isMeant_5 : decode cX4_isMeant 5 = .ok (.aload_n 0, 1) := by decide +kernel
theorem dX4_isMeant_6 : decode cX4_isMeant 6 = .ok (.getfield 26, 3) := by decide +kernel
theorem dX4_isMeant_9 : decode cX4_isMeant 9 = .ok (.iload_n 1, 1) := by decide +kernel
theorem dX4_isMeant_10 : decode cX4_isMeant 10 = .ok (.aload_n 0, 1) := by decide +kernel
theorem dX4_isMeant_11 : decode cX4_isMeant 11 = .ok (.getfield 15, 3) := by decide +kernel
theorem dX4_isMeant_14 : decode cX4_isMeant 14 = .ok (.invokevirtual 117, 3) := by decide +kernel
theorem dX4_isMeant_17 : decode cX4_isMeant 17 = .ok (.aload_n 0, 1) := by decide +kernel
theorem dX4_isMeant_18 : decode cX4_isMeant 18 = .ok (.getfield 26, 3) := by decide +kernel
theorem dX4_isMeant_21 : decode cX4_isMeant 21 = .ok (.iload_n 2, 1) := by decide +kernel
theorem dX4_isMeant_22 : decode cX4_isMeant 22 = .ok (.aload_n 0, 1) := by decide +kernel
theorem dX4_isMeant_23 : decode cX4_isMeant 23 = .ok (.getfield 26, 3) := by decide +kernel
theorem dX4_isMeant_26 : decode cX4_isMeant 26 = .ok (.getfield 122, 3) := by decide +kernel
theorem dX4_isMeant_29 : decode cX4_isMeant 29 = .ok (.invokevirtual 117, 3) := by decide +kernel
theorem dX4_isMeant_32 : decode cX4_isMeant 32 = .ok (.if_icmp .ne 7, 3) := by decide +kernel
theorem dX4_isMeant_35 : decode cX4_isMeant 35 = .ok (.iconst 1, 1) := by decide +kernel
theorem dX4_isMeant_36 : decode cX4_isMeant 36 = .ok (.goto 4, 3) := by decide +kernel
theorem dX4_isMeant_39 : decode cX4_isMeant 39 = .ok (.iconst 0, 1) := by decide +kernel
theorem dX4_isMeant_40 : decode cX4_isMeant 40 = .ok (.ireturn, 1) := by decide +kernel
theorem dX5_init_0 : decode cX5_init 0 = .ok (.aload_n 0, 1) := by decide +kernel
theorem dX5_init_1 : decode cX5_init 1 = .ok (.invokespecial 3, 3) := by decide +kernel
theorem dX5_init_4 : decode cX5_init 4 = .ok (.aload_n 0, 1) := by decide +kernel
theorem dX5_init_5 : decode cX5_init 5 = .ok (.sipush 3000, 3) := by decide +kernel
theorem dX5_init_8 : decode cX5_init 8 = .ok (.newarray .int, 2) := by decide +kernel
theorem dX5_init_10 : decode cX5_init 10 = .ok (.putfield 9, 3) := by decide +kernel
theorem dX5_init_13 : decode cX5_init 13 = .ok (.aload_n 0, 1) := by decide +kernel
theorem dX5_init_14 : decode cX5_init 14 = .ok (.sipush 3000, 3) := by decide +kernel
theorem dX5_init_17 : decode cX5_init 17 = .ok (.newarray .int, 2) := by decide +kernel
theorem dX5_init_19 : decode cX5_init 19 = .ok (.putfield 15, 3) := by decide +kernel
theorem dX5_init_22 : decode cX5_init 22 = .ok (.aload_n 0, 1) := by decide +kernel
theorem dX5_init_23 : decode cX5_init 23 = .ok (.sipush 3000, 3) := by decide +kernel
theorem dX5_init_26 : decode cX5_init 26 = .ok (.newarray .int, 2) := by decide +kernel
theorem dX5_init_28 : decode cX5_init 28 = .ok (.putfield 18, 3) := by decide +kernel
theorem dX5_init_31 : decode cX5_init 31 = .ok (.aload_n 0, 1) := by decide +kernel
theorem dX5_init_32 : decode cX5_init 32 = .ok (.sipush 3000, 3) := by decide +kernel
theorem dX5_init_35 : decode cX5_init 35 = .ok (.newarray .int, 2) := by decide +kernel
theorem dX5_init_37 : decode cX5_init 37 = .ok (.putfield 21, 3) := by decide +kernel
theorem dX5_init_40 : decode cX5_init 40 = .ok (.aload_n 0, 1) := by decide +kernel
theorem dX5_init_41 : decode cX5_init 41 = .ok (.iconst 0, 1) := by decide +kernel
theorem dX5_init_42 : decode cX5_init 42 = .ok (.putfield 24, 3) := by decide +kernel
theorem dX5_init_45 : decode cX5_init 45 = .ok (.aload_n 0, 1) := by decide +kernel
theorem dX5_init_46 : decode cX5_init 46 = .ok (.iconst 0, 1) := by decide +kernel
theorem dX5_init_47 : decode cX5_init 47 = .ok (.putfield 28, 3) := by decide +kernel
theorem dX5_init_50 : decode cX5_init 50 = .ok (.return_, 1) := by decide +kernel
theorem dX5_clear_0 : decode cX5_clear 0 = .ok (.aload_n 0, 1) := by decide +kernel
theorem dX5_clear_1 : decode cX5_clear 1 = .ok (.iconst 0, 1) := by decide +kernel
theorem dX5_clear_2 : decode cX5_clear 2 = .ok (.putfield 24, 3) := by decide +kernel
theorem dX5_clear_5 : decode cX5_clear 5 = .ok (.aload_n 0, 1) := by decide +kernel
theorem dX5_clear_6 : decode cX5_clear 6 = .ok (.iconst 0, 1) := by decide +kernel
theorem dX5_clear_7 : decode cX5_clear 7 = .ok (.putfield 28, 3) := by decide +kernel
theorem dX5_clear_10 : decode cX5_clear 10 = .ok (.return_, 1) := by decide +kernel
theorem dX5_addVariable_0 : decode cX5_addVariable 0 = .ok (.aload_n 0, 1) := by decide +kernel
theorem dX5_addVariable_1 : decode cX5_addVariable 1 = .ok (.getfield 24, 3) := by decide +kernel
theorem dX5_addVariable_4 : decode cX5_addVariable 4 = .ok (.sipush 3000, 3) := by decide +kernel
theorem dX5_addVariable_7 : decode cX5_addVariable 7 = .ok (.if_icmp .ge 43, 3) := by decide +kernel
theorem dX5_addVariable_10 : decode cX5_addVariable 10 = .ok (.aload_n 0, 1) := by decide +kernel
theorem dX5_addVariable_11 : decode cX5_addVariable 11 = .ok (.getfield 9, 3) := by decide +kernel
theorem dX5_addVariable_14 : decode cX5_addVariable 14 = .ok (.aload_n 0, 1) := by decide +kernel
theorem dX5_addVariable_15 : decode cX5_addVariable 15 = .ok (.getfield 24, 3) := by decide +kernel
theorem dX5_addVariable_18 : decode cX5_addVariable 18 = .ok (.iload_n 1, 1) := by decide +kernel
theorem dX5_addVariable_19 : decode cX5_addVariable 19 = .ok (.iastore, 1) := by decide +kernel
theorem dX5_addVariable_20 : decode cX5_addVariable 20 = .ok (.aload_n 0, 1) := by decide +kernel
theorem dX5_addVariable_21 : decode cX5_addVariable 21 = .ok (.getfield 15, 3) := by decide +kernel
theorem dX5_addVariable_24 : decode cX5_addVariable 24 = .ok (.aload_n 0, 1) := by decide +kernel
theorem dX5_addVariable_25 : decode cX5_addVariable 25 = .ok (.getfield 24, 3) := by decide +kernel
theorem dX5_addVariable_28 : decode cX5_addVariable 28 = .ok (.iconst 0, 1) := by decide +kernel
theorem dX5_addVariable_29 : decode cX5_addVariable 29 = .ok (.iastore, 1) := by decide +kernel
theorem dX5_addVariable_30 : decode cX5_addVariable 30 = .ok (.aload_n 0, 1) := by decide +kernel
theorem dX5_addVariable_31 : decode cX5_addVariable 31 = .ok (.getfield 18, 3) := by decide +kernel
theorem dX5_addVariable_34 : decode cX5_addVariable 34 = .ok (.aload_n 0, 1) := by decide +kernel
theorem dX5_addVariable_35 : decode cX5_addVariable 35 = .ok (.getfield 24, 3) := by decide +kernel
theorem dX5_addVariable_38 : decode cX5_addVariable 38 = .ok (.iconst (-1), 1) := by decide +kernel
theorem dX5_addVariable_39 : decode cX5_addVariable 39 = .ok (.iastore, 1) := by decide +kernel
theorem dX5_addVariable_40 : decode cX5_addVariable 40 = .ok (.aload_n 0, 1) := by decide +kernel
theorem dX5_addVariable_41 : decode cX5_addVariable 41 = .ok (.dup, 1) := by decide +kernel
theorem dX5_addVariable_42 : decode cX5_addVariable 42 = .ok (.getfield 24, 3) := by decide +kernel
theorem dX5_addVariable_45 : decode cX5_addVariable 45 = .ok (.iconst 1, 1) := by decide +kernel
theorem dX5_addVariable_46 : decode cX5_addVariable 46 = .ok (.iadd, 1) := by decide +kernel
theorem dX5_addVariable_47 : decode cX5_addVariable 47 = .ok (.putfield 24, 3) := by decide +kernel
theorem dX5_addVariable_50 : decode cX5_addVariable 50 = .ok (.aload_n 0, 1) := by decide +kernel
theorem dX5_addVariable_51 : decode cX5_addVariable 51 = .ok (.getfield 24, 3) := by decide +kernel
theorem dX5_addVariable_54 : decode cX5_addVariable 54 = .ok (.iconst 1, 1) := by decide +kernel
theorem dX5_addVariable_55 : decode cX5_addVariable 55 = .ok (.isub, 1) := by decide +kernel
theorem dX5_addVariable_56 : decode cX5_addVariable 56 = .ok (.ireturn, 1) := by decide +kernel
theorem dX5_addForm_0 : decode cX5_addForm 0 = .ok (.aload_n 0, 1) := by decide +kernel
theorem dX5_addForm_1 : decode cX5_addForm 1 = .ok (.getfield 28, 3) := by decide +kernel
theorem dX5_addForm_4 : decode cX5_addForm 4 = .ok (.sipush 3000, 3) := by decide +kernel
theorem dX5_addForm_7 : decode cX5_addForm 7 = .ok (.if_icmp .ge 23, 3) := by decide +kernel
theorem dX5_addForm_10 : decode cX5_addForm 10 = .ok (.aload_n 0, 1) := by decide +kernel
theorem dX5_addForm_11 : decode cX5_addForm 11 = .ok (.getfield 21, 3) := by decide +kernel
theorem dX5_addForm_14 : decode cX5_addForm 14 = .ok (.aload_n 0, 1) := by decide +kernel
theorem dX5_addForm_15 : decode cX5_addForm 15 = .ok (.getfield 28, 3) := by decide +kernel
theorem dX5_addForm_18 : decode cX5_addForm 18 = .ok (.iload_n 1, 1) := by decide +kernel
theorem dX5_addForm_19 : decode cX5_addForm 19 = .ok (.iastore, 1) := by decide +kernel
theorem dX5_addForm_20 : decode cX5_addForm 20 = .ok (.aload_n 0, 1) := by decide +kernel
theorem dX5_addForm_21 : decode cX5_addForm 21 = .ok (.dup, 1) := by decide +kernel
theorem dX5_addForm_22 : decode cX5_addForm 22 = .ok (.getfield 28, 3) := by decide +kernel
theorem dX5_addForm_25 : decode cX5_addForm 25 = .ok (.iconst 1, 1) := by decide +kernel
theorem dX5_addForm_26 : decode cX5_addForm 26 = .ok (.iadd, 1) := by decide +kernel
theorem dX5_addForm_27 : decode cX5_addForm 27 = .ok (.putfield 28, 3) := by decide +kernel
theorem dX5_addForm_30 : decode cX5_addForm 30 = .ok (.return_, 1) := by decide +kernel
theorem dX5_repeat_0 : decode cX5_repeat 0 = .ok (.iconst 0, 1) := by decide +kernel
theorem dX5_repeat_1 : decode cX5_repeat 1 = .ok (.iload_n 1, 1) := by decide +kernel
theorem dX5_repeat_2 : decode cX5_repeat 2 = .ok (.invokestatic 31, 3) := by decide +kernel
theorem dX5_repeat_5 : decode cX5_repeat 5 = .ok (.istore_n 3, 1) := by decide +kernel
theorem dX5_repeat_6 : decode cX5_repeat 6 = .ok (.iload_n 3, 1) := by decide +kernel
theorem dX5_repeat_7 : decode cX5_repeat 7 = .ok (.aload_n 0, 1) := by decide +kernel
theorem dX5_repeat_8 : decode cX5_repeat 8 = .ok (.getfield 24, 3) := by decide +kernel
theorem dX5_repeat_11 : decode cX5_repeat 11 = .ok (.if_icmp .ge 28, 3) := by decide +kernel
theorem dX5_repeat_14 : decode cX5_repeat 14 = .ok (.aload_n 0, 1) := by decide +kernel
theorem dX5_repeat_15 : decode cX5_repeat 15 = .ok (.getfield 15, 3) := by decide +kernel
theorem dX5_repeat_18 : decode cX5_repeat 18 = .ok (.iload_n 3, 1) := by decide +kernel
theorem dX5_repeat_19 : decode cX5_repeat 19 = .ok (.aload_n 0, 1) := by decide +kernel
theorem dX5_repeat_20 : decode cX5_repeat 20 = .ok (.getfield 24, 3) := by decide +kernel
theorem dX5_repeat_23 : decode cX5_repeat 23 = .ok (.iload_n 1, 1) := by decide +kernel
theorem dX5_repeat_24 : decode cX5_repeat 24 = .ok (.isub, 1) := by decide +kernel
theorem dX5_repeat_25 : decode cX5_repeat 25 = .ok (.iastore, 1) := by decide +kernel
theorem dX5_repeat_26 : decode cX5_repeat 26 = .ok (.aload_n 0, 1) := by decide +kernel
theorem dX5_repeat_27 : decode cX5_repeat 27 = .ok (.getfield 18, 3) := by decide +kernel
theorem dX5_repeat_30 : decode cX5_repeat 30 = .ok (.iload_n 3, 1) := by decide +kernel
theorem dX5_repeat_31 : decode cX5_repeat 31 = .ok (.iload_n 2, 1) := by decide +kernel
theorem dX5_repeat_32 : decode cX5_repeat 32 = .ok (.iastore, 1) := by decide +kernel
theorem dX5_repeat_33 : decode cX5_repeat 33 = .ok (.iinc 3 1, 3) := by decide +kernel
theorem dX5_repeat_36 : decode cX5_repeat 36 = .ok (.goto (-30), 3) := by decide +kernel
theorem dX5_repeat_39 : decode cX5_repeat 39 = .ok (.return_, 1) := by decide +kernel
theorem dX5_timesOf_0 : decode cX5_timesOf 0 = .ok (.iload_n 1, 1) := by decide +kernel
theorem dX5_timesOf_1 : decode cX5_timesOf 1 = .ok (.ifCond .lt 20, 3) := by decide +kernel
theorem dX5_timesOf_4 : decode cX5_timesOf 4 = .ok (.iload_n 1, 1) := by decide +kernel
theorem dX5_timesOf_5 : decode cX5_timesOf 5 = .ok (.aload_n 0, 1) := by decide +kernel
theorem dX5_timesOf_6 : decode cX5_timesOf 6 = .ok (.getfield 24, 3) := by decide +kernel
theorem dX5_timesOf_9 : decode cX5_timesOf 9 = .ok (.if_icmp .ge 12, 3) := by decide +kernel
theorem dX5_timesOf_12 : decode cX5_timesOf 12 = .ok (.aload_n 0, 1) := by decide +kernel
theorem dX5_timesOf_13 : decode cX5_timesOf 13 = .ok (.getfield 18, 3) := by decide +kernel
theorem dX5_timesOf_16 : decode cX5_timesOf 16 = .ok (.iload_n 1, 1) := by decide +kernel
theorem dX5_timesOf_17 : decode cX5_timesOf 17 = .ok (.iaload, 1) := by decide +kernel
theorem dX5_timesOf_18 : decode cX5_timesOf 18 = .ok (.goto 4, 3) := by decide +kernel
theorem dX5_timesOf_21 : decode cX5_timesOf 21 = .ok (.iconst (-1), 1) := by decide +kernel
theorem dX5_timesOf_22 : decode cX5_timesOf 22 = .ok (.ireturn, 1) := by decide +kernel
theorem dX5_formOf_0 : decode cX5_formOf 0 = .ok (.iload_n 1, 1) := by decide +kernel
theorem dX5_formOf_1 : decode cX5_formOf 1 = .ok (.ifCond .lt 11, 3) := by decide +kernel
theorem dX5_formOf_4 : decode cX5_formOf 4 = .ok (.iload_n 1, 1) := by decide +kernel
theorem dX5_formOf_5 : decode cX5_formOf 5 = .ok (.aload_n 0, 1) := by decide +kernel
theorem dX5_formOf_6 : decode cX5_formOf 6 = .ok (.getfield 24, 3) := by decide +kernel
theorem dX5_formOf_9 : decode cX5_formOf 9 = .ok (.if_icmp .lt 5, 3) := by decide +kernel
theorem dX5_formOf_12 : decode cX5_formOf 12 = .ok (.iconst (-1), 1) := by decide +kernel
theorem dX5_formOf_13 : decode cX5_formOf 13 = .ok (.ireturn, 1) := by decide +kernel
theorem dX5_formOf_14 : decode cX5_formOf 14 = .ok (.aload_n 0, 1) := by decide +kernel
theorem dX5_formOf_15 : decode cX5_formOf 15 = .ok (.getfield 9, 3) := by decide +kernel
theorem dX5_formOf_18 : decode cX5_formOf 18 = .ok (.iload_n 1, 1) := by decide +kernel
theorem dX5_formOf_19 : decode cX5_formOf 19 = .ok (.iaload, 1) := by decide +kernel
theorem dX5_formOf_20 : decode cX5_formOf 20 = .ok (.iload_n 2, 1) := by decide +kernel
theorem dX5_formOf_21 : decode cX5_formOf 21 = .ok (.aload_n 0, 1) := by decide +kernel
theorem dX5_formOf_22 : decode cX5_formOf 22 = .ok (.getfield 15, 3) := by decide +kernel
theorem dX5_formOf_25 : decode cX5_formOf 25 = .ok (.iload_n 1, 1) := by decide +kernel
theorem dX5_formOf_26 : decode cX5_formOf 26 = .ok (.iaload, 1) := by decide +kernel
theorem dX5_formOf_27 : decode cX5_formOf 27 = .ok (.imul, 1) := by decide +kernel
theorem dX5_formOf_28 : decode cX5_formOf 28 = .ok (.iadd, 1) := by decide +kernel
theorem dX5_formOf_29 : decode cX5_formOf 29 = .ok (.istore_n 3, 1) := by decide +kernel
theorem dX5_formOf_30 : decode cX5_formOf 30 = .ok (.iload_n 3, 1) := by decide +kernel
theorem dX5_formOf_31 : decode cX5_formOf 31 = .ok (.ifCond .lt 20, 3) := by decide +kernel
theorem dX5_formOf_34 : decode cX5_formOf 34 = .ok (.iload_n 3, 1) := by decide +kernel
theorem dX5_formOf_35 : decode cX5_formOf 35 = .ok (.aload_n 0, 1) := by decide +kernel
theorem dX5_formOf_36 : decode cX5_formOf 36 = .ok (.getfield 28, 3) := by decide +kernel
theorem dX5_formOf_39 : decode cX5_formOf 39 = .ok (.if_icmp .ge 12, 3) := by decide +kernel
theorem dX5_formOf_42 : decode cX5_formOf 42 = .ok (.aload_n 0, 1) := by decide +kernel
theorem dX5_formOf_43 : decode cX5_formOf 43 = .ok (.getfield 21, 3) := by decide +kernel
theorem dX5_formOf_46 : decode cX5_formOf 46 = .ok (.iload_n 3, 1) := by decide +kernel
theorem dX5_formOf_47 : decode cX5_formOf 47 = .ok (.iaload, 1) := by decide +kernel
theorem dX5_formOf_48 : decode cX5_formOf 48 = .ok (.goto 4, 3) := by decide +kernel
theorem dX5_formOf_51 : decode cX5_formOf 51 = .ok (.iconst (-1), 1) := by decide +kernel
theorem dX5_formOf_52 : decode cX5_formOf 52 = .ok (.ireturn, 1) := by decide +kernel
theorem dX6_init_0 : decode cX6_init 0 = .ok (.aload_n 0, 1) := by decide +kernel
theorem dX6_init_1 : decode cX6_init 1 = .ok (.invokespecial 3, 3) := by decide +kernel
theorem dX6_init_4 : decode cX6_init 4 = .ok (.aload_n 0, 1) := by decide +kernel
theorem dX6_init_5 : decode cX6_init 5 = .ok (.sipush 2560, 3) := by decide +kernel
theorem dX6_init_8 : decode cX6_init 8 = .ok (.newarray .long, 2) := by decide +kernel
theorem dX6_init_10 : decode cX6_init 10 = .ok (.putfield 9, 3) := by decide +kernel
theorem dX6_init_13 : decode cX6_init 13 = .ok (.aload_n 0, 1) := by decide +kernel
theorem dX6_init_14 : decode cX6_init 14 = .ok (.sipush 2560, 3) := by decide +kernel
theorem dX6_init_17 : decode cX6_init 17 = .ok (.newarray .long, 2) := by decide +kernel
theorem dX6_init_19 : decode cX6_init 19 = .ok (.putfield 15, 3) := by decide +kernel
theorem dX6_init_22 : decode cX6_init 22 = .ok (.aload_n 0, 1) := by decide +kernel
theorem dX6_init_23 : decode cX6_init 23 = .ok (.sipush 2560, 3) := by decide +kernel
theorem dX6_init_26 : decode cX6_init 26 = .ok (.newarray .int, 2) := by decide +kernel
theorem dX6_init_28 : decode cX6_init 28 = .ok (.putfield 18, 3) := by decide +kernel
theorem dX6_init_31 : decode cX6_init 31 = .ok (.aload_n 0, 1) := by decide +kernel
theorem dX6_init_32 : decode cX6_init 32 = .ok (.sipush 2560, 3) := by decide +kernel
theorem dX6_init_35 : decode cX6_init 35 = .ok (.newarray .int, 2) := by decide +kernel
theorem dX6_init_37 : decode cX6_init 37 = .ok (.putfield 22, 3) := by decide +kernel
theorem dX6_init_40 : decode cX6_init 40 = .ok (.aload_n 0, 1) := by decide +kernel
theorem dX6_init_41 : decode cX6_init 41 = .ok (.iconst 0, 1) := by decide +kernel
theorem dX6_init_42 : decode cX6_init 42 = .ok (.putfield 25, 3) := by decide +kernel
theorem dX6_init_45 : decode cX6_init 45 = .ok (.aload_n 0, 1) := by decide +kernel
theorem dX6_init_46 : decode cX6_init 46 = .ok (.iconst 0, 1) := by decide +kernel
theorem dX6_init_47 : decode cX6_init 47 = .ok (.putfield 29, 3) := by decide +kernel
theorem dX6_init_50 : decode cX6_init 50 = .ok (.aload_n 0, 1) := by decide +kernel
theorem dX6_init_51 : decode cX6_init 51 = .ok (.sipush 3760, 3) := by decide +kernel
theorem dX6_init_54 : decode cX6_init 54 = .ok (.newarray .int, 2) := by decide +kernel
theorem dX6_init_56 : decode cX6_init 56 = .ok (.putfield 32, 3) := by decide +kernel
theorem dX6_init_59 : decode cX6_init 59 = .ok (.aload_n 0, 1) := by decide +kernel
theorem dX6_init_60 : decode cX6_init 60 = .ok (.sipush 3760, 3) := by decide +kernel
theorem dX6_init_63 : decode cX6_init 63 = .ok (.newarray .int, 2) := by decide +kernel
theorem dX6_init_65 : decode cX6_init 65 = .ok (.putfield 35, 3) := by decide +kernel
theorem dX6_init_68 : decode cX6_init 68 = .ok (.aload_n 0, 1) := by decide +kernel
theorem dX6_init_69 : decode cX6_init 69 = .ok (.sipush 3760, 3) := by decide +kernel
theorem dX6_init_72 : decode cX6_init 72 = .ok (.newarray .int, 2) := by decide +kernel
theorem dX6_init_74 : decode cX6_init 74 = .ok (.putfield 38, 3) := by decide +kernel
theorem dX6_init_77 : decode cX6_init 77 = .ok (.aload_n 0, 1) := by decide +kernel
theorem dX6_init_78 : decode cX6_init 78 = .ok (.sipush 3760, 3) := by decide +kernel
theorem dX6_init_81 : decode cX6_init 81 = .ok (.newarray .int, 2) := by decide +kernel
theorem dX6_init_83 : decode cX6_init 83 = .ok (.putfield 41, 3) := by decide +kernel
theorem dX6_init_86 : decode cX6_init 86 = .ok (.aload_n 0, 1) := by decide +kernel
theorem dX6_init_87 : decode cX6_init 87 = .ok (.sipush 3760, 3) := by decide +kernel
theorem dX6_init_90 : decode cX6_init 90 = .ok (.newarray .int, 2) := by decide +kernel
theorem dX6_init_92 : decode cX6_init 92 = .ok (.putfield 44, 3) := by decide +kernel
theorem dX6_init_95 : decode cX6_init 95 = .ok (.aload_n 0, 1) := by decide +kernel
theorem dX6_init_96 : decode cX6_init 96 = .ok (.iconst 0, 1) := by decide +kernel
theorem dX6_init_97 : decode cX6_init 97 = .ok (.putfield 47, 3) := by decide +kernel
theorem dX6_init_100 : decode cX6_init 100 = .ok (.aload_n 0, 1) := by decide +kernel
theorem dX6_init_101 : decode cX6_init 101 = .ok (.iconst 0, 1) := by decide +kernel
theorem dX6_init_102 : decode cX6_init 102 = .ok (.putfield 50, 3) := by decide +kernel
theorem dX6_init_105 : decode cX6_init 105 = .ok (.aload_n 0, 1) := by decide +kernel
theorem dX6_init_106 : decode cX6_init 106 = .ok (.ldc 53, 2) := by decide +kernel
theorem dX6_init_108 : decode cX6_init 108 = .ok (.invokevirtual 55, 3) := by decide +kernel
theorem dX6_init_111 : decode cX6_init 111 = .ok (.aload_n 0, 1) := by decide +kernel
theorem dX6_init_112 : decode cX6_init 112 = .ok (.ldc 59, 2) := by decide +kernel
theorem dX6_init_114 : decode cX6_init 114 = .ok (.invokevirtual 55, 3) := by decide +kernel
theorem dX6_init_117 : decode cX6_init 117 = .ok (.aload_n 0, 1) := by decide +kernel
theorem dX6_init_118 : decode cX6_init 118 = .ok (.ldc 61, 2) := by decide +kernel
theorem dX6_init_120 : decode cX6_init 120 = .ok (.invokevirtual 55, 3) := by decide +kernel
theorem dX6_init_123 : decode cX6_init 123 = .ok (.aload_n 0, 1) := by decide +kernel
theorem dX6_init_124 : decode cX6_init 124 = .ok (.ldc 63, 2) := by decide +kernel
theorem dX6_init_126 : decode cX6_init 126 = .ok (.invokevirtual 55, 3) := by decide +kernel
theorem dX6_init_129 : decode cX6_init 129 = .ok (.aload_n 0, 1) := by decide +kernel
theorem dX6_init_130 : decode cX6_init 130 = .ok (.ldc 65, 2) := by decide +kernel
theorem dX6_init_132 : decode cX6_init 132 = .ok (.invokevirtual 55, 3) := by decide +kernel
theorem dX6_init_135 : decode cX6_init 135 = .ok (.aload_n 0, 1) := by decide +kernel
theorem dX6_init_136 : decode cX6_init 136 = .ok (.ldc 67, 2) := by decide +kernel
theorem dX6_init_138 : decode cX6_init 138 = .ok (.invokevirtual 55, 3) := by decide +kernel
theorem dX6_init_141 : decode cX6_init 141 = .ok (.aload_n 0, 1) := by decide +kernel
theorem dX6_init_142 : decode cX6_init 142 = .ok (.ldc 69, 2) := by decide +kernel
theorem dX6_init_144 : decode cX6_init 144 = .ok (.invokevirtual 55, 3) := by decide +kernel
theorem dX6_init_147 : decode cX6_init 147 = .ok (.aload_n 0, 1) := by decide +kernel
theorem dX6_init_148 : decode cX6_init 148 = .ok (.ldc 71, 2) := by decide +kernel
theorem dX6_init_150 : decode cX6_init 150 = .ok (.invokevirtual 55, 3) := by decide +kernel
theorem dX6_init_153 : decode cX6_init 153 = .ok (.aload_n 0, 1) := by decide +kernel
