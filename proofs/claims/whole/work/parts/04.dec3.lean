/-! Method names and decoded instructions, by program (wip/mk07.py). -/
abbrev b_R_thrown : ByteArray := prog_5_method_2_code
def y_R_thrown : MethodName := ⟨"MergingFragmentsModel", "thrown", "()I"⟩
theorem d_R_thrown_0 : decode b_R_thrown 0 = .ok (.aload_n 0, 1) := by decide +kernel
theorem d_R_thrown_1 : decode b_R_thrown 1 = .ok (.getfield 68, 3) := by decide +kernel
theorem d_R_thrown_4 : decode b_R_thrown 4 = .ok (.ireturn, 1) := by decide +kernel
abbrev b_R_begin : ByteArray := prog_5_method_4_code
def y_R_begin : MethodName := ⟨"MergingFragmentsModel", "begin", "(I)V"⟩
theorem d_R_begin_0 : decode b_R_begin 0 = .ok (.aload_n 0, 1) := by decide +kernel
theorem d_R_begin_1 : decode b_R_begin 1 = .ok (.iload_n 1, 1) := by decide +kernel
theorem d_R_begin_2 : decode b_R_begin 2 = .ok (.iconst 1, 1) := by decide +kernel
theorem d_R_begin_3 : decode b_R_begin 3 = .ok (.if_icmp .lt 9, 3) := by decide +kernel
theorem d_R_begin_6 : decode b_R_begin 6 = .ok (.iload_n 1, 1) := by decide +kernel
theorem d_R_begin_7 : decode b_R_begin 7 = .ok (.bipush 7, 2) := by decide +kernel
theorem d_R_begin_9 : decode b_R_begin 9 = .ok (.if_icmp .le 7, 3) := by decide +kernel
theorem d_R_begin_12 : decode b_R_begin 12 = .ok (.iconst 1, 1) := by decide +kernel
theorem d_R_begin_13 : decode b_R_begin 13 = .ok (.goto 4, 3) := by decide +kernel
theorem d_R_begin_16 : decode b_R_begin 16 = .ok (.iconst 0, 1) := by decide +kernel
theorem d_R_begin_17 : decode b_R_begin 17 = .ok (.putfield 68, 3) := by decide +kernel
theorem d_R_begin_20 : decode b_R_begin 20 = .ok (.aload_n 0, 1) := by decide +kernel
theorem d_R_begin_21 : decode b_R_begin 21 = .ok (.getfield 68, 3) := by decide +kernel
theorem d_R_begin_24 : decode b_R_begin 24 = .ok (.ifCond .le 4, 3) := by decide +kernel
theorem d_R_begin_27 : decode b_R_begin 27 = .ok (.return_, 1) := by decide +kernel
theorem d_R_begin_28 : decode b_R_begin 28 = .ok (.aload_n 0, 1) := by decide +kernel
theorem d_R_begin_29 : decode b_R_begin 29 = .ok (.iload_n 1, 1) := by decide +kernel
theorem d_R_begin_30 : decode b_R_begin 30 = .ok (.putfield 72, 3) := by decide +kernel
theorem d_R_begin_33 : decode b_R_begin 33 = .ok (.aload_n 0, 1) := by decide +kernel
theorem d_R_begin_34 : decode b_R_begin 34 = .ok (.iconst 0, 1) := by decide +kernel
theorem d_R_begin_35 : decode b_R_begin 35 = .ok (.putfield 75, 3) := by decide +kernel
theorem d_R_begin_38 : decode b_R_begin 38 = .ok (.aload_n 0, 1) := by decide +kernel
theorem d_R_begin_39 : decode b_R_begin 39 = .ok (.iconst 0, 1) := by decide +kernel
theorem d_R_begin_40 : decode b_R_begin 40 = .ok (.putfield 78, 3) := by decide +kernel
theorem d_R_begin_43 : decode b_R_begin 43 = .ok (.iconst 0, 1) := by decide +kernel
theorem d_R_begin_44 : decode b_R_begin 44 = .ok (.istore_n 2, 1) := by decide +kernel
theorem d_R_begin_45 : decode b_R_begin 45 = .ok (.iload_n 2, 1) := by decide +kernel
theorem d_R_begin_46 : decode b_R_begin 46 = .ok (.bipush 7, 2) := by decide +kernel
theorem d_R_begin_48 : decode b_R_begin 48 = .ok (.if_icmp .ge 87, 3) := by decide +kernel
theorem d_R_begin_51 : decode b_R_begin 51 = .ok (.aload_n 0, 1) := by decide +kernel
theorem d_R_begin_52 : decode b_R_begin 52 = .ok (.getfield 19, 3) := by decide +kernel
theorem d_R_begin_55 : decode b_R_begin 55 = .ok (.iload_n 2, 1) := by decide +kernel
theorem d_R_begin_56 : decode b_R_begin 56 = .ok (.iconst 0, 1) := by decide +kernel
theorem d_R_begin_57 : decode b_R_begin 57 = .ok (.iastore, 1) := by decide +kernel
theorem d_R_begin_58 : decode b_R_begin 58 = .ok (.aload_n 0, 1) := by decide +kernel
theorem d_R_begin_59 : decode b_R_begin 59 = .ok (.getfield 22, 3) := by decide +kernel
theorem d_R_begin_62 : decode b_R_begin 62 = .ok (.iload_n 2, 1) := by decide +kernel
theorem d_R_begin_63 : decode b_R_begin 63 = .ok (.iconst 0, 1) := by decide +kernel
theorem d_R_begin_64 : decode b_R_begin 64 = .ok (.iastore, 1) := by decide +kernel
theorem d_R_begin_65 : decode b_R_begin 65 = .ok (.aload_n 0, 1) := by decide +kernel
theorem d_R_begin_66 : decode b_R_begin 66 = .ok (.getfield 25, 3) := by decide +kernel
theorem d_R_begin_69 : decode b_R_begin 69 = .ok (.iload_n 2, 1) := by decide +kernel
theorem d_R_begin_70 : decode b_R_begin 70 = .ok (.iconst 0, 1) := by decide +kernel
theorem d_R_begin_71 : decode b_R_begin 71 = .ok (.iastore, 1) := by decide +kernel
theorem d_R_begin_72 : decode b_R_begin 72 = .ok (.aload_n 0, 1) := by decide +kernel
theorem d_R_begin_73 : decode b_R_begin 73 = .ok (.getfield 28, 3) := by decide +kernel
theorem d_R_begin_76 : decode b_R_begin 76 = .ok (.iload_n 2, 1) := by decide +kernel
theorem d_R_begin_77 : decode b_R_begin 77 = .ok (.iconst 0, 1) := by decide +kernel
theorem d_R_begin_78 : decode b_R_begin 78 = .ok (.iastore, 1) := by decide +kernel
theorem d_R_begin_79 : decode b_R_begin 79 = .ok (.aload_n 0, 1) := by decide +kernel
theorem d_R_begin_80 : decode b_R_begin 80 = .ok (.getfield 31, 3) := by decide +kernel
theorem d_R_begin_83 : decode b_R_begin 83 = .ok (.iload_n 2, 1) := by decide +kernel
theorem d_R_begin_84 : decode b_R_begin 84 = .ok (.iconst (-1), 1) := by decide +kernel
theorem d_R_begin_85 : decode b_R_begin 85 = .ok (.iastore, 1) := by decide +kernel
theorem d_R_begin_86 : decode b_R_begin 86 = .ok (.aload_n 0, 1) := by decide +kernel
theorem d_R_begin_87 : decode b_R_begin 87 = .ok (.getfield 34, 3) := by decide +kernel
theorem d_R_begin_90 : decode b_R_begin 90 = .ok (.iload_n 2, 1) := by decide +kernel
theorem d_R_begin_91 : decode b_R_begin 91 = .ok (.iconst (-1), 1) := by decide +kernel
theorem d_R_begin_92 : decode b_R_begin 92 = .ok (.iastore, 1) := by decide +kernel
theorem d_R_begin_93 : decode b_R_begin 93 = .ok (.aload_n 0, 1) := by decide +kernel
theorem d_R_begin_94 : decode b_R_begin 94 = .ok (.getfield 37, 3) := by decide +kernel
theorem d_R_begin_97 : decode b_R_begin 97 = .ok (.iload_n 2, 1) := by decide +kernel
theorem d_R_begin_98 : decode b_R_begin 98 = .ok (.bipush 100, 2) := by decide +kernel
theorem d_R_begin_100 : decode b_R_begin 100 = .ok (.iastore, 1) := by decide +kernel
theorem d_R_begin_101 : decode b_R_begin 101 = .ok (.aload_n 0, 1) := by decide +kernel
theorem d_R_begin_102 : decode b_R_begin 102 = .ok (.getfield 40, 3) := by decide +kernel
theorem d_R_begin_105 : decode b_R_begin 105 = .ok (.iload_n 2, 1) := by decide +kernel
theorem d_R_begin_106 : decode b_R_begin 106 = .ok (.iconst (-1), 1) := by decide +kernel
theorem d_R_begin_107 : decode b_R_begin 107 = .ok (.iastore, 1) := by decide +kernel
theorem d_R_begin_108 : decode b_R_begin 108 = .ok (.aload_n 0, 1) := by decide +kernel
theorem d_R_begin_109 : decode b_R_begin 109 = .ok (.getfield 43, 3) := by decide +kernel
theorem d_R_begin_112 : decode b_R_begin 112 = .ok (.iload_n 2, 1) := by decide +kernel
theorem d_R_begin_113 : decode b_R_begin 113 = .ok (.iconst 0, 1) := by decide +kernel
theorem d_R_begin_114 : decode b_R_begin 114 = .ok (.bastore, 1) := by decide +kernel
theorem d_R_begin_115 : decode b_R_begin 115 = .ok (.aload_n 0, 1) := by decide +kernel
theorem d_R_begin_116 : decode b_R_begin 116 = .ok (.getfield 47, 3) := by decide +kernel
theorem d_R_begin_119 : decode b_R_begin 119 = .ok (.iload_n 2, 1) := by decide +kernel
theorem d_R_begin_120 : decode b_R_begin 120 = .ok (.iconst 0, 1) := by decide +kernel
theorem d_R_begin_121 : decode b_R_begin 121 = .ok (.iastore, 1) := by decide +kernel
theorem d_R_begin_122 : decode b_R_begin 122 = .ok (.aload_n 0, 1) := by decide +kernel
theorem d_R_begin_123 : decode b_R_begin 123 = .ok (.getfield 50, 3) := by decide +kernel
theorem d_R_begin_126 : decode b_R_begin 126 = .ok (.iload_n 2, 1) := by decide +kernel
theorem d_R_begin_127 : decode b_R_begin 127 = .ok (.iconst 0, 1) := by decide +kernel
theorem d_R_begin_128 : decode b_R_begin 128 = .ok (.iastore, 1) := by decide +kernel
theorem d_R_begin_129 : decode b_R_begin 129 = .ok (.iinc 2 1, 3) := by decide +kernel
theorem d_R_begin_132 : decode b_R_begin 132 = .ok (.goto (-87), 3) := by decide +kernel
theorem d_R_begin_135 : decode b_R_begin 135 = .ok (.return_, 1) := by decide +kernel
abbrev b_R_edge : ByteArray := prog_5_method_5_code
def y_R_edge : MethodName := ⟨"MergingFragmentsModel", "edge", "(III)I"⟩
theorem d_R_edge_0 : decode b_R_edge 0 = .ok (.aload_n 0, 1) := by decide +kernel
theorem d_R_edge_1 : decode b_R_edge 1 = .ok (.aload_n 0, 1) := by decide +kernel
theorem d_R_edge_2 : decode b_R_edge 2 = .ok (.iload_n 1, 1) := by decide +kernel
theorem d_R_edge_3 : decode b_R_edge 3 = .ok (.invokevirtual 81, 3) := by decide +kernel
theorem d_R_edge_6 : decode b_R_edge 6 = .ok (.ifCond .ne 11, 3) := by decide +kernel
theorem d_R_edge_9 : decode b_R_edge 9 = .ok (.aload_n 0, 1) := by decide +kernel
theorem d_R_edge_10 : decode b_R_edge 10 = .ok (.iload_n 2, 1) := by decide +kernel
theorem d_R_edge_11 : decode b_R_edge 11 = .ok (.invokevirtual 81, 3) := by decide +kernel
theorem d_R_edge_14 : decode b_R_edge 14 = .ok (.ifCond .eq 7, 3) := by decide +kernel
theorem d_R_edge_17 : decode b_R_edge 17 = .ok (.iconst 1, 1) := by decide +kernel
theorem d_R_edge_18 : decode b_R_edge 18 = .ok (.goto 24, 3) := by decide +kernel
theorem d_R_edge_21 : decode b_R_edge 21 = .ok (.iload_n 1, 1) := by decide +kernel
theorem d_R_edge_22 : decode b_R_edge 22 = .ok (.iload_n 2, 1) := by decide +kernel
theorem d_R_edge_23 : decode b_R_edge 23 = .ok (.if_icmp .eq 14, 3) := by decide +kernel
theorem d_R_edge_26 : decode b_R_edge 26 = .ok (.iload_n 3, 1) := by decide +kernel
theorem d_R_edge_27 : decode b_R_edge 27 = .ok (.iconst 1, 1) := by decide +kernel
theorem d_R_edge_28 : decode b_R_edge 28 = .ok (.if_icmp .lt 9, 3) := by decide +kernel
theorem d_R_edge_31 : decode b_R_edge 31 = .ok (.iload_n 3, 1) := by decide +kernel
theorem d_R_edge_32 : decode b_R_edge 32 = .ok (.bipush 99, 2) := by decide +kernel
theorem d_R_edge_34 : decode b_R_edge 34 = .ok (.if_icmp .le 7, 3) := by decide +kernel
theorem d_R_edge_37 : decode b_R_edge 37 = .ok (.iconst 2, 1) := by decide +kernel
theorem d_R_edge_38 : decode b_R_edge 38 = .ok (.goto 4, 3) := by decide +kernel
theorem d_R_edge_41 : decode b_R_edge 41 = .ok (.iconst 0, 1) := by decide +kernel
theorem d_R_edge_42 : decode b_R_edge 42 = .ok (.putfield 68, 3) := by decide +kernel
theorem d_R_edge_45 : decode b_R_edge 45 = .ok (.iconst 0, 1) := by decide +kernel
theorem d_R_edge_46 : decode b_R_edge 46 = .ok (.istore 4, 2) := by decide +kernel
theorem d_R_edge_48 : decode b_R_edge 48 = .ok (.iload 4, 2) := by decide +kernel
theorem d_R_edge_50 : decode b_R_edge 50 = .ok (.aload_n 0, 1) := by decide +kernel
theorem d_R_edge_51 : decode b_R_edge 51 = .ok (.getfield 75, 3) := by decide +kernel
theorem d_R_edge_54 : decode b_R_edge 54 = .ok (.if_icmp .ge 36, 3) := by decide +kernel
theorem d_R_edge_57 : decode b_R_edge 57 = .ok (.aload_n 0, 1) := by decide +kernel
theorem d_R_edge_58 : decode b_R_edge 58 = .ok (.getfield 68, 3) := by decide +kernel
theorem d_R_edge_61 : decode b_R_edge 61 = .ok (.ifCond .ne 29, 3) := by decide +kernel
theorem d_R_edge_64 : decode b_R_edge 64 = .ok (.aload_n 0, 1) := by decide +kernel
theorem d_R_edge_65 : decode b_R_edge 65 = .ok (.aload_n 0, 1) := by decide +kernel
theorem d_R_edge_66 : decode b_R_edge 66 = .ok (.getfield 13, 3) := by decide +kernel
theorem d_R_edge_69 : decode b_R_edge 69 = .ok (.iload 4, 2) := by decide +kernel
theorem d_R_edge_71 : decode b_R_edge 71 = .ok (.iaload, 1) := by decide +kernel
theorem d_R_edge_72 : decode b_R_edge 72 = .ok (.iload_n 3, 1) := by decide +kernel
theorem d_R_edge_73 : decode b_R_edge 73 = .ok (.if_icmp .ne 7, 3) := by decide +kernel
theorem d_R_edge_76 : decode b_R_edge 76 = .ok (.iconst 2, 1) := by decide +kernel
theorem d_R_edge_77 : decode b_R_edge 77 = .ok (.goto 4, 3) := by decide +kernel
theorem d_R_edge_80 : decode b_R_edge 80 = .ok (.iconst 0, 1) := by decide +kernel
theorem d_R_edge_81 : decode b_R_edge 81 = .ok (.putfield 68, 3) := by decide +kernel
theorem d_R_edge_84 : decode b_R_edge 84 = .ok (.iinc 4 1, 3) := by decide +kernel
theorem d_R_edge_87 : decode b_R_edge 87 = .ok (.goto (-39), 3) := by decide +kernel
theorem d_R_edge_90 : decode b_R_edge 90 = .ok (.iconst 0, 1) := by decide +kernel
theorem d_R_edge_91 : decode b_R_edge 91 = .ok (.istore 4, 2) := by decide +kernel
theorem d_R_edge_93 : decode b_R_edge 93 = .ok (.iconst 0, 1) := by decide +kernel
theorem d_R_edge_94 : decode b_R_edge 94 = .ok (.istore 5, 2) := by decide +kernel
theorem d_R_edge_96 : decode b_R_edge 96 = .ok (.iload 5, 2) := by decide +kernel
theorem d_R_edge_98 : decode b_R_edge 98 = .ok (.aload_n 0, 1) := by decide +kernel
theorem d_R_edge_99 : decode b_R_edge 99 = .ok (.getfield 72, 3) := by decide +kernel
theorem d_R_edge_102 : decode b_R_edge 102 = .ok (.if_icmp .ge 31, 3) := by decide +kernel
theorem d_R_edge_105 : decode b_R_edge 105 = .ok (.iload 4, 2) := by decide +kernel
theorem d_R_edge_107 : decode b_R_edge 107 = .ok (.ifCond .ne 13, 3) := by decide +kernel
theorem d_R_edge_110 : decode b_R_edge 110 = .ok (.aload_n 0, 1) := by decide +kernel
theorem d_R_edge_111 : decode b_R_edge 111 = .ok (.getfield 19, 3) := by decide +kernel
theorem d_R_edge_114 : decode b_R_edge 114 = .ok (.iload 5, 2) := by decide +kernel
theorem d_R_edge_116 : decode b_R_edge 116 = .ok (.iaload, 1) := by decide +kernel
theorem d_R_edge_117 : decode b_R_edge 117 = .ok (.ifCond .le 7, 3) := by decide +kernel
theorem d_R_edge_120 : decode b_R_edge 120 = .ok (.iconst 1, 1) := by decide +kernel
theorem d_R_edge_121 : decode b_R_edge 121 = .ok (.goto 4, 3) := by decide +kernel
theorem d_R_edge_124 : decode b_R_edge 124 = .ok (.iconst 0, 1) := by decide +kernel
theorem d_R_edge_125 : decode b_R_edge 125 = .ok (.istore 4, 2) := by decide +kernel
theorem d_R_edge_127 : decode b_R_edge 127 = .ok (.iinc 5 1, 3) := by decide +kernel
theorem d_R_edge_130 : decode b_R_edge 130 = .ok (.goto (-34), 3) := by decide +kernel
theorem d_R_edge_133 : decode b_R_edge 133 = .ok (.aload_n 0, 1) := by decide +kernel
theorem d_R_edge_134 : decode b_R_edge 134 = .ok (.getfield 68, 3) := by decide +kernel
theorem d_R_edge_137 : decode b_R_edge 137 = .ok (.ifCond .ne 22, 3) := by decide +kernel
theorem d_R_edge_140 : decode b_R_edge 140 = .ok (.iload 4, 2) := by decide +kernel
theorem d_R_edge_142 : decode b_R_edge 142 = .ok (.ifCond .ne 12, 3) := by decide +kernel
theorem d_R_edge_145 : decode b_R_edge 145 = .ok (.aload_n 0, 1) := by decide +kernel
theorem d_R_edge_146 : decode b_R_edge 146 = .ok (.getfield 75, 3) := by decide +kernel
theorem d_R_edge_149 : decode b_R_edge 149 = .ok (.bipush 12, 2) := by decide +kernel
theorem d_R_edge_151 : decode b_R_edge 151 = .ok (.if_icmp .ne 8, 3) := by decide +kernel
theorem d_R_edge_154 : decode b_R_edge 154 = .ok (.aload_n 0, 1) := by decide +kernel
theorem d_R_edge_155 : decode b_R_edge 155 = .ok (.iconst 3, 1) := by decide +kernel
theorem d_R_edge_156 : decode b_R_edge 156 = .ok (.putfield 68, 3) := by decide +kernel
theorem d_R_edge_159 : decode b_R_edge 159 = .ok (.aload_n 0, 1) := by decide +kernel
theorem d_R_edge_160 : decode b_R_edge 160 = .ok (.getfield 68, 3) := by decide +kernel
theorem d_R_edge_163 : decode b_R_edge 163 = .ok (.ifCond .le 5, 3) := by decide +kernel
theorem d_R_edge_166 : decode b_R_edge 166 = .ok (.iconst 0, 1) := by decide +kernel
theorem d_R_edge_167 : decode b_R_edge 167 = .ok (.ireturn, 1) := by decide +kernel
theorem d_R_edge_168 : decode b_R_edge 168 = .ok (.aload_n 0, 1) := by decide +kernel
theorem d_R_edge_169 : decode b_R_edge 169 = .ok (.getfield 7, 3) := by decide +kernel
theorem d_R_edge_172 : decode b_R_edge 172 = .ok (.iconst 2, 1) := by decide +kernel
theorem d_R_edge_173 : decode b_R_edge 173 = .ok (.aload_n 0, 1) := by decide +kernel
theorem d_R_edge_174 : decode b_R_edge 174 = .ok (.getfield 75, 3) := by decide +kernel
theorem d_R_edge_177 : decode b_R_edge 177 = .ok (.imul, 1) := by decide +kernel
theorem d_R_edge_178 : decode b_R_edge 178 = .ok (.iload_n 1, 1) := by decide +kernel
theorem d_R_edge_179 : decode b_R_edge 179 = .ok (.iastore, 1) := by decide +kernel
theorem d_R_edge_180 : decode b_R_edge 180 = .ok (.aload_n 0, 1) := by decide +kernel
theorem d_R_edge_181 : decode b_R_edge 181 = .ok (.getfield 7, 3) := by decide +kernel
theorem d_R_edge_184 : decode b_R_edge 184 = .ok (.iconst 2, 1) := by decide +kernel
theorem d_R_edge_185 : decode b_R_edge 185 = .ok (.aload_n 0, 1) := by decide +kernel
theorem d_R_edge_186 : decode b_R_edge 186 = .ok (.getfield 75, 3) := by decide +kernel
theorem d_R_edge_189 : decode b_R_edge 189 = .ok (.imul, 1) := by decide +kernel
theorem d_R_edge_190 : decode b_R_edge 190 = .ok (.iconst 1, 1) := by decide +kernel
theorem d_R_edge_191 : decode b_R_edge 191 = .ok (.iadd, 1) := by decide +kernel
theorem d_R_edge_192 : decode b_R_edge 192 = .ok (.iload_n 2, 1) := by decide +kernel
theorem d_R_edge_193 : decode b_R_edge 193 = .ok (.iastore, 1) := by decide +kernel
theorem d_R_edge_194 : decode b_R_edge 194 = .ok (.aload_n 0, 1) := by decide +kernel
theorem d_R_edge_195 : decode b_R_edge 195 = .ok (.getfield 13, 3) := by decide +kernel
theorem d_R_edge_198 : decode b_R_edge 198 = .ok (.aload_n 0, 1) := by decide +kernel
theorem d_R_edge_199 : decode b_R_edge 199 = .ok (.getfield 75, 3) := by decide +kernel
theorem d_R_edge_202 : decode b_R_edge 202 = .ok (.iload_n 3, 1) := by decide +kernel
theorem d_R_edge_203 : decode b_R_edge 203 = .ok (.iastore, 1) := by decide +kernel
theorem d_R_edge_204 : decode b_R_edge 204 = .ok (.aload_n 0, 1) := by decide +kernel
theorem d_R_edge_205 : decode b_R_edge 205 = .ok (.getfield 16, 3) := by decide +kernel
theorem d_R_edge_208 : decode b_R_edge 208 = .ok (.iconst 2, 1) := by decide +kernel
theorem d_R_edge_209 : decode b_R_edge 209 = .ok (.aload_n 0, 1) := by decide +kernel
theorem d_R_edge_210 : decode b_R_edge 210 = .ok (.getfield 75, 3) := by decide +kernel
theorem d_R_edge_213 : decode b_R_edge 213 = .ok (.imul, 1) := by decide +kernel
theorem d_R_edge_214 : decode b_R_edge 214 = .ok (.iconst 0, 1) := by decide +kernel
theorem d_R_edge_215 : decode b_R_edge 215 = .ok (.iastore, 1) := by decide +kernel
theorem d_R_edge_216 : decode b_R_edge 216 = .ok (.aload_n 0, 1) := by decide +kernel
theorem d_R_edge_217 : decode b_R_edge 217 = .ok (.getfield 16, 3) := by decide +kernel
theorem d_R_edge_220 : decode b_R_edge 220 = .ok (.iconst 2, 1) := by decide +kernel
theorem d_R_edge_221 : decode b_R_edge 221 = .ok (.aload_n 0, 1) := by decide +kernel
theorem d_R_edge_222 : decode b_R_edge 222 = .ok (.getfield 75, 3) := by decide +kernel
theorem d_R_edge_225 : decode b_R_edge 225 = .ok (.imul, 1) := by decide +kernel
theorem d_R_edge_226 : decode b_R_edge 226 = .ok (.iconst 1, 1) := by decide +kernel
theorem d_R_edge_227 : decode b_R_edge 227 = .ok (.iadd, 1) := by decide +kernel
theorem d_R_edge_228 : decode b_R_edge 228 = .ok (.iconst 0, 1) := by decide +kernel
theorem d_R_edge_229 : decode b_R_edge 229 = .ok (.iastore, 1) := by decide +kernel
theorem d_R_edge_230 : decode b_R_edge 230 = .ok (.aload_n 0, 1) := by decide +kernel
theorem d_R_edge_231 : decode b_R_edge 231 = .ok (.dup, 1) := by decide +kernel
theorem d_R_edge_232 : decode b_R_edge 232 = .ok (.getfield 75, 3) := by decide +kernel
theorem d_R_edge_235 : decode b_R_edge 235 = .ok (.iconst 1, 1) := by decide +kernel
theorem d_R_edge_236 : decode b_R_edge 236 = .ok (.iadd, 1) := by decide +kernel
theorem d_R_edge_237 : decode b_R_edge 237 = .ok (.putfield 75, 3) := by decide +kernel
theorem d_R_edge_240 : decode b_R_edge 240 = .ok (.aload_n 0, 1) := by decide +kernel
theorem d_R_edge_241 : decode b_R_edge 241 = .ok (.getfield 75, 3) := by decide +kernel
theorem d_R_edge_244 : decode b_R_edge 244 = .ok (.iconst 1, 1) := by decide +kernel
theorem d_R_edge_245 : decode b_R_edge 245 = .ok (.isub, 1) := by decide +kernel
theorem d_R_edge_246 : decode b_R_edge 246 = .ok (.ireturn, 1) := by decide +kernel
abbrev b_R_noNode : ByteArray := prog_5_method_3_code
def y_R_noNode : MethodName := ⟨"MergingFragmentsModel", "noNode", "(I)Z"⟩
theorem d_R_noNode_0 : decode b_R_noNode 0 = .ok (.iload_n 1, 1) := by decide +kernel
theorem d_R_noNode_1 : decode b_R_noNode 1 = .ok (.ifCond .lt 11, 3) := by decide +kernel
theorem d_R_noNode_4 : decode b_R_noNode 4 = .ok (.iload_n 1, 1) := by decide +kernel
theorem d_R_noNode_5 : decode b_R_noNode 5 = .ok (.aload_n 0, 1) := by decide +kernel
theorem d_R_noNode_6 : decode b_R_noNode 6 = .ok (.getfield 72, 3) := by decide +kernel
theorem d_R_noNode_9 : decode b_R_noNode 9 = .ok (.if_icmp .lt 7, 3) := by decide +kernel
theorem d_R_noNode_12 : decode b_R_noNode 12 = .ok (.iconst 1, 1) := by decide +kernel
theorem d_R_noNode_13 : decode b_R_noNode 13 = .ok (.goto 4, 3) := by decide +kernel
theorem d_R_noNode_16 : decode b_R_noNode 16 = .ok (.iconst 0, 1) := by decide +kernel
theorem d_R_noNode_17 : decode b_R_noNode 17 = .ok (.ireturn, 1) := by decide +kernel
abbrev b_R_wake : ByteArray := prog_5_method_22_code
def y_R_wake : MethodName := ⟨"MergingFragmentsModel", "wake", "(I)Z"⟩
theorem d_R_wake_0 : decode b_R_wake 0 = .ok (.aload_n 0, 1) := by decide +kernel
theorem d_R_wake_1 : decode b_R_wake 1 = .ok (.aload_n 0, 1) := by decide +kernel
theorem d_R_wake_2 : decode b_R_wake 2 = .ok (.iload_n 1, 1) := by decide +kernel
theorem d_R_wake_3 : decode b_R_wake 3 = .ok (.invokevirtual 81, 3) := by decide +kernel
theorem d_R_wake_6 : decode b_R_wake 6 = .ok (.ifCond .eq 7, 3) := by decide +kernel
theorem d_R_wake_9 : decode b_R_wake 9 = .ok (.iconst 1, 1) := by decide +kernel
theorem d_R_wake_10 : decode b_R_wake 10 = .ok (.goto 4, 3) := by decide +kernel
theorem d_R_wake_13 : decode b_R_wake 13 = .ok (.iconst 0, 1) := by decide +kernel
theorem d_R_wake_14 : decode b_R_wake 14 = .ok (.putfield 68, 3) := by decide +kernel
theorem d_R_wake_17 : decode b_R_wake 17 = .ok (.aload_n 0, 1) := by decide +kernel
theorem d_R_wake_18 : decode b_R_wake 18 = .ok (.getfield 68, 3) := by decide +kernel
theorem d_R_wake_21 : decode b_R_wake 21 = .ok (.ifCond .gt 12, 3) := by decide +kernel
theorem d_R_wake_24 : decode b_R_wake 24 = .ok (.aload_n 0, 1) := by decide +kernel
theorem d_R_wake_25 : decode b_R_wake 25 = .ok (.getfield 19, 3) := by decide +kernel
theorem d_R_wake_28 : decode b_R_wake 28 = .ok (.iload_n 1, 1) := by decide +kernel
theorem d_R_wake_29 : decode b_R_wake 29 = .ok (.iaload, 1) := by decide +kernel
theorem d_R_wake_30 : decode b_R_wake 30 = .ok (.ifCond .le 5, 3) := by decide +kernel
theorem d_R_wake_33 : decode b_R_wake 33 = .ok (.iconst 0, 1) := by decide +kernel
theorem d_R_wake_34 : decode b_R_wake 34 = .ok (.ireturn, 1) := by decide +kernel
theorem d_R_wake_35 : decode b_R_wake 35 = .ok (.aload_n 0, 1) := by decide +kernel
theorem d_R_wake_36 : decode b_R_wake 36 = .ok (.iload_n 1, 1) := by decide +kernel
theorem d_R_wake_37 : decode b_R_wake 37 = .ok (.invokevirtual 107, 3) := by decide +kernel
theorem d_R_wake_40 : decode b_R_wake 40 = .ok (.iconst 1, 1) := by decide +kernel
theorem d_R_wake_41 : decode b_R_wake 41 = .ok (.ireturn, 1) := by decide +kernel
abbrev b_R_awake : ByteArray := prog_5_method_11_code
def y_R_awake : MethodName := ⟨"MergingFragmentsModel", "awake", "(I)V"⟩
theorem d_R_awake_0 : decode b_R_awake 0 = .ok (.aload_n 0, 1) := by decide +kernel
theorem d_R_awake_1 : decode b_R_awake 1 = .ok (.getfield 19, 3) := by decide +kernel
theorem d_R_awake_4 : decode b_R_awake 4 = .ok (.iload_n 1, 1) := by decide +kernel
theorem d_R_awake_5 : decode b_R_awake 5 = .ok (.iaload, 1) := by decide +kernel
theorem d_R_awake_6 : decode b_R_awake 6 = .ok (.ifCond .le 4, 3) := by decide +kernel
theorem d_R_awake_9 : decode b_R_awake 9 = .ok (.return_, 1) := by decide +kernel
theorem d_R_awake_10 : decode b_R_awake 10 = .ok (.aload_n 0, 1) := by decide +kernel
theorem d_R_awake_11 : decode b_R_awake 11 = .ok (.getfield 19, 3) := by decide +kernel
theorem d_R_awake_14 : decode b_R_awake 14 = .ok (.iload_n 1, 1) := by decide +kernel
theorem d_R_awake_15 : decode b_R_awake 15 = .ok (.iconst 2, 1) := by decide +kernel
theorem d_R_awake_16 : decode b_R_awake 16 = .ok (.iastore, 1) := by decide +kernel
theorem d_R_awake_17 : decode b_R_awake 17 = .ok (.aload_n 0, 1) := by decide +kernel
theorem d_R_awake_18 : decode b_R_awake 18 = .ok (.iload_n 1, 1) := by decide +kernel
theorem d_R_awake_19 : decode b_R_awake 19 = .ok (.iconst 0, 1) := by decide +kernel
theorem d_R_awake_20 : decode b_R_awake 20 = .ok (.invokevirtual 96, 3) := by decide +kernel
theorem d_R_awake_23 : decode b_R_awake 23 = .ok (.istore_n 2, 1) := by decide +kernel
theorem d_R_awake_24 : decode b_R_awake 24 = .ok (.iload_n 2, 1) := by decide +kernel
theorem d_R_awake_25 : decode b_R_awake 25 = .ok (.ifCond .lt 25, 3) := by decide +kernel
theorem d_R_awake_28 : decode b_R_awake 28 = .ok (.aload_n 0, 1) := by decide +kernel
theorem d_R_awake_29 : decode b_R_awake 29 = .ok (.getfield 16, 3) := by decide +kernel
theorem d_R_awake_32 : decode b_R_awake 32 = .ok (.aload_n 0, 1) := by decide +kernel
theorem d_R_awake_33 : decode b_R_awake 33 = .ok (.iload_n 1, 1) := by decide +kernel
theorem d_R_awake_34 : decode b_R_awake 34 = .ok (.iload_n 2, 1) := by decide +kernel
theorem d_R_awake_35 : decode b_R_awake 35 = .ok (.invokevirtual 85, 3) := by decide +kernel
theorem d_R_awake_38 : decode b_R_awake 38 = .ok (.iconst 1, 1) := by decide +kernel
theorem d_R_awake_39 : decode b_R_awake 39 = .ok (.iastore, 1) := by decide +kernel
theorem d_R_awake_40 : decode b_R_awake 40 = .ok (.aload_n 0, 1) := by decide +kernel
theorem d_R_awake_41 : decode b_R_awake 41 = .ok (.iload_n 1, 1) := by decide +kernel
theorem d_R_awake_42 : decode b_R_awake 42 = .ok (.iconst 0, 1) := by decide +kernel
theorem d_R_awake_43 : decode b_R_awake 43 = .ok (.iload_n 2, 1) := by decide +kernel
theorem d_R_awake_44 : decode b_R_awake 44 = .ok (.iconst 0, 1) := by decide +kernel
theorem d_R_awake_45 : decode b_R_awake 45 = .ok (.iconst 0, 1) := by decide +kernel
theorem d_R_awake_46 : decode b_R_awake 46 = .ok (.iconst 0, 1) := by decide +kernel
theorem d_R_awake_47 : decode b_R_awake 47 = .ok (.invokevirtual 100, 3) := by decide +kernel
theorem d_R_awake_50 : decode b_R_awake 50 = .ok (.return_, 1) := by decide +kernel
abbrev b_R_lightest : ByteArray := prog_5_method_8_code
def y_R_lightest : MethodName := ⟨"MergingFragmentsModel", "lightest", "(IZ)I"⟩
theorem d_R_lightest_0 : decode b_R_lightest 0 = .ok (.iconst (-1), 1) := by decide +kernel
theorem d_R_lightest_1 : decode b_R_lightest 1 = .ok (.istore_n 3, 1) := by decide +kernel
theorem d_R_lightest_2 : decode b_R_lightest 2 = .ok (.iconst 0, 1) := by decide +kernel
theorem d_R_lightest_3 : decode b_R_lightest 3 = .ok (.istore 4, 2) := by decide +kernel
theorem d_R_lightest_5 : decode b_R_lightest 5 = .ok (.iload 4, 2) := by decide +kernel
theorem d_R_lightest_7 : decode b_R_lightest 7 = .ok (.aload_n 0, 1) := by decide +kernel
theorem d_R_lightest_8 : decode b_R_lightest 8 = .ok (.getfield 75, 3) := by decide +kernel
theorem d_R_lightest_11 : decode b_R_lightest 11 = .ok (.if_icmp .ge 60, 3) := by decide +kernel
theorem d_R_lightest_14 : decode b_R_lightest 14 = .ok (.aload_n 0, 1) := by decide +kernel
theorem d_R_lightest_15 : decode b_R_lightest 15 = .ok (.iload_n 1, 1) := by decide +kernel
theorem d_R_lightest_16 : decode b_R_lightest 16 = .ok (.iload 4, 2) := by decide +kernel
theorem d_R_lightest_18 : decode b_R_lightest 18 = .ok (.invokevirtual 85, 3) := by decide +kernel
theorem d_R_lightest_21 : decode b_R_lightest 21 = .ok (.istore 5, 2) := by decide +kernel
theorem d_R_lightest_23 : decode b_R_lightest 23 = .ok (.iload 5, 2) := by decide +kernel
theorem d_R_lightest_25 : decode b_R_lightest 25 = .ok (.ifCond .lt 40, 3) := by decide +kernel
theorem d_R_lightest_28 : decode b_R_lightest 28 = .ok (.iload_n 2, 1) := by decide +kernel
theorem d_R_lightest_29 : decode b_R_lightest 29 = .ok (.ifCond .eq 13, 3) := by decide +kernel
theorem d_R_lightest_32 : decode b_R_lightest 32 = .ok (.aload_n 0, 1) := by decide +kernel
theorem d_R_lightest_33 : decode b_R_lightest 33 = .ok (.getfield 16, 3) := by decide +kernel
theorem d_R_lightest_36 : decode b_R_lightest 36 = .ok (.iload 5, 2) := by decide +kernel
theorem d_R_lightest_38 : decode b_R_lightest 38 = .ok (.iaload, 1) := by decide +kernel
theorem d_R_lightest_39 : decode b_R_lightest 39 = .ok (.ifCond .ne 26, 3) := by decide +kernel
theorem d_R_lightest_42 : decode b_R_lightest 42 = .ok (.iload_n 3, 1) := by decide +kernel
theorem d_R_lightest_43 : decode b_R_lightest 43 = .ok (.ifCond .lt 19, 3) := by decide +kernel
theorem d_R_lightest_46 : decode b_R_lightest 46 = .ok (.aload_n 0, 1) := by decide +kernel
theorem d_R_lightest_47 : decode b_R_lightest 47 = .ok (.getfield 13, 3) := by decide +kernel
theorem d_R_lightest_50 : decode b_R_lightest 50 = .ok (.iload 4, 2) := by decide +kernel
theorem d_R_lightest_52 : decode b_R_lightest 52 = .ok (.iaload, 1) := by decide +kernel
theorem d_R_lightest_53 : decode b_R_lightest 53 = .ok (.aload_n 0, 1) := by decide +kernel
theorem d_R_lightest_54 : decode b_R_lightest 54 = .ok (.getfield 13, 3) := by decide +kernel
theorem d_R_lightest_57 : decode b_R_lightest 57 = .ok (.iload_n 3, 1) := by decide +kernel
theorem d_R_lightest_58 : decode b_R_lightest 58 = .ok (.iaload, 1) := by decide +kernel
theorem d_R_lightest_59 : decode b_R_lightest 59 = .ok (.if_icmp .ge 6, 3) := by decide +kernel
theorem d_R_lightest_62 : decode b_R_lightest 62 = .ok (.iload 4, 2) := by decide +kernel
theorem d_R_lightest_64 : decode b_R_lightest 64 = .ok (.istore_n 3, 1) := by decide +kernel
theorem d_R_lightest_65 : decode b_R_lightest 65 = .ok (.iinc 4 1, 3) := by decide +kernel
theorem d_R_lightest_68 : decode b_R_lightest 68 = .ok (.goto (-63), 3) := by decide +kernel
theorem d_R_lightest_71 : decode b_R_lightest 71 = .ok (.iload_n 3, 1) := by decide +kernel
theorem d_R_lightest_72 : decode b_R_lightest 72 = .ok (.ireturn, 1) := by decide +kernel
abbrev b_R_endOf : ByteArray := prog_5_method_6_code
def y_R_endOf : MethodName := ⟨"MergingFragmentsModel", "endOf", "(II)I"⟩
theorem d_R_endOf_0 : decode b_R_endOf 0 = .ok (.aload_n 0, 1) := by decide +kernel
theorem d_R_endOf_1 : decode b_R_endOf 1 = .ok (.getfield 7, 3) := by decide +kernel
theorem d_R_endOf_4 : decode b_R_endOf 4 = .ok (.iconst 2, 1) := by decide +kernel
theorem d_R_endOf_5 : decode b_R_endOf 5 = .ok (.iload_n 2, 1) := by decide +kernel
theorem d_R_endOf_6 : decode b_R_endOf 6 = .ok (.imul, 1) := by decide +kernel
theorem d_R_endOf_7 : decode b_R_endOf 7 = .ok (.iaload, 1) := by decide +kernel
theorem d_R_endOf_8 : decode b_R_endOf 8 = .ok (.iload_n 1, 1) := by decide +kernel
theorem d_R_endOf_9 : decode b_R_endOf 9 = .ok (.if_icmp .ne 9, 3) := by decide +kernel
theorem d_R_endOf_12 : decode b_R_endOf 12 = .ok (.iconst 2, 1) := by decide +kernel
theorem d_R_endOf_13 : decode b_R_endOf 13 = .ok (.iload_n 2, 1) := by decide +kernel
theorem d_R_endOf_14 : decode b_R_endOf 14 = .ok (.imul, 1) := by decide +kernel
theorem d_R_endOf_15 : decode b_R_endOf 15 = .ok (.goto 26, 3) := by decide +kernel
theorem d_R_endOf_18 : decode b_R_endOf 18 = .ok (.aload_n 0, 1) := by decide +kernel
theorem d_R_endOf_19 : decode b_R_endOf 19 = .ok (.getfield 7, 3) := by decide +kernel
theorem d_R_endOf_22 : decode b_R_endOf 22 = .ok (.iconst 2, 1) := by decide +kernel
theorem d_R_endOf_23 : decode b_R_endOf 23 = .ok (.iload_n 2, 1) := by decide +kernel
theorem d_R_endOf_24 : decode b_R_endOf 24 = .ok (.imul, 1) := by decide +kernel
theorem d_R_endOf_25 : decode b_R_endOf 25 = .ok (.iconst 1, 1) := by decide +kernel
theorem d_R_endOf_26 : decode b_R_endOf 26 = .ok (.iadd, 1) := by decide +kernel
theorem d_R_endOf_27 : decode b_R_endOf 27 = .ok (.iaload, 1) := by decide +kernel
theorem d_R_endOf_28 : decode b_R_endOf 28 = .ok (.iload_n 1, 1) := by decide +kernel
theorem d_R_endOf_29 : decode b_R_endOf 29 = .ok (.if_icmp .ne 11, 3) := by decide +kernel
theorem d_R_endOf_32 : decode b_R_endOf 32 = .ok (.iconst 2, 1) := by decide +kernel
theorem d_R_endOf_33 : decode b_R_endOf 33 = .ok (.iload_n 2, 1) := by decide +kernel
theorem d_R_endOf_34 : decode b_R_endOf 34 = .ok (.imul, 1) := by decide +kernel
theorem d_R_endOf_35 : decode b_R_endOf 35 = .ok (.iconst 1, 1) := by decide +kernel
theorem d_R_endOf_36 : decode b_R_endOf 36 = .ok (.iadd, 1) := by decide +kernel
theorem d_R_endOf_37 : decode b_R_endOf 37 = .ok (.goto 4, 3) := by decide +kernel
theorem d_R_endOf_40 : decode b_R_endOf 40 = .ok (.iconst (-1), 1) := by decide +kernel
theorem d_R_endOf_41 : decode b_R_endOf 41 = .ok (.ireturn, 1) := by decide +kernel
abbrev b_R_send : ByteArray := prog_5_method_10_code
def y_R_send : MethodName := ⟨"MergingFragmentsModel", "send", "(IIIIII)V"⟩
theorem d_R_send_0 : decode b_R_send 0 = .ok (.aload_n 0, 1) := by decide +kernel
theorem d_R_send_1 : decode b_R_send 1 = .ok (.dup, 1) := by decide +kernel
theorem d_R_send_2 : decode b_R_send 2 = .ok (.getfield 78, 3) := by decide +kernel
theorem d_R_send_5 : decode b_R_send 5 = .ok (.iconst 1, 1) := by decide +kernel
theorem d_R_send_6 : decode b_R_send 6 = .ok (.iadd, 1) := by decide +kernel
theorem d_R_send_7 : decode b_R_send 7 = .ok (.putfield 78, 3) := by decide +kernel
theorem d_R_send_10 : decode b_R_send 10 = .ok (.aload_n 0, 1) := by decide +kernel
theorem d_R_send_11 : decode b_R_send 11 = .ok (.aload_n 0, 1) := by decide +kernel
theorem d_R_send_12 : decode b_R_send 12 = .ok (.iload_n 1, 1) := by decide +kernel
theorem d_R_send_13 : decode b_R_send 13 = .ok (.iload_n 3, 1) := by decide +kernel
theorem d_R_send_14 : decode b_R_send 14 = .ok (.invokevirtual 89, 3) := by decide +kernel
theorem d_R_send_17 : decode b_R_send 17 = .ok (.iload_n 2, 1) := by decide +kernel
theorem d_R_send_18 : decode b_R_send 18 = .ok (.iload_n 3, 1) := by decide +kernel
theorem d_R_send_19 : decode b_R_send 19 = .ok (.iload 4, 2) := by decide +kernel
theorem d_R_send_21 : decode b_R_send 21 = .ok (.iload 5, 2) := by decide +kernel
theorem d_R_send_23 : decode b_R_send 23 = .ok (.iload 6, 2) := by decide +kernel
theorem d_R_send_25 : decode b_R_send 25 = .ok (.invokevirtual 92, 3) := by decide +kernel
theorem d_R_send_28 : decode b_R_send 28 = .ok (.return_, 1) := by decide +kernel
abbrev b_R_otherEnd : ByteArray := prog_5_method_7_code
def y_R_otherEnd : MethodName := ⟨"MergingFragmentsModel", "otherEnd", "(II)I"⟩
theorem d_R_otherEnd_0 : decode b_R_otherEnd 0 = .ok (.aload_n 0, 1) := by decide +kernel
theorem d_R_otherEnd_1 : decode b_R_otherEnd 1 = .ok (.getfield 7, 3) := by decide +kernel
theorem d_R_otherEnd_4 : decode b_R_otherEnd 4 = .ok (.iconst 2, 1) := by decide +kernel
theorem d_R_otherEnd_5 : decode b_R_otherEnd 5 = .ok (.iload_n 2, 1) := by decide +kernel
theorem d_R_otherEnd_6 : decode b_R_otherEnd 6 = .ok (.imul, 1) := by decide +kernel
theorem d_R_otherEnd_7 : decode b_R_otherEnd 7 = .ok (.iaload, 1) := by decide +kernel
theorem d_R_otherEnd_8 : decode b_R_otherEnd 8 = .ok (.iload_n 1, 1) := by decide +kernel
theorem d_R_otherEnd_9 : decode b_R_otherEnd 9 = .ok (.if_icmp .ne 16, 3) := by decide +kernel
theorem d_R_otherEnd_12 : decode b_R_otherEnd 12 = .ok (.aload_n 0, 1) := by decide +kernel
theorem d_R_otherEnd_13 : decode b_R_otherEnd 13 = .ok (.getfield 7, 3) := by decide +kernel
theorem d_R_otherEnd_16 : decode b_R_otherEnd 16 = .ok (.iconst 2, 1) := by decide +kernel
theorem d_R_otherEnd_17 : decode b_R_otherEnd 17 = .ok (.iload_n 2, 1) := by decide +kernel
theorem d_R_otherEnd_18 : decode b_R_otherEnd 18 = .ok (.imul, 1) := by decide +kernel
theorem d_R_otherEnd_19 : decode b_R_otherEnd 19 = .ok (.iconst 1, 1) := by decide +kernel
theorem d_R_otherEnd_20 : decode b_R_otherEnd 20 = .ok (.iadd, 1) := by decide +kernel
theorem d_R_otherEnd_21 : decode b_R_otherEnd 21 = .ok (.iaload, 1) := by decide +kernel
theorem d_R_otherEnd_22 : decode b_R_otherEnd 22 = .ok (.goto 11, 3) := by decide +kernel
theorem d_R_otherEnd_25 : decode b_R_otherEnd 25 = .ok (.aload_n 0, 1) := by decide +kernel
theorem d_R_otherEnd_26 : decode b_R_otherEnd 26 = .ok (.getfield 7, 3) := by decide +kernel
theorem d_R_otherEnd_29 : decode b_R_otherEnd 29 = .ok (.iconst 2, 1) := by decide +kernel
theorem d_R_otherEnd_30 : decode b_R_otherEnd 30 = .ok (.iload_n 2, 1) := by decide +kernel
theorem d_R_otherEnd_31 : decode b_R_otherEnd 31 = .ok (.imul, 1) := by decide +kernel
theorem d_R_otherEnd_32 : decode b_R_otherEnd 32 = .ok (.iaload, 1) := by decide +kernel
theorem d_R_otherEnd_33 : decode b_R_otherEnd 33 = .ok (.ireturn, 1) := by decide +kernel
abbrev b_R_put : ByteArray := prog_5_method_9_code
def y_R_put : MethodName := ⟨"MergingFragmentsModel", "put", "(IIIIII)V"⟩
theorem d_R_put_0 : decode b_R_put 0 = .ok (.sipush 200, 3) := by decide +kernel
theorem d_R_put_3 : decode b_R_put 3 = .ok (.iload_n 1, 1) := by decide +kernel
theorem d_R_put_4 : decode b_R_put 4 = .ok (.imul, 1) := by decide +kernel
theorem d_R_put_5 : decode b_R_put 5 = .ok (.aload_n 0, 1) := by decide +kernel
theorem d_R_put_6 : decode b_R_put 6 = .ok (.getfield 47, 3) := by decide +kernel
theorem d_R_put_9 : decode b_R_put 9 = .ok (.iload_n 1, 1) := by decide +kernel
theorem d_R_put_10 : decode b_R_put 10 = .ok (.iaload, 1) := by decide +kernel
theorem d_R_put_11 : decode b_R_put 11 = .ok (.aload_n 0, 1) := by decide +kernel
theorem d_R_put_12 : decode b_R_put 12 = .ok (.getfield 50, 3) := by decide +kernel
theorem d_R_put_15 : decode b_R_put 15 = .ok (.iload_n 1, 1) := by decide +kernel
theorem d_R_put_16 : decode b_R_put 16 = .ok (.iaload, 1) := by decide +kernel
theorem d_R_put_17 : decode b_R_put 17 = .ok (.iadd, 1) := by decide +kernel
theorem d_R_put_18 : decode b_R_put 18 = .ok (.sipush 200, 3) := by decide +kernel
theorem d_R_put_21 : decode b_R_put 21 = .ok (.irem, 1) := by decide +kernel
theorem d_R_put_22 : decode b_R_put 22 = .ok (.iadd, 1) := by decide +kernel
theorem d_R_put_23 : decode b_R_put 23 = .ok (.istore 7, 2) := by decide +kernel
theorem d_R_put_25 : decode b_R_put 25 = .ok (.aload_n 0, 1) := by decide +kernel
theorem d_R_put_26 : decode b_R_put 26 = .ok (.getfield 53, 3) := by decide +kernel
theorem d_R_put_29 : decode b_R_put 29 = .ok (.iload 7, 2) := by decide +kernel
theorem d_R_put_31 : decode b_R_put 31 = .ok (.iload_n 2, 1) := by decide +kernel
theorem d_R_put_32 : decode b_R_put 32 = .ok (.iastore, 1) := by decide +kernel
theorem d_R_put_33 : decode b_R_put 33 = .ok (.aload_n 0, 1) := by decide +kernel
theorem d_R_put_34 : decode b_R_put 34 = .ok (.getfield 56, 3) := by decide +kernel
theorem d_R_put_37 : decode b_R_put 37 = .ok (.iload 7, 2) := by decide +kernel
theorem d_R_put_39 : decode b_R_put 39 = .ok (.iload_n 3, 1) := by decide +kernel
theorem d_R_put_40 : decode b_R_put 40 = .ok (.iastore, 1) := by decide +kernel
theorem d_R_put_41 : decode b_R_put 41 = .ok (.aload_n 0, 1) := by decide +kernel
theorem d_R_put_42 : decode b_R_put 42 = .ok (.getfield 59, 3) := by decide +kernel
theorem d_R_put_45 : decode b_R_put 45 = .ok (.iload 7, 2) := by decide +kernel
theorem d_R_put_47 : decode b_R_put 47 = .ok (.iload 4, 2) := by decide +kernel
theorem d_R_put_49 : decode b_R_put 49 = .ok (.iastore, 1) := by decide +kernel
theorem d_R_put_50 : decode b_R_put 50 = .ok (.aload_n 0, 1) := by decide +kernel
theorem d_R_put_51 : decode b_R_put 51 = .ok (.getfield 62, 3) := by decide +kernel
theorem d_R_put_54 : decode b_R_put 54 = .ok (.iload 7, 2) := by decide +kernel
theorem d_R_put_56 : decode b_R_put 56 = .ok (.iload 5, 2) := by decide +kernel
theorem d_R_put_58 : decode b_R_put 58 = .ok (.iastore, 1) := by decide +kernel
theorem d_R_put_59 : decode b_R_put 59 = .ok (.aload_n 0, 1) := by decide +kernel
theorem d_R_put_60 : decode b_R_put 60 = .ok (.getfield 65, 3) := by decide +kernel
theorem d_R_put_63 : decode b_R_put 63 = .ok (.iload 7, 2) := by decide +kernel
theorem d_R_put_65 : decode b_R_put 65 = .ok (.iload 6, 2) := by decide +kernel
theorem d_R_put_67 : decode b_R_put 67 = .ok (.iastore, 1) := by decide +kernel
theorem d_R_put_68 : decode b_R_put 68 = .ok (.aload_n 0, 1) := by decide +kernel
theorem d_R_put_69 : decode b_R_put 69 = .ok (.getfield 50, 3) := by decide +kernel
theorem d_R_put_72 : decode b_R_put 72 = .ok (.iload_n 1, 1) := by decide +kernel
theorem d_R_put_73 : decode b_R_put 73 = .ok (.dup2, 1) := by decide +kernel
theorem d_R_put_74 : decode b_R_put 74 = .ok (.iaload, 1) := by decide +kernel
theorem d_R_put_75 : decode b_R_put 75 = .ok (.iconst 1, 1) := by decide +kernel
theorem d_R_put_76 : decode b_R_put 76 = .ok (.iadd, 1) := by decide +kernel
theorem d_R_put_77 : decode b_R_put 77 = .ok (.iastore, 1) := by decide +kernel
theorem d_R_put_78 : decode b_R_put 78 = .ok (.return_, 1) := by decide +kernel
abbrev b_R_handle : ByteArray := prog_5_method_23_code
def y_R_handle : MethodName := ⟨"MergingFragmentsModel", "handle", "(I)I"⟩
theorem d_R_handle_0 : decode b_R_handle 0 = .ok (.aload_n 0, 1) := by decide +kernel
theorem d_R_handle_1 : decode b_R_handle 1 = .ok (.aload_n 0, 1) := by decide +kernel
theorem d_R_handle_2 : decode b_R_handle 2 = .ok (.iload_n 1, 1) := by decide +kernel
theorem d_R_handle_3 : decode b_R_handle 3 = .ok (.invokevirtual 81, 3) := by decide +kernel
theorem d_R_handle_6 : decode b_R_handle 6 = .ok (.ifCond .eq 7, 3) := by decide +kernel
theorem d_R_handle_9 : decode b_R_handle 9 = .ok (.iconst 1, 1) := by decide +kernel
theorem d_R_handle_10 : decode b_R_handle 10 = .ok (.goto 4, 3) := by decide +kernel
theorem d_R_handle_13 : decode b_R_handle 13 = .ok (.iconst 0, 1) := by decide +kernel
theorem d_R_handle_14 : decode b_R_handle 14 = .ok (.putfield 68, 3) := by decide +kernel
theorem d_R_handle_17 : decode b_R_handle 17 = .ok (.aload_n 0, 1) := by decide +kernel
theorem d_R_handle_18 : decode b_R_handle 18 = .ok (.getfield 68, 3) := by decide +kernel
theorem d_R_handle_21 : decode b_R_handle 21 = .ok (.ifCond .le 7, 3) := by decide +kernel
theorem d_R_handle_24 : decode b_R_handle 24 = .ok (.iconst 0, 1) := by decide +kernel
theorem d_R_handle_25 : decode b_R_handle 25 = .ok (.goto 8, 3) := by decide +kernel
theorem d_R_handle_28 : decode b_R_handle 28 = .ok (.aload_n 0, 1) := by decide +kernel
theorem d_R_handle_29 : decode b_R_handle 29 = .ok (.iload_n 1, 1) := by decide +kernel
theorem d_R_handle_30 : decode b_R_handle 30 = .ok (.invokevirtual 138, 3) := by decide +kernel
theorem d_R_handle_33 : decode b_R_handle 33 = .ok (.ireturn, 1) := by decide +kernel
abbrev b_R_next : ByteArray := prog_5_method_21_code
def y_R_next : MethodName := ⟨"MergingFragmentsModel", "next", "(I)I"⟩
theorem d_R_next_0 : decode b_R_next 0 = .ok (.aload_n 0, 1) := by decide +kernel
theorem d_R_next_1 : decode b_R_next 1 = .ok (.getfield 50, 3) := by decide +kernel
theorem d_R_next_4 : decode b_R_next 4 = .ok (.iload_n 1, 1) := by decide +kernel
theorem d_R_next_5 : decode b_R_next 5 = .ok (.iaload, 1) := by decide +kernel
theorem d_R_next_6 : decode b_R_next 6 = .ok (.ifCond .ne 5, 3) := by decide +kernel
theorem d_R_next_9 : decode b_R_next 9 = .ok (.iconst (-1), 1) := by decide +kernel
theorem d_R_next_10 : decode b_R_next 10 = .ok (.ireturn, 1) := by decide +kernel
theorem d_R_next_11 : decode b_R_next 11 = .ok (.sipush 200, 3) := by decide +kernel
theorem d_R_next_14 : decode b_R_next 14 = .ok (.iload_n 1, 1) := by decide +kernel
theorem d_R_next_15 : decode b_R_next 15 = .ok (.imul, 1) := by decide +kernel
theorem d_R_next_16 : decode b_R_next 16 = .ok (.aload_n 0, 1) := by decide +kernel
theorem d_R_next_17 : decode b_R_next 17 = .ok (.getfield 47, 3) := by decide +kernel
theorem d_R_next_20 : decode b_R_next 20 = .ok (.iload_n 1, 1) := by decide +kernel
theorem d_R_next_21 : decode b_R_next 21 = .ok (.iaload, 1) := by decide +kernel
theorem d_R_next_22 : decode b_R_next 22 = .ok (.iadd, 1) := by decide +kernel
theorem d_R_next_23 : decode b_R_next 23 = .ok (.istore_n 2, 1) := by decide +kernel
theorem d_R_next_24 : decode b_R_next 24 = .ok (.aload_n 0, 1) := by decide +kernel
theorem d_R_next_25 : decode b_R_next 25 = .ok (.getfield 47, 3) := by decide +kernel
theorem d_R_next_28 : decode b_R_next 28 = .ok (.iload_n 1, 1) := by decide +kernel
theorem d_R_next_29 : decode b_R_next 29 = .ok (.aload_n 0, 1) := by decide +kernel
theorem d_R_next_30 : decode b_R_next 30 = .ok (.getfield 47, 3) := by decide +kernel
theorem d_R_next_33 : decode b_R_next 33 = .ok (.iload_n 1, 1) := by decide +kernel
theorem d_R_next_34 : decode b_R_next 34 = .ok (.iaload, 1) := by decide +kernel
theorem d_R_next_35 : decode b_R_next 35 = .ok (.iconst 1, 1) := by decide +kernel
theorem d_R_next_36 : decode b_R_next 36 = .ok (.iadd, 1) := by decide +kernel
theorem d_R_next_37 : decode b_R_next 37 = .ok (.sipush 200, 3) := by decide +kernel
theorem d_R_next_40 : decode b_R_next 40 = .ok (.irem, 1) := by decide +kernel
theorem d_R_next_41 : decode b_R_next 41 = .ok (.iastore, 1) := by decide +kernel
theorem d_R_next_42 : decode b_R_next 42 = .ok (.aload_n 0, 1) := by decide +kernel
theorem d_R_next_43 : decode b_R_next 43 = .ok (.getfield 50, 3) := by decide +kernel
theorem d_R_next_46 : decode b_R_next 46 = .ok (.iload_n 1, 1) := by decide +kernel
theorem d_R_next_47 : decode b_R_next 47 = .ok (.dup2, 1) := by decide +kernel
theorem d_R_next_48 : decode b_R_next 48 = .ok (.iaload, 1) := by decide +kernel
theorem d_R_next_49 : decode b_R_next 49 = .ok (.iconst 1, 1) := by decide +kernel
theorem d_R_next_50 : decode b_R_next 50 = .ok (.isub, 1) := by decide +kernel
theorem d_R_next_51 : decode b_R_next 51 = .ok (.iastore, 1) := by decide +kernel
theorem d_R_next_52 : decode b_R_next 52 = .ok (.aload_n 0, 1) := by decide +kernel
theorem d_R_next_53 : decode b_R_next 53 = .ok (.getfield 53, 3) := by decide +kernel
theorem d_R_next_56 : decode b_R_next 56 = .ok (.iload_n 2, 1) := by decide +kernel
theorem d_R_next_57 : decode b_R_next 57 = .ok (.iaload, 1) := by decide +kernel
theorem d_R_next_58 : decode b_R_next 58 = .ok (.istore_n 3, 1) := by decide +kernel
theorem d_R_next_59 : decode b_R_next 59 = .ok (.aload_n 0, 1) := by decide +kernel
theorem d_R_next_60 : decode b_R_next 60 = .ok (.getfield 56, 3) := by decide +kernel
theorem d_R_next_63 : decode b_R_next 63 = .ok (.iload_n 2, 1) := by decide +kernel
theorem d_R_next_64 : decode b_R_next 64 = .ok (.iaload, 1) := by decide +kernel
theorem d_R_next_65 : decode b_R_next 65 = .ok (.istore 4, 2) := by decide +kernel
theorem d_R_next_67 : decode b_R_next 67 = .ok (.iload_n 3, 1) := by decide +kernel
theorem d_R_next_68 : decode b_R_next 68 = .ok (.tableswitch 166 0 5 #[40, 56, 84, 106, 135, 150], 40) := by decide +kernel
theorem d_R_next_108 : decode b_R_next 108 = .ok (.aload_n 0, 1) := by decide +kernel
theorem d_R_next_109 : decode b_R_next 109 = .ok (.iload_n 1, 1) := by decide +kernel
theorem d_R_next_110 : decode b_R_next 110 = .ok (.iload 4, 2) := by decide +kernel
theorem d_R_next_112 : decode b_R_next 112 = .ok (.aload_n 0, 1) := by decide +kernel
theorem d_R_next_113 : decode b_R_next 113 = .ok (.getfield 59, 3) := by decide +kernel
theorem d_R_next_116 : decode b_R_next 116 = .ok (.iload_n 2, 1) := by decide +kernel
theorem d_R_next_117 : decode b_R_next 117 = .ok (.iaload, 1) := by decide +kernel
theorem d_R_next_118 : decode b_R_next 118 = .ok (.invokevirtual 124, 3) := by decide +kernel
theorem d_R_next_121 : decode b_R_next 121 = .ok (.goto 118, 3) := by decide +kernel
theorem d_R_next_124 : decode b_R_next 124 = .ok (.aload_n 0, 1) := by decide +kernel
theorem d_R_next_125 : decode b_R_next 125 = .ok (.iload_n 1, 1) := by decide +kernel
theorem d_R_next_126 : decode b_R_next 126 = .ok (.iload 4, 2) := by decide +kernel
theorem d_R_next_128 : decode b_R_next 128 = .ok (.aload_n 0, 1) := by decide +kernel
theorem d_R_next_129 : decode b_R_next 129 = .ok (.getfield 59, 3) := by decide +kernel
theorem d_R_next_132 : decode b_R_next 132 = .ok (.iload_n 2, 1) := by decide +kernel
theorem d_R_next_133 : decode b_R_next 133 = .ok (.iaload, 1) := by decide +kernel
theorem d_R_next_134 : decode b_R_next 134 = .ok (.aload_n 0, 1) := by decide +kernel
theorem d_R_next_135 : decode b_R_next 135 = .ok (.getfield 62, 3) := by decide +kernel
theorem d_R_next_138 : decode b_R_next 138 = .ok (.iload_n 2, 1) := by decide +kernel
theorem d_R_next_139 : decode b_R_next 139 = .ok (.iaload, 1) := by decide +kernel
theorem d_R_next_140 : decode b_R_next 140 = .ok (.aload_n 0, 1) := by decide +kernel
theorem d_R_next_141 : decode b_R_next 141 = .ok (.getfield 65, 3) := by decide +kernel
theorem d_R_next_144 : decode b_R_next 144 = .ok (.iload_n 2, 1) := by decide +kernel
theorem d_R_next_145 : decode b_R_next 145 = .ok (.iaload, 1) := by decide +kernel
theorem d_R_next_146 : decode b_R_next 146 = .ok (.invokevirtual 127, 3) := by decide +kernel
theorem d_R_next_149 : decode b_R_next 149 = .ok (.goto 90, 3) := by decide +kernel
theorem d_R_next_152 : decode b_R_next 152 = .ok (.aload_n 0, 1) := by decide +kernel
theorem d_R_next_153 : decode b_R_next 153 = .ok (.iload_n 1, 1) := by decide +kernel
theorem d_R_next_154 : decode b_R_next 154 = .ok (.iload 4, 2) := by decide +kernel
theorem d_R_next_156 : decode b_R_next 156 = .ok (.aload_n 0, 1) := by decide +kernel
theorem d_R_next_157 : decode b_R_next 157 = .ok (.getfield 59, 3) := by decide +kernel
theorem d_R_next_160 : decode b_R_next 160 = .ok (.iload_n 2, 1) := by decide +kernel
theorem d_R_next_161 : decode b_R_next 161 = .ok (.iaload, 1) := by decide +kernel
theorem d_R_next_162 : decode b_R_next 162 = .ok (.aload_n 0, 1) := by decide +kernel
theorem d_R_next_163 : decode b_R_next 163 = .ok (.getfield 62, 3) := by decide +kernel
theorem d_R_next_166 : decode b_R_next 166 = .ok (.iload_n 2, 1) := by decide +kernel
theorem d_R_next_167 : decode b_R_next 167 = .ok (.iaload, 1) := by decide +kernel
theorem d_R_next_168 : decode b_R_next 168 = .ok (.invokevirtual 131, 3) := by decide +kernel
theorem d_R_next_171 : decode b_R_next 171 = .ok (.goto 68, 3) := by decide +kernel
theorem d_R_next_174 : decode b_R_next 174 = .ok (.aload_n 0, 1) := by decide +kernel
theorem d_R_next_175 : decode b_R_next 175 = .ok (.getfield 40, 3) := by decide +kernel
theorem d_R_next_178 : decode b_R_next 178 = .ok (.iload_n 1, 1) := by decide +kernel
theorem d_R_next_179 : decode b_R_next 179 = .ok (.iconst (-1), 1) := by decide +kernel
theorem d_R_next_180 : decode b_R_next 180 = .ok (.iastore, 1) := by decide +kernel
theorem d_R_next_181 : decode b_R_next 181 = .ok (.aload_n 0, 1) := by decide +kernel
theorem d_R_next_182 : decode b_R_next 182 = .ok (.iload_n 1, 1) := by decide +kernel
theorem d_R_next_183 : decode b_R_next 183 = .ok (.iload 4, 2) := by decide +kernel
theorem d_R_next_185 : decode b_R_next 185 = .ok (.aload_n 0, 1) := by decide +kernel
theorem d_R_next_186 : decode b_R_next 186 = .ok (.getfield 13, 3) := by decide +kernel
theorem d_R_next_189 : decode b_R_next 189 = .ok (.iload 4, 2) := by decide +kernel
theorem d_R_next_191 : decode b_R_next 191 = .ok (.iaload, 1) := by decide +kernel
theorem d_R_next_192 : decode b_R_next 192 = .ok (.invokevirtual 117, 3) := by decide +kernel
theorem d_R_next_195 : decode b_R_next 195 = .ok (.aload_n 0, 1) := by decide +kernel
theorem d_R_next_196 : decode b_R_next 196 = .ok (.iload_n 1, 1) := by decide +kernel
theorem d_R_next_197 : decode b_R_next 197 = .ok (.invokevirtual 103, 3) := by decide +kernel
theorem d_R_next_200 : decode b_R_next 200 = .ok (.goto 39, 3) := by decide +kernel
theorem d_R_next_203 : decode b_R_next 203 = .ok (.aload_n 0, 1) := by decide +kernel
theorem d_R_next_204 : decode b_R_next 204 = .ok (.iload_n 1, 1) := by decide +kernel
theorem d_R_next_205 : decode b_R_next 205 = .ok (.iload 4, 2) := by decide +kernel
theorem d_R_next_207 : decode b_R_next 207 = .ok (.invokevirtual 113, 3) := by decide +kernel
theorem d_R_next_210 : decode b_R_next 210 = .ok (.aload_n 0, 1) := by decide +kernel
theorem d_R_next_211 : decode b_R_next 211 = .ok (.iload_n 1, 1) := by decide +kernel
theorem d_R_next_212 : decode b_R_next 212 = .ok (.invokevirtual 110, 3) := by decide +kernel
theorem d_R_next_215 : decode b_R_next 215 = .ok (.goto 24, 3) := by decide +kernel
theorem d_R_next_218 : decode b_R_next 218 = .ok (.aload_n 0, 1) := by decide +kernel
theorem d_R_next_219 : decode b_R_next 219 = .ok (.iload_n 1, 1) := by decide +kernel
theorem d_R_next_220 : decode b_R_next 220 = .ok (.iload 4, 2) := by decide +kernel
theorem d_R_next_222 : decode b_R_next 222 = .ok (.aload_n 0, 1) := by decide +kernel
theorem d_R_next_223 : decode b_R_next 223 = .ok (.getfield 59, 3) := by decide +kernel
theorem d_R_next_226 : decode b_R_next 226 = .ok (.iload_n 2, 1) := by decide +kernel
theorem d_R_next_227 : decode b_R_next 227 = .ok (.iaload, 1) := by decide +kernel
theorem d_R_next_228 : decode b_R_next 228 = .ok (.invokevirtual 135, 3) := by decide +kernel
theorem d_R_next_231 : decode b_R_next 231 = .ok (.goto 8, 3) := by decide +kernel
theorem d_R_next_234 : decode b_R_next 234 = .ok (.aload_n 0, 1) := by decide +kernel
theorem d_R_next_235 : decode b_R_next 235 = .ok (.iload_n 1, 1) := by decide +kernel
theorem d_R_next_236 : decode b_R_next 236 = .ok (.invokevirtual 121, 3) := by decide +kernel
theorem d_R_next_239 : decode b_R_next 239 = .ok (.iload_n 3, 1) := by decide +kernel
theorem d_R_next_240 : decode b_R_next 240 = .ok (.ireturn, 1) := by decide +kernel
abbrev b_R_connect : ByteArray := prog_5_method_15_code
def y_R_connect : MethodName := ⟨"MergingFragmentsModel", "connect", "(III)V"⟩
theorem d_R_connect_0 : decode b_R_connect 0 = .ok (.aload_n 0, 1) := by decide +kernel
theorem d_R_connect_1 : decode b_R_connect 1 = .ok (.iload_n 1, 1) := by decide +kernel
theorem d_R_connect_2 : decode b_R_connect 2 = .ok (.invokevirtual 107, 3) := by decide +kernel
theorem d_R_connect_5 : decode b_R_connect 5 = .ok (.aload_n 0, 1) := by decide +kernel
theorem d_R_connect_6 : decode b_R_connect 6 = .ok (.iload_n 1, 1) := by decide +kernel
theorem d_R_connect_7 : decode b_R_connect 7 = .ok (.iload_n 2, 1) := by decide +kernel
theorem d_R_connect_8 : decode b_R_connect 8 = .ok (.invokevirtual 85, 3) := by decide +kernel
theorem d_R_connect_11 : decode b_R_connect 11 = .ok (.istore 4, 2) := by decide +kernel
theorem d_R_connect_13 : decode b_R_connect 13 = .ok (.iload_n 3, 1) := by decide +kernel
theorem d_R_connect_14 : decode b_R_connect 14 = .ok (.aload_n 0, 1) := by decide +kernel
theorem d_R_connect_15 : decode b_R_connect 15 = .ok (.getfield 22, 3) := by decide +kernel
theorem d_R_connect_18 : decode b_R_connect 18 = .ok (.iload_n 1, 1) := by decide +kernel
theorem d_R_connect_19 : decode b_R_connect 19 = .ok (.iaload, 1) := by decide +kernel
theorem d_R_connect_20 : decode b_R_connect 20 = .ok (.if_icmp .ge 59, 3) := by decide +kernel
theorem d_R_connect_23 : decode b_R_connect 23 = .ok (.aload_n 0, 1) := by decide +kernel
theorem d_R_connect_24 : decode b_R_connect 24 = .ok (.getfield 16, 3) := by decide +kernel
theorem d_R_connect_27 : decode b_R_connect 27 = .ok (.iload 4, 2) := by decide +kernel
theorem d_R_connect_29 : decode b_R_connect 29 = .ok (.iconst 1, 1) := by decide +kernel
theorem d_R_connect_30 : decode b_R_connect 30 = .ok (.iastore, 1) := by decide +kernel
theorem d_R_connect_31 : decode b_R_connect 31 = .ok (.aload_n 0, 1) := by decide +kernel
theorem d_R_connect_32 : decode b_R_connect 32 = .ok (.iload_n 1, 1) := by decide +kernel
theorem d_R_connect_33 : decode b_R_connect 33 = .ok (.iconst 1, 1) := by decide +kernel
theorem d_R_connect_34 : decode b_R_connect 34 = .ok (.iload_n 2, 1) := by decide +kernel
theorem d_R_connect_35 : decode b_R_connect 35 = .ok (.aload_n 0, 1) := by decide +kernel
theorem d_R_connect_36 : decode b_R_connect 36 = .ok (.getfield 22, 3) := by decide +kernel
theorem d_R_connect_39 : decode b_R_connect 39 = .ok (.iload_n 1, 1) := by decide +kernel
theorem d_R_connect_40 : decode b_R_connect 40 = .ok (.iaload, 1) := by decide +kernel
theorem d_R_connect_41 : decode b_R_connect 41 = .ok (.aload_n 0, 1) := by decide +kernel
theorem d_R_connect_42 : decode b_R_connect 42 = .ok (.getfield 25, 3) := by decide +kernel
theorem d_R_connect_45 : decode b_R_connect 45 = .ok (.iload_n 1, 1) := by decide +kernel
theorem d_R_connect_46 : decode b_R_connect 46 = .ok (.iaload, 1) := by decide +kernel
theorem d_R_connect_47 : decode b_R_connect 47 = .ok (.aload_n 0, 1) := by decide +kernel
theorem d_R_connect_48 : decode b_R_connect 48 = .ok (.getfield 19, 3) := by decide +kernel
theorem d_R_connect_51 : decode b_R_connect 51 = .ok (.iload_n 1, 1) := by decide +kernel
theorem d_R_connect_52 : decode b_R_connect 52 = .ok (.iaload, 1) := by decide +kernel
theorem d_R_connect_53 : decode b_R_connect 53 = .ok (.invokevirtual 100, 3) := by decide +kernel
theorem d_R_connect_56 : decode b_R_connect 56 = .ok (.aload_n 0, 1) := by decide +kernel
theorem d_R_connect_57 : decode b_R_connect 57 = .ok (.getfield 19, 3) := by decide +kernel
theorem d_R_connect_60 : decode b_R_connect 60 = .ok (.iload_n 1, 1) := by decide +kernel
theorem d_R_connect_61 : decode b_R_connect 61 = .ok (.iaload, 1) := by decide +kernel
theorem d_R_connect_62 : decode b_R_connect 62 = .ok (.iconst 1, 1) := by decide +kernel
theorem d_R_connect_63 : decode b_R_connect 63 = .ok (.if_icmp .ne 61, 3) := by decide +kernel
theorem d_R_connect_66 : decode b_R_connect 66 = .ok (.aload_n 0, 1) := by decide +kernel
theorem d_R_connect_67 : decode b_R_connect 67 = .ok (.getfield 28, 3) := by decide +kernel
theorem d_R_connect_70 : decode b_R_connect 70 = .ok (.iload_n 1, 1) := by decide +kernel
theorem d_R_connect_71 : decode b_R_connect 71 = .ok (.dup2, 1) := by decide +kernel
theorem d_R_connect_72 : decode b_R_connect 72 = .ok (.iaload, 1) := by decide +kernel
theorem d_R_connect_73 : decode b_R_connect 73 = .ok (.iconst 1, 1) := by decide +kernel
theorem d_R_connect_74 : decode b_R_connect 74 = .ok (.iadd, 1) := by decide +kernel
theorem d_R_connect_75 : decode b_R_connect 75 = .ok (.iastore, 1) := by decide +kernel
theorem d_R_connect_76 : decode b_R_connect 76 = .ok (.goto 48, 3) := by decide +kernel
theorem d_R_connect_79 : decode b_R_connect 79 = .ok (.aload_n 0, 1) := by decide +kernel
theorem d_R_connect_80 : decode b_R_connect 80 = .ok (.getfield 16, 3) := by decide +kernel
theorem d_R_connect_83 : decode b_R_connect 83 = .ok (.iload 4, 2) := by decide +kernel
theorem d_R_connect_85 : decode b_R_connect 85 = .ok (.iaload, 1) := by decide +kernel
theorem d_R_connect_86 : decode b_R_connect 86 = .ok (.ifCond .ne 16, 3) := by decide +kernel
theorem d_R_connect_89 : decode b_R_connect 89 = .ok (.aload_n 0, 1) := by decide +kernel
theorem d_R_connect_90 : decode b_R_connect 90 = .ok (.iload_n 1, 1) := by decide +kernel
theorem d_R_connect_91 : decode b_R_connect 91 = .ok (.iconst 0, 1) := by decide +kernel
theorem d_R_connect_92 : decode b_R_connect 92 = .ok (.iload_n 2, 1) := by decide +kernel
theorem d_R_connect_93 : decode b_R_connect 93 = .ok (.iload_n 3, 1) := by decide +kernel
theorem d_R_connect_94 : decode b_R_connect 94 = .ok (.iconst 0, 1) := by decide +kernel
theorem d_R_connect_95 : decode b_R_connect 95 = .ok (.iconst 0, 1) := by decide +kernel
theorem d_R_connect_96 : decode b_R_connect 96 = .ok (.invokevirtual 92, 3) := by decide +kernel
theorem d_R_connect_99 : decode b_R_connect 99 = .ok (.goto 25, 3) := by decide +kernel
theorem d_R_connect_102 : decode b_R_connect 102 = .ok (.aload_n 0, 1) := by decide +kernel
theorem d_R_connect_103 : decode b_R_connect 103 = .ok (.iload_n 1, 1) := by decide +kernel
theorem d_R_connect_104 : decode b_R_connect 104 = .ok (.iconst 1, 1) := by decide +kernel
theorem d_R_connect_105 : decode b_R_connect 105 = .ok (.iload_n 2, 1) := by decide +kernel
theorem d_R_connect_106 : decode b_R_connect 106 = .ok (.aload_n 0, 1) := by decide +kernel
theorem d_R_connect_107 : decode b_R_connect 107 = .ok (.getfield 22, 3) := by decide +kernel
theorem d_R_connect_110 : decode b_R_connect 110 = .ok (.iload_n 1, 1) := by decide +kernel
theorem d_R_connect_111 : decode b_R_connect 111 = .ok (.iaload, 1) := by decide +kernel
theorem d_R_connect_112 : decode b_R_connect 112 = .ok (.iconst 1, 1) := by decide +kernel
theorem d_R_connect_113 : decode b_R_connect 113 = .ok (.iadd, 1) := by decide +kernel
theorem d_R_connect_114 : decode b_R_connect 114 = .ok (.aload_n 0, 1) := by decide +kernel
theorem d_R_connect_115 : decode b_R_connect 115 = .ok (.getfield 13, 3) := by decide +kernel
theorem d_R_connect_118 : decode b_R_connect 118 = .ok (.iload_n 2, 1) := by decide +kernel
theorem d_R_connect_119 : decode b_R_connect 119 = .ok (.iaload, 1) := by decide +kernel
theorem d_R_connect_120 : decode b_R_connect 120 = .ok (.iconst 1, 1) := by decide +kernel
theorem d_R_connect_121 : decode b_R_connect 121 = .ok (.invokevirtual 100, 3) := by decide +kernel
theorem d_R_connect_124 : decode b_R_connect 124 = .ok (.return_, 1) := by decide +kernel
abbrev b_R_initiate : ByteArray := prog_5_method_16_code
def y_R_initiate : MethodName := ⟨"MergingFragmentsModel", "initiate", "(IIIII)V"⟩
theorem d_R_initiate_0 : decode b_R_initiate 0 = .ok (.aload_n 0, 1) := by decide +kernel
theorem d_R_initiate_1 : decode b_R_initiate 1 = .ok (.getfield 22, 3) := by decide +kernel
theorem d_R_initiate_4 : decode b_R_initiate 4 = .ok (.iload_n 1, 1) := by decide +kernel
theorem d_R_initiate_5 : decode b_R_initiate 5 = .ok (.iload_n 3, 1) := by decide +kernel
theorem d_R_initiate_6 : decode b_R_initiate 6 = .ok (.iastore, 1) := by decide +kernel
theorem d_R_initiate_7 : decode b_R_initiate 7 = .ok (.aload_n 0, 1) := by decide +kernel
theorem d_R_initiate_8 : decode b_R_initiate 8 = .ok (.getfield 25, 3) := by decide +kernel
theorem d_R_initiate_11 : decode b_R_initiate 11 = .ok (.iload_n 1, 1) := by decide +kernel
theorem d_R_initiate_12 : decode b_R_initiate 12 = .ok (.iload 4, 2) := by decide +kernel
theorem d_R_initiate_14 : decode b_R_initiate 14 = .ok (.iastore, 1) := by decide +kernel
theorem d_R_initiate_15 : decode b_R_initiate 15 = .ok (.aload_n 0, 1) := by decide +kernel
theorem d_R_initiate_16 : decode b_R_initiate 16 = .ok (.getfield 19, 3) := by decide +kernel
theorem d_R_initiate_19 : decode b_R_initiate 19 = .ok (.iload_n 1, 1) := by decide +kernel
theorem d_R_initiate_20 : decode b_R_initiate 20 = .ok (.iload 5, 2) := by decide +kernel
theorem d_R_initiate_22 : decode b_R_initiate 22 = .ok (.iastore, 1) := by decide +kernel
theorem d_R_initiate_23 : decode b_R_initiate 23 = .ok (.aload_n 0, 1) := by decide +kernel
theorem d_R_initiate_24 : decode b_R_initiate 24 = .ok (.getfield 31, 3) := by decide +kernel
theorem d_R_initiate_27 : decode b_R_initiate 27 = .ok (.iload_n 1, 1) := by decide +kernel
theorem d_R_initiate_28 : decode b_R_initiate 28 = .ok (.iload_n 2, 1) := by decide +kernel
theorem d_R_initiate_29 : decode b_R_initiate 29 = .ok (.iastore, 1) := by decide +kernel
theorem d_R_initiate_30 : decode b_R_initiate 30 = .ok (.aload_n 0, 1) := by decide +kernel
theorem d_R_initiate_31 : decode b_R_initiate 31 = .ok (.getfield 34, 3) := by decide +kernel
theorem d_R_initiate_34 : decode b_R_initiate 34 = .ok (.iload_n 1, 1) := by decide +kernel
theorem d_R_initiate_35 : decode b_R_initiate 35 = .ok (.iconst (-1), 1) := by decide +kernel
theorem d_R_initiate_36 : decode b_R_initiate 36 = .ok (.iastore, 1) := by decide +kernel
theorem d_R_initiate_37 : decode b_R_initiate 37 = .ok (.aload_n 0, 1) := by decide +kernel
theorem d_R_initiate_38 : decode b_R_initiate 38 = .ok (.getfield 37, 3) := by decide +kernel
theorem d_R_initiate_41 : decode b_R_initiate 41 = .ok (.iload_n 1, 1) := by decide +kernel
theorem d_R_initiate_42 : decode b_R_initiate 42 = .ok (.bipush 100, 2) := by decide +kernel
theorem d_R_initiate_44 : decode b_R_initiate 44 = .ok (.iastore, 1) := by decide +kernel
theorem d_R_initiate_45 : decode b_R_initiate 45 = .ok (.iconst 0, 1) := by decide +kernel
theorem d_R_initiate_46 : decode b_R_initiate 46 = .ok (.istore 6, 2) := by decide +kernel
theorem d_R_initiate_48 : decode b_R_initiate 48 = .ok (.iload 6, 2) := by decide +kernel
theorem d_R_initiate_50 : decode b_R_initiate 50 = .ok (.aload_n 0, 1) := by decide +kernel
theorem d_R_initiate_51 : decode b_R_initiate 51 = .ok (.getfield 75, 3) := by decide +kernel
theorem d_R_initiate_54 : decode b_R_initiate 54 = .ok (.if_icmp .ge 69, 3) := by decide +kernel
theorem d_R_initiate_57 : decode b_R_initiate 57 = .ok (.aload_n 0, 1) := by decide +kernel
theorem d_R_initiate_58 : decode b_R_initiate 58 = .ok (.iload_n 1, 1) := by decide +kernel
theorem d_R_initiate_59 : decode b_R_initiate 59 = .ok (.iload 6, 2) := by decide +kernel
theorem d_R_initiate_61 : decode b_R_initiate 61 = .ok (.invokevirtual 85, 3) := by decide +kernel
theorem d_R_initiate_64 : decode b_R_initiate 64 = .ok (.istore 7, 2) := by decide +kernel
theorem d_R_initiate_66 : decode b_R_initiate 66 = .ok (.iload 6, 2) := by decide +kernel
theorem d_R_initiate_68 : decode b_R_initiate 68 = .ok (.iload_n 2, 1) := by decide +kernel
theorem d_R_initiate_69 : decode b_R_initiate 69 = .ok (.if_icmp .eq 48, 3) := by decide +kernel
theorem d_R_initiate_72 : decode b_R_initiate 72 = .ok (.iload 7, 2) := by decide +kernel
theorem d_R_initiate_74 : decode b_R_initiate 74 = .ok (.ifCond .lt 43, 3) := by decide +kernel
theorem d_R_initiate_77 : decode b_R_initiate 77 = .ok (.aload_n 0, 1) := by decide +kernel
theorem d_R_initiate_78 : decode b_R_initiate 78 = .ok (.getfield 16, 3) := by decide +kernel
theorem d_R_initiate_81 : decode b_R_initiate 81 = .ok (.iload 7, 2) := by decide +kernel
theorem d_R_initiate_83 : decode b_R_initiate 83 = .ok (.iaload, 1) := by decide +kernel
theorem d_R_initiate_84 : decode b_R_initiate 84 = .ok (.iconst 1, 1) := by decide +kernel
theorem d_R_initiate_85 : decode b_R_initiate 85 = .ok (.if_icmp .ne 32, 3) := by decide +kernel
theorem d_R_initiate_88 : decode b_R_initiate 88 = .ok (.aload_n 0, 1) := by decide +kernel
theorem d_R_initiate_89 : decode b_R_initiate 89 = .ok (.iload_n 1, 1) := by decide +kernel
theorem d_R_initiate_90 : decode b_R_initiate 90 = .ok (.iconst 1, 1) := by decide +kernel
theorem d_R_initiate_91 : decode b_R_initiate 91 = .ok (.iload 6, 2) := by decide +kernel
theorem d_R_initiate_93 : decode b_R_initiate 93 = .ok (.iload_n 3, 1) := by decide +kernel
theorem d_R_initiate_94 : decode b_R_initiate 94 = .ok (.iload 4, 2) := by decide +kernel
theorem d_R_initiate_96 : decode b_R_initiate 96 = .ok (.iload 5, 2) := by decide +kernel
theorem d_R_initiate_98 : decode b_R_initiate 98 = .ok (.invokevirtual 100, 3) := by decide +kernel
theorem d_R_initiate_101 : decode b_R_initiate 101 = .ok (.iload 5, 2) := by decide +kernel
theorem d_R_initiate_103 : decode b_R_initiate 103 = .ok (.iconst 1, 1) := by decide +kernel
theorem d_R_initiate_104 : decode b_R_initiate 104 = .ok (.if_icmp .ne 13, 3) := by decide +kernel
theorem d_R_initiate_107 : decode b_R_initiate 107 = .ok (.aload_n 0, 1) := by decide +kernel
theorem d_R_initiate_108 : decode b_R_initiate 108 = .ok (.getfield 28, 3) := by decide +kernel
theorem d_R_initiate_111 : decode b_R_initiate 111 = .ok (.iload_n 1, 1) := by decide +kernel
theorem d_R_initiate_112 : decode b_R_initiate 112 = .ok (.dup2, 1) := by decide +kernel
theorem d_R_initiate_113 : decode b_R_initiate 113 = .ok (.iaload, 1) := by decide +kernel
theorem d_R_initiate_114 : decode b_R_initiate 114 = .ok (.iconst 1, 1) := by decide +kernel
theorem d_R_initiate_115 : decode b_R_initiate 115 = .ok (.iadd, 1) := by decide +kernel
theorem d_R_initiate_116 : decode b_R_initiate 116 = .ok (.iastore, 1) := by decide +kernel
theorem d_R_initiate_117 : decode b_R_initiate 117 = .ok (.iinc 6 1, 3) := by decide +kernel
theorem d_R_initiate_120 : decode b_R_initiate 120 = .ok (.goto (-72), 3) := by decide +kernel
theorem d_R_initiate_123 : decode b_R_initiate 123 = .ok (.iload 5, 2) := by decide +kernel
theorem d_R_initiate_125 : decode b_R_initiate 125 = .ok (.iconst 1, 1) := by decide +kernel
theorem d_R_initiate_126 : decode b_R_initiate 126 = .ok (.if_icmp .ne 8, 3) := by decide +kernel
theorem d_R_initiate_129 : decode b_R_initiate 129 = .ok (.aload_n 0, 1) := by decide +kernel
theorem d_R_initiate_130 : decode b_R_initiate 130 = .ok (.iload_n 1, 1) := by decide +kernel
theorem d_R_initiate_131 : decode b_R_initiate 131 = .ok (.invokevirtual 110, 3) := by decide +kernel
theorem d_R_initiate_134 : decode b_R_initiate 134 = .ok (.return_, 1) := by decide +kernel
abbrev b_R_test : ByteArray := prog_5_method_12_code
def y_R_test : MethodName := ⟨"MergingFragmentsModel", "test", "(I)V"⟩
theorem d_R_test_0 : decode b_R_test 0 = .ok (.aload_n 0, 1) := by decide +kernel
theorem d_R_test_1 : decode b_R_test 1 = .ok (.getfield 40, 3) := by decide +kernel
theorem d_R_test_4 : decode b_R_test 4 = .ok (.iload_n 1, 1) := by decide +kernel
theorem d_R_test_5 : decode b_R_test 5 = .ok (.aload_n 0, 1) := by decide +kernel
theorem d_R_test_6 : decode b_R_test 6 = .ok (.iload_n 1, 1) := by decide +kernel
theorem d_R_test_7 : decode b_R_test 7 = .ok (.iconst 1, 1) := by decide +kernel
theorem d_R_test_8 : decode b_R_test 8 = .ok (.invokevirtual 96, 3) := by decide +kernel
theorem d_R_test_11 : decode b_R_test 11 = .ok (.iastore, 1) := by decide +kernel
theorem d_R_test_12 : decode b_R_test 12 = .ok (.aload_n 0, 1) := by decide +kernel
theorem d_R_test_13 : decode b_R_test 13 = .ok (.getfield 40, 3) := by decide +kernel
theorem d_R_test_16 : decode b_R_test 16 = .ok (.iload_n 1, 1) := by decide +kernel
theorem d_R_test_17 : decode b_R_test 17 = .ok (.iaload, 1) := by decide +kernel
theorem d_R_test_18 : decode b_R_test 18 = .ok (.ifCond .lt 31, 3) := by decide +kernel
theorem d_R_test_21 : decode b_R_test 21 = .ok (.aload_n 0, 1) := by decide +kernel
theorem d_R_test_22 : decode b_R_test 22 = .ok (.iload_n 1, 1) := by decide +kernel
theorem d_R_test_23 : decode b_R_test 23 = .ok (.iconst 2, 1) := by decide +kernel
theorem d_R_test_24 : decode b_R_test 24 = .ok (.aload_n 0, 1) := by decide +kernel
theorem d_R_test_25 : decode b_R_test 25 = .ok (.getfield 40, 3) := by decide +kernel
theorem d_R_test_28 : decode b_R_test 28 = .ok (.iload_n 1, 1) := by decide +kernel
theorem d_R_test_29 : decode b_R_test 29 = .ok (.iaload, 1) := by decide +kernel
theorem d_R_test_30 : decode b_R_test 30 = .ok (.aload_n 0, 1) := by decide +kernel
theorem d_R_test_31 : decode b_R_test 31 = .ok (.getfield 22, 3) := by decide +kernel
theorem d_R_test_34 : decode b_R_test 34 = .ok (.iload_n 1, 1) := by decide +kernel
theorem d_R_test_35 : decode b_R_test 35 = .ok (.iaload, 1) := by decide +kernel
theorem d_R_test_36 : decode b_R_test 36 = .ok (.aload_n 0, 1) := by decide +kernel
theorem d_R_test_37 : decode b_R_test 37 = .ok (.getfield 25, 3) := by decide +kernel
theorem d_R_test_40 : decode b_R_test 40 = .ok (.iload_n 1, 1) := by decide +kernel
theorem d_R_test_41 : decode b_R_test 41 = .ok (.iaload, 1) := by decide +kernel
theorem d_R_test_42 : decode b_R_test 42 = .ok (.iconst 0, 1) := by decide +kernel
theorem d_R_test_43 : decode b_R_test 43 = .ok (.invokevirtual 100, 3) := by decide +kernel
theorem d_R_test_46 : decode b_R_test 46 = .ok (.goto 8, 3) := by decide +kernel
theorem d_R_test_49 : decode b_R_test 49 = .ok (.aload_n 0, 1) := by decide +kernel
theorem d_R_test_50 : decode b_R_test 50 = .ok (.iload_n 1, 1) := by decide +kernel
theorem d_R_test_51 : decode b_R_test 51 = .ok (.invokevirtual 103, 3) := by decide +kernel
theorem d_R_test_54 : decode b_R_test 54 = .ok (.return_, 1) := by decide +kernel
abbrev b_R_report : ByteArray := prog_5_method_13_code
def y_R_report : MethodName := ⟨"MergingFragmentsModel", "report", "(I)V"⟩
theorem d_R_report_0 : decode b_R_report 0 = .ok (.aload_n 0, 1) := by decide +kernel
theorem d_R_report_1 : decode b_R_report 1 = .ok (.getfield 28, 3) := by decide +kernel
theorem d_R_report_4 : decode b_R_report 4 = .ok (.iload_n 1, 1) := by decide +kernel
theorem d_R_report_5 : decode b_R_report 5 = .ok (.iaload, 1) := by decide +kernel
theorem d_R_report_6 : decode b_R_report 6 = .ok (.ifCond .ne 39, 3) := by decide +kernel
theorem d_R_report_9 : decode b_R_report 9 = .ok (.aload_n 0, 1) := by decide +kernel
theorem d_R_report_10 : decode b_R_report 10 = .ok (.getfield 40, 3) := by decide +kernel
theorem d_R_report_13 : decode b_R_report 13 = .ok (.iload_n 1, 1) := by decide +kernel
theorem d_R_report_14 : decode b_R_report 14 = .ok (.iaload, 1) := by decide +kernel
theorem d_R_report_15 : decode b_R_report 15 = .ok (.ifCond .ge 30, 3) := by decide +kernel
theorem d_R_report_18 : decode b_R_report 18 = .ok (.aload_n 0, 1) := by decide +kernel
theorem d_R_report_19 : decode b_R_report 19 = .ok (.getfield 19, 3) := by decide +kernel
theorem d_R_report_22 : decode b_R_report 22 = .ok (.iload_n 1, 1) := by decide +kernel
theorem d_R_report_23 : decode b_R_report 23 = .ok (.iconst 2, 1) := by decide +kernel
theorem d_R_report_24 : decode b_R_report 24 = .ok (.iastore, 1) := by decide +kernel
theorem d_R_report_25 : decode b_R_report 25 = .ok (.aload_n 0, 1) := by decide +kernel
theorem d_R_report_26 : decode b_R_report 26 = .ok (.iload_n 1, 1) := by decide +kernel
theorem d_R_report_27 : decode b_R_report 27 = .ok (.iconst 5, 1) := by decide +kernel
theorem d_R_report_28 : decode b_R_report 28 = .ok (.aload_n 0, 1) := by decide +kernel
theorem d_R_report_29 : decode b_R_report 29 = .ok (.getfield 31, 3) := by decide +kernel
theorem d_R_report_32 : decode b_R_report 32 = .ok (.iload_n 1, 1) := by decide +kernel
theorem d_R_report_33 : decode b_R_report 33 = .ok (.iaload, 1) := by decide +kernel
theorem d_R_report_34 : decode b_R_report 34 = .ok (.aload_n 0, 1) := by decide +kernel
theorem d_R_report_35 : decode b_R_report 35 = .ok (.getfield 37, 3) := by decide +kernel
theorem d_R_report_38 : decode b_R_report 38 = .ok (.iload_n 1, 1) := by decide +kernel
theorem d_R_report_39 : decode b_R_report 39 = .ok (.iaload, 1) := by decide +kernel
theorem d_R_report_40 : decode b_R_report 40 = .ok (.iconst 0, 1) := by decide +kernel
theorem d_R_report_41 : decode b_R_report 41 = .ok (.iconst 0, 1) := by decide +kernel
theorem d_R_report_42 : decode b_R_report 42 = .ok (.invokevirtual 100, 3) := by decide +kernel
theorem d_R_report_45 : decode b_R_report 45 = .ok (.return_, 1) := by decide +kernel
abbrev b_R_isTested : ByteArray := prog_5_method_18_code
def y_R_isTested : MethodName := ⟨"MergingFragmentsModel", "isTested", "(IIII)V"⟩
theorem d_R_isTested_0 : decode b_R_isTested 0 = .ok (.aload_n 0, 1) := by decide +kernel
theorem d_R_isTested_1 : decode b_R_isTested 1 = .ok (.iload_n 1, 1) := by decide +kernel
theorem d_R_isTested_2 : decode b_R_isTested 2 = .ok (.invokevirtual 107, 3) := by decide +kernel
theorem d_R_isTested_5 : decode b_R_isTested 5 = .ok (.iload_n 3, 1) := by decide +kernel
theorem d_R_isTested_6 : decode b_R_isTested 6 = .ok (.aload_n 0, 1) := by decide +kernel
theorem d_R_isTested_7 : decode b_R_isTested 7 = .ok (.getfield 22, 3) := by decide +kernel
theorem d_R_isTested_10 : decode b_R_isTested 10 = .ok (.iload_n 1, 1) := by decide +kernel
theorem d_R_isTested_11 : decode b_R_isTested 11 = .ok (.iaload, 1) := by decide +kernel
theorem d_R_isTested_12 : decode b_R_isTested 12 = .ok (.if_icmp .le 17, 3) := by decide +kernel
theorem d_R_isTested_15 : decode b_R_isTested 15 = .ok (.aload_n 0, 1) := by decide +kernel
theorem d_R_isTested_16 : decode b_R_isTested 16 = .ok (.iload_n 1, 1) := by decide +kernel
theorem d_R_isTested_17 : decode b_R_isTested 17 = .ok (.iconst 2, 1) := by decide +kernel
theorem d_R_isTested_18 : decode b_R_isTested 18 = .ok (.iload_n 2, 1) := by decide +kernel
theorem d_R_isTested_19 : decode b_R_isTested 19 = .ok (.iload_n 3, 1) := by decide +kernel
theorem d_R_isTested_20 : decode b_R_isTested 20 = .ok (.iload 4, 2) := by decide +kernel
theorem d_R_isTested_22 : decode b_R_isTested 22 = .ok (.iconst 0, 1) := by decide +kernel
theorem d_R_isTested_23 : decode b_R_isTested 23 = .ok (.invokevirtual 92, 3) := by decide +kernel
theorem d_R_isTested_26 : decode b_R_isTested 26 = .ok (.goto 61, 3) := by decide +kernel
theorem d_R_isTested_29 : decode b_R_isTested 29 = .ok (.iload 4, 2) := by decide +kernel
theorem d_R_isTested_31 : decode b_R_isTested 31 = .ok (.aload_n 0, 1) := by decide +kernel
theorem d_R_isTested_32 : decode b_R_isTested 32 = .ok (.getfield 25, 3) := by decide +kernel
theorem d_R_isTested_35 : decode b_R_isTested 35 = .ok (.iload_n 1, 1) := by decide +kernel
theorem d_R_isTested_36 : decode b_R_isTested 36 = .ok (.iaload, 1) := by decide +kernel
theorem d_R_isTested_37 : decode b_R_isTested 37 = .ok (.if_icmp .eq 16, 3) := by decide +kernel
theorem d_R_isTested_40 : decode b_R_isTested 40 = .ok (.aload_n 0, 1) := by decide +kernel
theorem d_R_isTested_41 : decode b_R_isTested 41 = .ok (.iload_n 1, 1) := by decide +kernel
theorem d_R_isTested_42 : decode b_R_isTested 42 = .ok (.iconst 3, 1) := by decide +kernel
theorem d_R_isTested_43 : decode b_R_isTested 43 = .ok (.iload_n 2, 1) := by decide +kernel
theorem d_R_isTested_44 : decode b_R_isTested 44 = .ok (.iconst 0, 1) := by decide +kernel
theorem d_R_isTested_45 : decode b_R_isTested 45 = .ok (.iconst 0, 1) := by decide +kernel
theorem d_R_isTested_46 : decode b_R_isTested 46 = .ok (.iconst 0, 1) := by decide +kernel
theorem d_R_isTested_47 : decode b_R_isTested 47 = .ok (.invokevirtual 100, 3) := by decide +kernel
theorem d_R_isTested_50 : decode b_R_isTested 50 = .ok (.goto 37, 3) := by decide +kernel
theorem d_R_isTested_53 : decode b_R_isTested 53 = .ok (.aload_n 0, 1) := by decide +kernel
theorem d_R_isTested_54 : decode b_R_isTested 54 = .ok (.iload_n 1, 1) := by decide +kernel
theorem d_R_isTested_55 : decode b_R_isTested 55 = .ok (.iload_n 2, 1) := by decide +kernel
theorem d_R_isTested_56 : decode b_R_isTested 56 = .ok (.invokevirtual 113, 3) := by decide +kernel
theorem d_R_isTested_59 : decode b_R_isTested 59 = .ok (.aload_n 0, 1) := by decide +kernel
theorem d_R_isTested_60 : decode b_R_isTested 60 = .ok (.getfield 40, 3) := by decide +kernel
theorem d_R_isTested_63 : decode b_R_isTested 63 = .ok (.iload_n 1, 1) := by decide +kernel
theorem d_R_isTested_64 : decode b_R_isTested 64 = .ok (.iaload, 1) := by decide +kernel
theorem d_R_isTested_65 : decode b_R_isTested 65 = .ok (.iload_n 2, 1) := by decide +kernel
theorem d_R_isTested_66 : decode b_R_isTested 66 = .ok (.if_icmp .eq 16, 3) := by decide +kernel
theorem d_R_isTested_69 : decode b_R_isTested 69 = .ok (.aload_n 0, 1) := by decide +kernel
theorem d_R_isTested_70 : decode b_R_isTested 70 = .ok (.iload_n 1, 1) := by decide +kernel
theorem d_R_isTested_71 : decode b_R_isTested 71 = .ok (.iconst 4, 1) := by decide +kernel
theorem d_R_isTested_72 : decode b_R_isTested 72 = .ok (.iload_n 2, 1) := by decide +kernel
theorem d_R_isTested_73 : decode b_R_isTested 73 = .ok (.iconst 0, 1) := by decide +kernel
theorem d_R_isTested_74 : decode b_R_isTested 74 = .ok (.iconst 0, 1) := by decide +kernel
theorem d_R_isTested_75 : decode b_R_isTested 75 = .ok (.iconst 0, 1) := by decide +kernel
theorem d_R_isTested_76 : decode b_R_isTested 76 = .ok (.invokevirtual 100, 3) := by decide +kernel
theorem d_R_isTested_79 : decode b_R_isTested 79 = .ok (.goto 8, 3) := by decide +kernel
theorem d_R_isTested_82 : decode b_R_isTested 82 = .ok (.aload_n 0, 1) := by decide +kernel
theorem d_R_isTested_83 : decode b_R_isTested 83 = .ok (.iload_n 1, 1) := by decide +kernel
theorem d_R_isTested_84 : decode b_R_isTested 84 = .ok (.invokevirtual 110, 3) := by decide +kernel
theorem d_R_isTested_87 : decode b_R_isTested 87 = .ok (.return_, 1) := by decide +kernel
