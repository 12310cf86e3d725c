theorem dX12_shortens_112 : decode cX12_shortens 112 = .ok (.iload_n 1, 1) := by decide +kernel
theorem dX12_shortens_113 : decode cX12_shortens 113 = .ok (.iload 6, 2) := by decide +kernel
theorem dX12_shortens_115 : decode cX12_shortens 115 = .ok (.invokevirtual 280, 3) := by decide +kernel
theorem dX12_shortens_118 : decode cX12_shortens 118 = .ok (.invokevirtual 262, 3) := by decide +kernel
theorem dX12_shortens_121 : decode cX12_shortens 121 = .ok (.iinc 6 1, 3) := by decide +kernel
theorem dX12_shortens_124 : decode cX12_shortens 124 = .ok (.goto (-27), 3) := by decide +kernel
theorem dX12_shortens_127 : decode cX12_shortens 127 = .ok (.iload 5, 2) := by decide +kernel
theorem dX12_shortens_129 : decode cX12_shortens 129 = .ok (.istore 6, 2) := by decide +kernel
theorem dX12_shortens_131 : decode cX12_shortens 131 = .ok (.iload 6, 2) := by decide +kernel
theorem dX12_shortens_133 : decode cX12_shortens 133 = .ok (.iload 4, 2) := by decide +kernel
theorem dX12_shortens_135 : decode cX12_shortens 135 = .ok (.if_icmp .ge 23, 3) := by decide +kernel
theorem dX12_shortens_138 : decode cX12_shortens 138 = .ok (.aload_n 0, 1) := by decide +kernel
theorem dX12_shortens_139 : decode cX12_shortens 139 = .ok (.aload_n 0, 1) := by decide +kernel
theorem dX12_shortens_140 : decode cX12_shortens 140 = .ok (.iload_n 1, 1) := by decide +kernel
theorem dX12_shortens_141 : decode cX12_shortens 141 = .ok (.bipush 18, 2) := by decide +kernel
theorem dX12_shortens_143 : decode cX12_shortens 143 = .ok (.iload 6, 2) := by decide +kernel
theorem dX12_shortens_145 : decode cX12_shortens 145 = .ok (.iadd, 1) := by decide +kernel
theorem dX12_shortens_146 : decode cX12_shortens 146 = .ok (.invokevirtual 246, 3) := by decide +kernel
theorem dX12_shortens_149 : decode cX12_shortens 149 = .ok (.invokevirtual 262, 3) := by decide +kernel
theorem dX12_shortens_152 : decode cX12_shortens 152 = .ok (.iinc 6 1, 3) := by decide +kernel
theorem dX12_shortens_155 : decode cX12_shortens 155 = .ok (.goto (-24), 3) := by decide +kernel
theorem dX12_shortens_158 : decode cX12_shortens 158 = .ok (.aload_n 0, 1) := by decide +kernel
theorem dX12_shortens_159 : decode cX12_shortens 159 = .ok (.invokevirtual 253, 3) := by decide +kernel
theorem dX12_shortens_162 : decode cX12_shortens 162 = .ok (.istore 6, 2) := by decide +kernel
theorem dX12_shortens_164 : decode cX12_shortens 164 = .ok (.return_, 1) := by decide +kernel
theorem dX12_dataComes_0 : decode cX12_dataComes 0 = .ok (.aload_n 0, 1) := by decide +kernel
theorem dX12_dataComes_1 : decode cX12_dataComes 1 = .ok (.getfield 45, 3) := by decide +kernel
theorem dX12_dataComes_4 : decode cX12_dataComes 4 = .ok (.iconst 2, 1) := by decide +kernel
theorem dX12_dataComes_5 : decode cX12_dataComes 5 = .ok (.iaload, 1) := by decide +kernel
theorem dX12_dataComes_6 : decode cX12_dataComes 6 = .ok (.istore_n 1, 1) := by decide +kernel
theorem dX12_dataComes_7 : decode cX12_dataComes 7 = .ok (.aload_n 0, 1) := by decide +kernel
theorem dX12_dataComes_8 : decode cX12_dataComes 8 = .ok (.getfield 45, 3) := by decide +kernel
theorem dX12_dataComes_11 : decode cX12_dataComes 11 = .ok (.iconst 1, 1) := by decide +kernel
theorem dX12_dataComes_12 : decode cX12_dataComes 12 = .ok (.iaload, 1) := by decide +kernel
theorem dX12_dataComes_13 : decode cX12_dataComes 13 = .ok (.istore_n 2, 1) := by decide +kernel
theorem dX12_dataComes_14 : decode cX12_dataComes 14 = .ok (.aload_n 0, 1) := by decide +kernel
theorem dX12_dataComes_15 : decode cX12_dataComes 15 = .ok (.iload_n 1, 1) := by decide +kernel
theorem dX12_dataComes_16 : decode cX12_dataComes 16 = .ok (.bipush 19, 2) := by decide +kernel
theorem dX12_dataComes_18 : decode cX12_dataComes 18 = .ok (.invokevirtual 246, 3) := by decide +kernel
theorem dX12_dataComes_21 : decode cX12_dataComes 21 = .ok (.istore_n 3, 1) := by decide +kernel
theorem dX12_dataComes_22 : decode cX12_dataComes 22 = .ok (.aload_n 0, 1) := by decide +kernel
theorem dX12_dataComes_23 : decode cX12_dataComes 23 = .ok (.iload_n 2, 1) := by decide +kernel
theorem dX12_dataComes_24 : decode cX12_dataComes 24 = .ok (.iload_n 3, 1) := by decide +kernel
theorem dX12_dataComes_25 : decode cX12_dataComes 25 = .ok (.invokevirtual 277, 3) := by decide +kernel
theorem dX12_dataComes_28 : decode cX12_dataComes 28 = .ok (.ifCond .ne 11, 3) := by decide +kernel
theorem dX12_dataComes_31 : decode cX12_dataComes 31 = .ok (.aload_n 0, 1) := by decide +kernel
theorem dX12_dataComes_32 : decode cX12_dataComes 32 = .ok (.iload_n 1, 1) := by decide +kernel
theorem dX12_dataComes_33 : decode cX12_dataComes 33 = .ok (.iload_n 2, 1) := by decide +kernel
theorem dX12_dataComes_34 : decode cX12_dataComes 34 = .ok (.iload_n 3, 1) := by decide +kernel
theorem dX12_dataComes_35 : decode cX12_dataComes 35 = .ok (.invokevirtual 298, 3) := by decide +kernel
theorem dX12_dataComes_38 : decode cX12_dataComes 38 = .ok (.return_, 1) := by decide +kernel
theorem dX12_dataComes_39 : decode cX12_dataComes 39 = .ok (.aload_n 0, 1) := by decide +kernel
theorem dX12_dataComes_40 : decode cX12_dataComes 40 = .ok (.iload_n 1, 1) := by decide +kernel
theorem dX12_dataComes_41 : decode cX12_dataComes 41 = .ok (.iload_n 3, 1) := by decide +kernel
theorem dX12_dataComes_42 : decode cX12_dataComes 42 = .ok (.invokevirtual 301, 3) := by decide +kernel
theorem dX12_dataComes_45 : decode cX12_dataComes 45 = .ok (.aload_n 0, 1) := by decide +kernel
theorem dX12_dataComes_46 : decode cX12_dataComes 46 = .ok (.iconst 0, 1) := by decide +kernel
theorem dX12_dataComes_47 : decode cX12_dataComes 47 = .ok (.putfield 186, 3) := by decide +kernel
theorem dX12_dataComes_50 : decode cX12_dataComes 50 = .ok (.iconst 0, 1) := by decide +kernel
theorem dX12_dataComes_51 : decode cX12_dataComes 51 = .ok (.istore 4, 2) := by decide +kernel
theorem dX12_dataComes_53 : decode cX12_dataComes 53 = .ok (.iload 4, 2) := by decide +kernel
theorem dX12_dataComes_55 : decode cX12_dataComes 55 = .ok (.aload_n 0, 1) := by decide +kernel
theorem dX12_dataComes_56 : decode cX12_dataComes 56 = .ok (.iload_n 1, 1) := by decide +kernel
theorem dX12_dataComes_57 : decode cX12_dataComes 57 = .ok (.iconst 5, 1) := by decide +kernel
theorem dX12_dataComes_58 : decode cX12_dataComes 58 = .ok (.invokevirtual 246, 3) := by decide +kernel
theorem dX12_dataComes_61 : decode cX12_dataComes 61 = .ok (.if_icmp .ge 23, 3) := by decide +kernel
theorem dX12_dataComes_64 : decode cX12_dataComes 64 = .ok (.aload_n 0, 1) := by decide +kernel
theorem dX12_dataComes_65 : decode cX12_dataComes 65 = .ok (.aload_n 0, 1) := by decide +kernel
theorem dX12_dataComes_66 : decode cX12_dataComes 66 = .ok (.iload_n 1, 1) := by decide +kernel
theorem dX12_dataComes_67 : decode cX12_dataComes 67 = .ok (.bipush 18, 2) := by decide +kernel
theorem dX12_dataComes_69 : decode cX12_dataComes 69 = .ok (.iload 4, 2) := by decide +kernel
theorem dX12_dataComes_71 : decode cX12_dataComes 71 = .ok (.iadd, 1) := by decide +kernel
theorem dX12_dataComes_72 : decode cX12_dataComes 72 = .ok (.invokevirtual 246, 3) := by decide +kernel
theorem dX12_dataComes_75 : decode cX12_dataComes 75 = .ok (.invokevirtual 295, 3) := by decide +kernel
theorem dX12_dataComes_78 : decode cX12_dataComes 78 = .ok (.iinc 4 1, 3) := by decide +kernel
theorem dX12_dataComes_81 : decode cX12_dataComes 81 = .ok (.goto (-28), 3) := by decide +kernel
theorem dX12_dataComes_84 : decode cX12_dataComes 84 = .ok (.aload_n 0, 1) := by decide +kernel
theorem dX12_dataComes_85 : decode cX12_dataComes 85 = .ok (.iload_n 3, 1) := by decide +kernel
theorem dX12_dataComes_86 : decode cX12_dataComes 86 = .ok (.invokevirtual 304, 3) := by decide +kernel
theorem dX12_dataComes_89 : decode cX12_dataComes 89 = .ok (.aload_n 0, 1) := by decide +kernel
theorem dX12_dataComes_90 : decode cX12_dataComes 90 = .ok (.iconst 0, 1) := by decide +kernel
theorem dX12_dataComes_91 : decode cX12_dataComes 91 = .ok (.putfield 186, 3) := by decide +kernel
theorem dX12_dataComes_94 : decode cX12_dataComes 94 = .ok (.aload_n 0, 1) := by decide +kernel
theorem dX12_dataComes_95 : decode cX12_dataComes 95 = .ok (.iload_n 1, 1) := by decide +kernel
theorem dX12_dataComes_96 : decode cX12_dataComes 96 = .ok (.aload_n 0, 1) := by decide +kernel
theorem dX12_dataComes_97 : decode cX12_dataComes 97 = .ok (.iload_n 1, 1) := by decide +kernel
theorem dX12_dataComes_98 : decode cX12_dataComes 98 = .ok (.iconst 4, 1) := by decide +kernel
theorem dX12_dataComes_99 : decode cX12_dataComes 99 = .ok (.invokevirtual 246, 3) := by decide +kernel
theorem dX12_dataComes_102 : decode cX12_dataComes 102 = .ok (.iconst 1, 1) := by decide +kernel
theorem dX12_dataComes_103 : decode cX12_dataComes 103 = .ok (.isub, 1) := by decide +kernel
theorem dX12_dataComes_104 : decode cX12_dataComes 104 = .ok (.invokevirtual 307, 3) := by decide +kernel
theorem dX12_dataComes_107 : decode cX12_dataComes 107 = .ok (.aload_n 0, 1) := by decide +kernel
theorem dX12_dataComes_108 : decode cX12_dataComes 108 = .ok (.iload_n 3, 1) := by decide +kernel
theorem dX12_dataComes_109 : decode cX12_dataComes 109 = .ok (.invokevirtual 304, 3) := by decide +kernel
theorem dX12_dataComes_112 : decode cX12_dataComes 112 = .ok (.iconst 0, 1) := by decide +kernel
theorem dX12_dataComes_113 : decode cX12_dataComes 113 = .ok (.istore 4, 2) := by decide +kernel
theorem dX12_dataComes_115 : decode cX12_dataComes 115 = .ok (.iload 4, 2) := by decide +kernel
theorem dX12_dataComes_117 : decode cX12_dataComes 117 = .ok (.aload_n 0, 1) := by decide +kernel
theorem dX12_dataComes_118 : decode cX12_dataComes 118 = .ok (.getfield 7, 3) := by decide +kernel
theorem dX12_dataComes_121 : decode cX12_dataComes 121 = .ok (.iconst 0, 1) := by decide +kernel
theorem dX12_dataComes_122 : decode cX12_dataComes 122 = .ok (.iaload, 1) := by decide +kernel
theorem dX12_dataComes_123 : decode cX12_dataComes 123 = .ok (.if_icmp .ge 79, 3) := by decide +kernel
theorem dX12_dataComes_126 : decode cX12_dataComes 126 = .ok (.aload_n 0, 1) := by decide +kernel
theorem dX12_dataComes_127 : decode cX12_dataComes 127 = .ok (.iload_n 2, 1) := by decide +kernel
theorem dX12_dataComes_128 : decode cX12_dataComes 128 = .ok (.iload 4, 2) := by decide +kernel
theorem dX12_dataComes_130 : decode cX12_dataComes 130 = .ok (.invokevirtual 310, 3) := by decide +kernel
theorem dX12_dataComes_133 : decode cX12_dataComes 133 = .ok (.ifCond .eq 63, 3) := by decide +kernel
theorem dX12_dataComes_136 : decode cX12_dataComes 136 = .ok (.aload_n 0, 1) := by decide +kernel
theorem dX12_dataComes_137 : decode cX12_dataComes 137 = .ok (.iload 4, 2) := by decide +kernel
theorem dX12_dataComes_139 : decode cX12_dataComes 139 = .ok (.iconst 1, 1) := by decide +kernel
theorem dX12_dataComes_140 : decode cX12_dataComes 140 = .ok (.invokevirtual 180, 3) := by decide +kernel
theorem dX12_dataComes_143 : decode cX12_dataComes 143 = .ok (.iconst 1, 1) := by decide +kernel
theorem dX12_dataComes_144 : decode cX12_dataComes 144 = .ok (.if_icmp .ne 52, 3) := by decide +kernel
theorem dX12_dataComes_147 : decode cX12_dataComes 147 = .ok (.aload_n 0, 1) := by decide +kernel
theorem dX12_dataComes_148 : decode cX12_dataComes 148 = .ok (.iload_n 1, 1) := by decide +kernel
theorem dX12_dataComes_149 : decode cX12_dataComes 149 = .ok (.iload 4, 2) := by decide +kernel
theorem dX12_dataComes_151 : decode cX12_dataComes 151 = .ok (.aload_n 0, 1) := by decide +kernel
theorem dX12_dataComes_152 : decode cX12_dataComes 152 = .ok (.iload_n 1, 1) := by decide +kernel
theorem dX12_dataComes_153 : decode cX12_dataComes 153 = .ok (.iconst 4, 1) := by decide +kernel
theorem dX12_dataComes_154 : decode cX12_dataComes 154 = .ok (.invokevirtual 246, 3) := by decide +kernel
theorem dX12_dataComes_157 : decode cX12_dataComes 157 = .ok (.invokevirtual 283, 3) := by decide +kernel
theorem dX12_dataComes_160 : decode cX12_dataComes 160 = .ok (.ifCond .ne 36, 3) := by decide +kernel
theorem dX12_dataComes_163 : decode cX12_dataComes 163 = .ok (.aload_n 0, 1) := by decide +kernel
theorem dX12_dataComes_164 : decode cX12_dataComes 164 = .ok (.iload 4, 2) := by decide +kernel
theorem dX12_dataComes_166 : decode cX12_dataComes 166 = .ok (.invokevirtual 313, 3) := by decide +kernel
theorem dX12_dataComes_169 : decode cX12_dataComes 169 = .ok (.aload_n 0, 1) := by decide +kernel
theorem dX12_dataComes_170 : decode cX12_dataComes 170 = .ok (.iload_n 1, 1) := by decide +kernel
theorem dX12_dataComes_171 : decode cX12_dataComes 171 = .ok (.aload_n 0, 1) := by decide +kernel
theorem dX12_dataComes_172 : decode cX12_dataComes 172 = .ok (.iload_n 1, 1) := by decide +kernel
theorem dX12_dataComes_173 : decode cX12_dataComes 173 = .ok (.iconst 4, 1) := by decide +kernel
theorem dX12_dataComes_174 : decode cX12_dataComes 174 = .ok (.invokevirtual 246, 3) := by decide +kernel
theorem dX12_dataComes_177 : decode cX12_dataComes 177 = .ok (.iconst 2, 1) := by decide +kernel
theorem dX12_dataComes_178 : decode cX12_dataComes 178 = .ok (.isub, 1) := by decide +kernel
theorem dX12_dataComes_179 : decode cX12_dataComes 179 = .ok (.invokevirtual 307, 3) := by decide +kernel
theorem dX12_dataComes_182 : decode cX12_dataComes 182 = .ok (.aload_n 0, 1) := by decide +kernel
theorem dX12_dataComes_183 : decode cX12_dataComes 183 = .ok (.iload 4, 2) := by decide +kernel
theorem dX12_dataComes_185 : decode cX12_dataComes 185 = .ok (.invokevirtual 304, 3) := by decide +kernel
theorem dX12_dataComes_188 : decode cX12_dataComes 188 = .ok (.aload_n 0, 1) := by decide +kernel
theorem dX12_dataComes_189 : decode cX12_dataComes 189 = .ok (.iload_n 1, 1) := by decide +kernel
theorem dX12_dataComes_190 : decode cX12_dataComes 190 = .ok (.iload_n 2, 1) := by decide +kernel
theorem dX12_dataComes_191 : decode cX12_dataComes 191 = .ok (.iload 4, 2) := by decide +kernel
theorem dX12_dataComes_193 : decode cX12_dataComes 193 = .ok (.invokevirtual 316, 3) := by decide +kernel
theorem dX12_dataComes_196 : decode cX12_dataComes 196 = .ok (.iinc 4 1, 3) := by decide +kernel
theorem dX12_dataComes_199 : decode cX12_dataComes 199 = .ok (.goto (-84), 3) := by decide +kernel
theorem dX12_dataComes_202 : decode cX12_dataComes 202 = .ok (.iload_n 3, 1) := by decide +kernel
theorem dX12_dataComes_203 : decode cX12_dataComes 203 = .ok (.aload_n 0, 1) := by decide +kernel
theorem dX12_dataComes_204 : decode cX12_dataComes 204 = .ok (.iload_n 1, 1) := by decide +kernel
theorem dX12_dataComes_205 : decode cX12_dataComes 205 = .ok (.iconst 1, 1) := by decide +kernel
theorem dX12_dataComes_206 : decode cX12_dataComes 206 = .ok (.invokevirtual 246, 3) := by decide +kernel
theorem dX12_dataComes_209 : decode cX12_dataComes 209 = .ok (.if_icmp .ne 12, 3) := by decide +kernel
theorem dX12_dataComes_212 : decode cX12_dataComes 212 = .ok (.aload_n 0, 1) := by decide +kernel
theorem dX12_dataComes_213 : decode cX12_dataComes 213 = .ok (.iload_n 1, 1) := by decide +kernel
theorem dX12_dataComes_214 : decode cX12_dataComes 214 = .ok (.iconst 2, 1) := by decide +kernel
theorem dX12_dataComes_215 : decode cX12_dataComes 215 = .ok (.invokevirtual 256, 3) := by decide +kernel
theorem dX12_dataComes_218 : decode cX12_dataComes 218 = .ok (.goto 8, 3) := by decide +kernel
theorem dX12_dataComes_221 : decode cX12_dataComes 221 = .ok (.aload_n 0, 1) := by decide +kernel
theorem dX12_dataComes_222 : decode cX12_dataComes 222 = .ok (.iload_n 1, 1) := by decide +kernel
theorem dX12_dataComes_223 : decode cX12_dataComes 223 = .ok (.invokevirtual 259, 3) := by decide +kernel
theorem dX12_dataComes_226 : decode cX12_dataComes 226 = .ok (.return_, 1) := by decide +kernel
theorem dX12_hasSeen_0 : decode cX12_hasSeen 0 = .ok (.iconst 0, 1) := by decide +kernel
theorem dX12_hasSeen_1 : decode cX12_hasSeen 1 = .ok (.istore 4, 2) := by decide +kernel
theorem dX12_hasSeen_3 : decode cX12_hasSeen 3 = .ok (.iload 4, 2) := by decide +kernel
theorem dX12_hasSeen_5 : decode cX12_hasSeen 5 = .ok (.aload_n 0, 1) := by decide +kernel
theorem dX12_hasSeen_6 : decode cX12_hasSeen 6 = .ok (.iload_n 1, 1) := by decide +kernel
theorem dX12_hasSeen_7 : decode cX12_hasSeen 7 = .ok (.bipush 6, 2) := by decide +kernel
theorem dX12_hasSeen_9 : decode cX12_hasSeen 9 = .ok (.invokevirtual 180, 3) := by decide +kernel
theorem dX12_hasSeen_12 : decode cX12_hasSeen 12 = .ok (.if_icmp .ge 45, 3) := by decide +kernel
theorem dX12_hasSeen_15 : decode cX12_hasSeen 15 = .ok (.aload_n 0, 1) := by decide +kernel
theorem dX12_hasSeen_16 : decode cX12_hasSeen 16 = .ok (.iload_n 1, 1) := by decide +kernel
theorem dX12_hasSeen_17 : decode cX12_hasSeen 17 = .ok (.bipush 69, 2) := by decide +kernel
theorem dX12_hasSeen_19 : decode cX12_hasSeen 19 = .ok (.iconst 2, 1) := by decide +kernel
theorem dX12_hasSeen_20 : decode cX12_hasSeen 20 = .ok (.iload 4, 2) := by decide +kernel
theorem dX12_hasSeen_22 : decode cX12_hasSeen 22 = .ok (.imul, 1) := by decide +kernel
theorem dX12_hasSeen_23 : decode cX12_hasSeen 23 = .ok (.iadd, 1) := by decide +kernel
theorem dX12_hasSeen_24 : decode cX12_hasSeen 24 = .ok (.invokevirtual 180, 3) := by decide +kernel
theorem dX12_hasSeen_27 : decode cX12_hasSeen 27 = .ok (.iload_n 2, 1) := by decide +kernel
theorem dX12_hasSeen_28 : decode cX12_hasSeen 28 = .ok (.if_icmp .ne 23, 3) := by decide +kernel
theorem dX12_hasSeen_31 : decode cX12_hasSeen 31 = .ok (.aload_n 0, 1) := by decide +kernel
theorem dX12_hasSeen_32 : decode cX12_hasSeen 32 = .ok (.iload_n 1, 1) := by decide +kernel
theorem dX12_hasSeen_33 : decode cX12_hasSeen 33 = .ok (.bipush 69, 2) := by decide +kernel
theorem dX12_hasSeen_35 : decode cX12_hasSeen 35 = .ok (.iconst 2, 1) := by decide +kernel
theorem dX12_hasSeen_36 : decode cX12_hasSeen 36 = .ok (.iload 4, 2) := by decide +kernel
theorem dX12_hasSeen_38 : decode cX12_hasSeen 38 = .ok (.imul, 1) := by decide +kernel
theorem dX12_hasSeen_39 : decode cX12_hasSeen 39 = .ok (.iadd, 1) := by decide +kernel
theorem dX12_hasSeen_40 : decode cX12_hasSeen 40 = .ok (.iconst 1, 1) := by decide +kernel
theorem dX12_hasSeen_41 : decode cX12_hasSeen 41 = .ok (.iadd, 1) := by decide +kernel
theorem dX12_hasSeen_42 : decode cX12_hasSeen 42 = .ok (.invokevirtual 180, 3) := by decide +kernel
theorem dX12_hasSeen_45 : decode cX12_hasSeen 45 = .ok (.iload_n 3, 1) := by decide +kernel
theorem dX12_hasSeen_46 : decode cX12_hasSeen 46 = .ok (.if_icmp .ne 5, 3) := by decide +kernel
theorem dX12_hasSeen_49 : decode cX12_hasSeen 49 = .ok (.iconst 1, 1) := by decide +kernel
theorem dX12_hasSeen_50 : decode cX12_hasSeen 50 = .ok (.ireturn, 1) := by decide +kernel
theorem dX12_hasSeen_51 : decode cX12_hasSeen 51 = .ok (.iinc 4 1, 3) := by decide +kernel
theorem dX12_hasSeen_54 : decode cX12_hasSeen 54 = .ok (.goto (-51), 3) := by decide +kernel
theorem dX12_hasSeen_57 : decode cX12_hasSeen 57 = .ok (.iconst 0, 1) := by decide +kernel
theorem dX12_hasSeen_58 : decode cX12_hasSeen 58 = .ok (.ireturn, 1) := by decide +kernel
theorem dX12_sees_0 : decode cX12_sees 0 = .ok (.aload_n 0, 1) := by decide +kernel
theorem dX12_sees_1 : decode cX12_sees 1 = .ok (.iload_n 1, 1) := by decide +kernel
theorem dX12_sees_2 : decode cX12_sees 2 = .ok (.bipush 6, 2) := by decide +kernel
theorem dX12_sees_4 : decode cX12_sees 4 = .ok (.invokevirtual 180, 3) := by decide +kernel
theorem dX12_sees_7 : decode cX12_sees 7 = .ok (.aload_n 0, 1) := by decide +kernel
theorem dX12_sees_8 : decode cX12_sees 8 = .ok (.getfield 7, 3) := by decide +kernel
theorem dX12_sees_11 : decode cX12_sees 11 = .ok (.iconst 3, 1) := by decide +kernel
theorem dX12_sees_12 : decode cX12_sees 12 = .ok (.iaload, 1) := by decide +kernel
theorem dX12_sees_13 : decode cX12_sees 13 = .ok (.iconst 1, 1) := by decide +kernel
theorem dX12_sees_14 : decode cX12_sees 14 = .ok (.isub, 1) := by decide +kernel
theorem dX12_sees_15 : decode cX12_sees 15 = .ok (.invokestatic 63, 3) := by decide +kernel
theorem dX12_sees_18 : decode cX12_sees 18 = .ok (.istore 4, 2) := by decide +kernel
theorem dX12_sees_20 : decode cX12_sees 20 = .ok (.iconst 2, 1) := by decide +kernel
theorem dX12_sees_21 : decode cX12_sees 21 = .ok (.iload 4, 2) := by decide +kernel
theorem dX12_sees_23 : decode cX12_sees 23 = .ok (.imul, 1) := by decide +kernel
theorem dX12_sees_24 : decode cX12_sees 24 = .ok (.iconst 1, 1) := by decide +kernel
theorem dX12_sees_25 : decode cX12_sees 25 = .ok (.iadd, 1) := by decide +kernel
theorem dX12_sees_26 : decode cX12_sees 26 = .ok (.istore 5, 2) := by decide +kernel
theorem dX12_sees_28 : decode cX12_sees 28 = .ok (.iload 5, 2) := by decide +kernel
theorem dX12_sees_30 : decode cX12_sees 30 = .ok (.iconst 2, 1) := by decide +kernel
theorem dX12_sees_31 : decode cX12_sees 31 = .ok (.if_icmp .lt 31, 3) := by decide +kernel
theorem dX12_sees_34 : decode cX12_sees 34 = .ok (.aload_n 0, 1) := by decide +kernel
theorem dX12_sees_35 : decode cX12_sees 35 = .ok (.iload_n 1, 1) := by decide +kernel
theorem dX12_sees_36 : decode cX12_sees 36 = .ok (.bipush 69, 2) := by decide +kernel
theorem dX12_sees_38 : decode cX12_sees 38 = .ok (.iload 5, 2) := by decide +kernel
theorem dX12_sees_40 : decode cX12_sees 40 = .ok (.iadd, 1) := by decide +kernel
theorem dX12_sees_41 : decode cX12_sees 41 = .ok (.aload_n 0, 1) := by decide +kernel
theorem dX12_sees_42 : decode cX12_sees 42 = .ok (.iload_n 1, 1) := by decide +kernel
theorem dX12_sees_43 : decode cX12_sees 43 = .ok (.bipush 69, 2) := by decide +kernel
theorem dX12_sees_45 : decode cX12_sees 45 = .ok (.iload 5, 2) := by decide +kernel
theorem dX12_sees_47 : decode cX12_sees 47 = .ok (.iadd, 1) := by decide +kernel
theorem dX12_sees_48 : decode cX12_sees 48 = .ok (.iconst 2, 1) := by decide +kernel
theorem dX12_sees_49 : decode cX12_sees 49 = .ok (.isub, 1) := by decide +kernel
theorem dX12_sees_50 : decode cX12_sees 50 = .ok (.invokevirtual 180, 3) := by decide +kernel
theorem dX12_sees_53 : decode cX12_sees 53 = .ok (.invokevirtual 170, 3) := by decide +kernel
theorem dX12_sees_56 : decode cX12_sees 56 = .ok (.iinc 5 (-1), 3) := by decide +kernel
theorem dX12_sees_59 : decode cX12_sees 59 = .ok (.goto (-31), 3) := by decide +kernel
theorem dX12_sees_62 : decode cX12_sees 62 = .ok (.aload_n 0, 1) := by decide +kernel
theorem dX12_sees_63 : decode cX12_sees 63 = .ok (.iload_n 1, 1) := by decide +kernel
theorem dX12_sees_64 : decode cX12_sees 64 = .ok (.bipush 69, 2) := by decide +kernel
theorem dX12_sees_66 : decode cX12_sees 66 = .ok (.iload_n 2, 1) := by decide +kernel
theorem dX12_sees_67 : decode cX12_sees 67 = .ok (.invokevirtual 170, 3) := by decide +kernel
theorem dX12_sees_70 : decode cX12_sees 70 = .ok (.aload_n 0, 1) := by decide +kernel
theorem dX12_sees_71 : decode cX12_sees 71 = .ok (.iload_n 1, 1) := by decide +kernel
theorem dX12_sees_72 : decode cX12_sees 72 = .ok (.bipush 70, 2) := by decide +kernel
theorem dX12_sees_74 : decode cX12_sees 74 = .ok (.iload_n 3, 1) := by decide +kernel
theorem dX12_sees_75 : decode cX12_sees 75 = .ok (.invokevirtual 170, 3) := by decide +kernel
theorem dX12_sees_78 : decode cX12_sees 78 = .ok (.aload_n 0, 1) := by decide +kernel
theorem dX12_sees_79 : decode cX12_sees 79 = .ok (.iload_n 1, 1) := by decide +kernel
theorem dX12_sees_80 : decode cX12_sees 80 = .ok (.bipush 6, 2) := by decide +kernel
theorem dX12_sees_82 : decode cX12_sees 82 = .ok (.iload 4, 2) := by decide +kernel
theorem dX12_sees_84 : decode cX12_sees 84 = .ok (.iconst 1, 1) := by decide +kernel
theorem dX12_sees_85 : decode cX12_sees 85 = .ok (.iadd, 1) := by decide +kernel
theorem dX12_sees_86 : decode cX12_sees 86 = .ok (.invokevirtual 170, 3) := by decide +kernel
theorem dX12_sees_89 : decode cX12_sees 89 = .ok (.return_, 1) := by decide +kernel
theorem dX12_isRoute_0 : decode cX12_isRoute 0 = .ok (.aload_n 0, 1) := by decide +kernel
theorem dX12_isRoute_1 : decode cX12_isRoute 1 = .ok (.getfield 45, 3) := by decide +kernel
theorem dX12_isRoute_4 : decode cX12_isRoute 4 = .ok (.bipush 6, 2) := by decide +kernel
theorem dX12_isRoute_6 : decode cX12_isRoute 6 = .ok (.iaload, 1) := by decide +kernel
theorem dX12_isRoute_7 : decode cX12_isRoute 7 = .ok (.aload_n 0, 1) := by decide +kernel
theorem dX12_isRoute_8 : decode cX12_isRoute 8 = .ok (.getfield 231, 3) := by decide +kernel
theorem dX12_isRoute_11 : decode cX12_isRoute 11 = .ok (.iadd, 1) := by decide +kernel
theorem dX12_isRoute_12 : decode cX12_isRoute 12 = .ok (.iconst 1, 1) := by decide +kernel
theorem dX12_isRoute_13 : decode cX12_isRoute 13 = .ok (.isub, 1) := by decide +kernel
theorem dX12_isRoute_14 : decode cX12_isRoute 14 = .ok (.aload_n 0, 1) := by decide +kernel
theorem dX12_isRoute_15 : decode cX12_isRoute 15 = .ok (.getfield 7, 3) := by decide +kernel
theorem dX12_isRoute_18 : decode cX12_isRoute 18 = .ok (.iconst 1, 1) := by decide +kernel
theorem dX12_isRoute_19 : decode cX12_isRoute 19 = .ok (.iaload, 1) := by decide +kernel
theorem dX12_isRoute_20 : decode cX12_isRoute 20 = .ok (.if_icmp .gt 7, 3) := by decide +kernel
theorem dX12_isRoute_23 : decode cX12_isRoute 23 = .ok (.iconst 1, 1) := by decide +kernel
theorem dX12_isRoute_24 : decode cX12_isRoute 24 = .ok (.goto 4, 3) := by decide +kernel
theorem dX12_isRoute_27 : decode cX12_isRoute 27 = .ok (.iconst 0, 1) := by decide +kernel
theorem dX12_isRoute_28 : decode cX12_isRoute 28 = .ok (.istore_n 1, 1) := by decide +kernel
theorem dX12_isRoute_29 : decode cX12_isRoute 29 = .ok (.iconst 0, 1) := by decide +kernel
theorem dX12_isRoute_30 : decode cX12_isRoute 30 = .ok (.istore_n 2, 1) := by decide +kernel
theorem dX12_isRoute_31 : decode cX12_isRoute 31 = .ok (.iload_n 2, 1) := by decide +kernel
theorem dX12_isRoute_32 : decode cX12_isRoute 32 = .ok (.aload_n 0, 1) := by decide +kernel
theorem dX12_isRoute_33 : decode cX12_isRoute 33 = .ok (.getfield 231, 3) := by decide +kernel
theorem dX12_isRoute_36 : decode cX12_isRoute 36 = .ok (.if_icmp .ge 33, 3) := by decide +kernel
theorem dX12_isRoute_39 : decode cX12_isRoute 39 = .ok (.iload_n 1, 1) := by decide +kernel
theorem dX12_isRoute_40 : decode cX12_isRoute 40 = .ok (.ifCond .eq 29, 3) := by decide +kernel
theorem dX12_isRoute_43 : decode cX12_isRoute 43 = .ok (.aload_n 0, 1) := by decide +kernel
theorem dX12_isRoute_44 : decode cX12_isRoute 44 = .ok (.aload_n 0, 1) := by decide +kernel
theorem dX12_isRoute_45 : decode cX12_isRoute 45 = .ok (.getfield 33, 3) := by decide +kernel
theorem dX12_isRoute_48 : decode cX12_isRoute 48 = .ok (.iload_n 2, 1) := by decide +kernel
theorem dX12_isRoute_49 : decode cX12_isRoute 49 = .ok (.iaload, 1) := by decide +kernel
theorem dX12_isRoute_50 : decode cX12_isRoute 50 = .ok (.iconst 0, 1) := by decide +kernel
theorem dX12_isRoute_51 : decode cX12_isRoute 51 = .ok (.invokevirtual 319, 3) := by decide +kernel
theorem dX12_isRoute_54 : decode cX12_isRoute 54 = .ok (.ifCond .ne 7, 3) := by decide +kernel
theorem dX12_isRoute_57 : decode cX12_isRoute 57 = .ok (.iconst 1, 1) := by decide +kernel
theorem dX12_isRoute_58 : decode cX12_isRoute 58 = .ok (.goto 4, 3) := by decide +kernel
theorem dX12_isRoute_61 : decode cX12_isRoute 61 = .ok (.iconst 0, 1) := by decide +kernel
theorem dX12_isRoute_62 : decode cX12_isRoute 62 = .ok (.istore_n 1, 1) := by decide +kernel
theorem dX12_isRoute_63 : decode cX12_isRoute 63 = .ok (.iinc 2 1, 3) := by decide +kernel
theorem dX12_isRoute_66 : decode cX12_isRoute 66 = .ok (.goto (-35), 3) := by decide +kernel
theorem dX12_isRoute_69 : decode cX12_isRoute 69 = .ok (.iload_n 1, 1) := by decide +kernel
theorem dX12_isRoute_70 : decode cX12_isRoute 70 = .ok (.ireturn, 1) := by decide +kernel
theorem dX12_answers_0 : decode cX12_answers 0 = .ok (.iload_n 1, 1) := by decide +kernel
theorem dX12_answers_1 : decode cX12_answers 1 = .ok (.iload_n 2, 1) := by decide +kernel
theorem dX12_answers_2 : decode cX12_answers 2 = .ok (.if_icmp .eq 23, 3) := by decide +kernel
theorem dX12_answers_5 : decode cX12_answers 5 = .ok (.aload_n 0, 1) := by decide +kernel
theorem dX12_answers_6 : decode cX12_answers 6 = .ok (.iload_n 1, 1) := by decide +kernel
theorem dX12_answers_7 : decode cX12_answers 7 = .ok (.iload_n 2, 1) := by decide +kernel
theorem dX12_answers_8 : decode cX12_answers 8 = .ok (.invokevirtual 265, 3) := by decide +kernel
theorem dX12_answers_11 : decode cX12_answers 11 = .ok (.ifCond .eq 14, 3) := by decide +kernel
theorem dX12_answers_14 : decode cX12_answers 14 = .ok (.aload_n 0, 1) := by decide +kernel
theorem dX12_answers_15 : decode cX12_answers 15 = .ok (.invokevirtual 322, 3) := by decide +kernel
theorem dX12_answers_18 : decode cX12_answers 18 = .ok (.ifCond .eq 7, 3) := by decide +kernel
theorem dX12_answers_21 : decode cX12_answers 21 = .ok (.iconst 1, 1) := by decide +kernel
theorem dX12_answers_22 : decode cX12_answers 22 = .ok (.goto 4, 3) := by decide +kernel
theorem dX12_answers_25 : decode cX12_answers 25 = .ok (.iconst 0, 1) := by decide +kernel
theorem dX12_answers_26 : decode cX12_answers 26 = .ok (.istore_n 3, 1) := by decide +kernel
theorem dX12_answers_27 : decode cX12_answers 27 = .ok (.iload_n 1, 1) := by decide +kernel
theorem dX12_answers_28 : decode cX12_answers 28 = .ok (.iload_n 2, 1) := by decide +kernel
theorem dX12_answers_29 : decode cX12_answers 29 = .ok (.if_icmp .eq 7, 3) := by decide +kernel
theorem dX12_answers_32 : decode cX12_answers 32 = .ok (.iload_n 3, 1) := by decide +kernel
theorem dX12_answers_33 : decode cX12_answers 33 = .ok (.ifCond .eq 16, 3) := by decide +kernel
theorem dX12_answers_36 : decode cX12_answers 36 = .ok (.aload_n 0, 1) := by decide +kernel
theorem dX12_answers_37 : decode cX12_answers 37 = .ok (.iconst 2, 1) := by decide +kernel
theorem dX12_answers_38 : decode cX12_answers 38 = .ok (.iload_n 1, 1) := by decide +kernel
theorem dX12_answers_39 : decode cX12_answers 39 = .ok (.iconst (-1), 1) := by decide +kernel
theorem dX12_answers_40 : decode cX12_answers 40 = .ok (.iconst (-1), 1) := by decide +kernel
theorem dX12_answers_41 : decode cX12_answers 41 = .ok (.iconst (-1), 1) := by decide +kernel
theorem dX12_answers_42 : decode cX12_answers 42 = .ok (.iconst (-1), 1) := by decide +kernel
theorem dX12_answers_43 : decode cX12_answers 43 = .ok (.invokevirtual 249, 3) := by decide +kernel
theorem dX12_answers_46 : decode cX12_answers 46 = .ok (.goto 43, 3) := by decide +kernel
theorem dX12_answers_49 : decode cX12_answers 49 = .ok (.aload_n 0, 1) := by decide +kernel
theorem dX12_answers_50 : decode cX12_answers 50 = .ok (.getfield 45, 3) := by decide +kernel
theorem dX12_answers_53 : decode cX12_answers 53 = .ok (.bipush 6, 2) := by decide +kernel
theorem dX12_answers_55 : decode cX12_answers 55 = .ok (.iaload, 1) := by decide +kernel
theorem dX12_answers_56 : decode cX12_answers 56 = .ok (.aload_n 0, 1) := by decide +kernel
theorem dX12_answers_57 : decode cX12_answers 57 = .ok (.getfield 7, 3) := by decide +kernel
theorem dX12_answers_60 : decode cX12_answers 60 = .ok (.iconst 1, 1) := by decide +kernel
theorem dX12_answers_61 : decode cX12_answers 61 = .ok (.iaload, 1) := by decide +kernel
theorem dX12_answers_62 : decode cX12_answers 62 = .ok (.if_icmp .ge 26, 3) := by decide +kernel
theorem dX12_answers_65 : decode cX12_answers 65 = .ok (.aload_n 0, 1) := by decide +kernel
theorem dX12_answers_66 : decode cX12_answers 66 = .ok (.iconst 1, 1) := by decide +kernel
theorem dX12_answers_67 : decode cX12_answers 67 = .ok (.iload_n 1, 1) := by decide +kernel
theorem dX12_answers_68 : decode cX12_answers 68 = .ok (.iload_n 2, 1) := by decide +kernel
theorem dX12_answers_69 : decode cX12_answers 69 = .ok (.aload_n 0, 1) := by decide +kernel
theorem dX12_answers_70 : decode cX12_answers 70 = .ok (.getfield 45, 3) := by decide +kernel
theorem dX12_answers_73 : decode cX12_answers 73 = .ok (.iconst 3, 1) := by decide +kernel
theorem dX12_answers_74 : decode cX12_answers 74 = .ok (.iaload, 1) := by decide +kernel
theorem dX12_answers_75 : decode cX12_answers 75 = .ok (.aload_n 0, 1) := by decide +kernel
theorem dX12_answers_76 : decode cX12_answers 76 = .ok (.getfield 45, 3) := by decide +kernel
theorem dX12_answers_79 : decode cX12_answers 79 = .ok (.iconst 4, 1) := by decide +kernel
theorem dX12_answers_80 : decode cX12_answers 80 = .ok (.iaload, 1) := by decide +kernel
theorem dX12_answers_81 : decode cX12_answers 81 = .ok (.iconst (-1), 1) := by decide +kernel
theorem dX12_answers_82 : decode cX12_answers 82 = .ok (.invokevirtual 249, 3) := by decide +kernel
theorem dX12_answers_85 : decode cX12_answers 85 = .ok (.goto 4, 3) := by decide +kernel
theorem dX12_answers_88 : decode cX12_answers 88 = .ok (.return_, 1) := by decide +kernel
theorem dX12_answers_89 : decode cX12_answers 89 = .ok (.iconst 0, 1) := by decide +kernel
theorem dX12_answers_90 : decode cX12_answers 90 = .ok (.istore 4, 2) := by decide +kernel
theorem dX12_answers_92 : decode cX12_answers 92 = .ok (.iload 4, 2) := by decide +kernel
theorem dX12_answers_94 : decode cX12_answers 94 = .ok (.aload_n 0, 1) := by decide +kernel
theorem dX12_answers_95 : decode cX12_answers 95 = .ok (.getfield 45, 3) := by decide +kernel
theorem dX12_answers_98 : decode cX12_answers 98 = .ok (.bipush 6, 2) := by decide +kernel
theorem dX12_answers_100 : decode cX12_answers 100 = .ok (.iaload, 1) := by decide +kernel
theorem dX12_answers_101 : decode cX12_answers 101 = .ok (.if_icmp .ge 19, 3) := by decide +kernel
theorem dX12_answers_104 : decode cX12_answers 104 = .ok (.aload_n 0, 1) := by decide +kernel
theorem dX12_answers_105 : decode cX12_answers 105 = .ok (.aload_n 0, 1) := by decide +kernel
theorem dX12_answers_106 : decode cX12_answers 106 = .ok (.iload 4, 2) := by decide +kernel
theorem dX12_answers_108 : decode cX12_answers 108 = .ok (.invokevirtual 274, 3) := by decide +kernel
theorem dX12_answers_111 : decode cX12_answers 111 = .ok (.invokevirtual 262, 3) := by decide +kernel
theorem dX12_answers_114 : decode cX12_answers 114 = .ok (.iinc 4 1, 3) := by decide +kernel
theorem dX12_answers_117 : decode cX12_answers 117 = .ok (.goto (-25), 3) := by decide +kernel
theorem dX12_answers_120 : decode cX12_answers 120 = .ok (.aload_n 0, 1) := by decide +kernel
theorem dX12_answers_121 : decode cX12_answers 121 = .ok (.iload_n 1, 1) := by decide +kernel
theorem dX12_answers_122 : decode cX12_answers 122 = .ok (.invokevirtual 262, 3) := by decide +kernel
theorem dX12_answers_125 : decode cX12_answers 125 = .ok (.iconst 1, 1) := by decide +kernel
theorem dX12_answers_126 : decode cX12_answers 126 = .ok (.istore 4, 2) := by decide +kernel
theorem dX12_answers_128 : decode cX12_answers 128 = .ok (.iload_n 3, 1) := by decide +kernel
theorem dX12_answers_129 : decode cX12_answers 129 = .ok (.ifCond .eq 29, 3) := by decide +kernel
theorem dX12_answers_132 : decode cX12_answers 132 = .ok (.iload 4, 2) := by decide +kernel
theorem dX12_answers_134 : decode cX12_answers 134 = .ok (.aload_n 0, 1) := by decide +kernel
theorem dX12_answers_135 : decode cX12_answers 135 = .ok (.getfield 231, 3) := by decide +kernel
theorem dX12_answers_138 : decode cX12_answers 138 = .ok (.if_icmp .ge 20, 3) := by decide +kernel
theorem dX12_answers_141 : decode cX12_answers 141 = .ok (.aload_n 0, 1) := by decide +kernel
theorem dX12_answers_142 : decode cX12_answers 142 = .ok (.aload_n 0, 1) := by decide +kernel
theorem dX12_answers_143 : decode cX12_answers 143 = .ok (.getfield 33, 3) := by decide +kernel
theorem dX12_answers_146 : decode cX12_answers 146 = .ok (.iload 4, 2) := by decide +kernel
theorem dX12_answers_148 : decode cX12_answers 148 = .ok (.iaload, 1) := by decide +kernel
theorem dX12_answers_149 : decode cX12_answers 149 = .ok (.invokevirtual 262, 3) := by decide +kernel
theorem dX12_answers_152 : decode cX12_answers 152 = .ok (.iinc 4 1, 3) := by decide +kernel
theorem dX12_answers_155 : decode cX12_answers 155 = .ok (.goto (-27), 3) := by decide +kernel
theorem dX12_answers_158 : decode cX12_answers 158 = .ok (.aload_n 0, 1) := by decide +kernel
theorem dX12_answers_159 : decode cX12_answers 159 = .ok (.invokevirtual 253, 3) := by decide +kernel
theorem dX12_answers_162 : decode cX12_answers 162 = .ok (.istore 4, 2) := by decide +kernel
theorem dX12_answers_164 : decode cX12_answers 164 = .ok (.return_, 1) := by decide +kernel
theorem dX12_requestComes_0 : decode cX12_requestComes 0 = .ok (.aload_n 0, 1) := by decide +kernel
theorem dX12_requestComes_1 : decode cX12_requestComes 1 = .ok (.getfield 45, 3) := by decide +kernel
theorem dX12_requestComes_4 : decode cX12_requestComes 4 = .ok (.iconst 1, 1) := by decide +kernel
theorem dX12_requestComes_5 : decode cX12_requestComes 5 = .ok (.iaload, 1) := by decide +kernel
theorem dX12_requestComes_6 : decode cX12_requestComes 6 = .ok (.istore_n 1, 1) := by decide +kernel
theorem dX12_requestComes_7 : decode cX12_requestComes 7 = .ok (.iconst 0, 1) := by decide +kernel
theorem dX12_requestComes_8 : decode cX12_requestComes 8 = .ok (.istore_n 2, 1) := by decide +kernel
theorem dX12_requestComes_9 : decode cX12_requestComes 9 = .ok (.iload_n 2, 1) := by decide +kernel
theorem dX12_requestComes_10 : decode cX12_requestComes 10 = .ok (.aload_n 0, 1) := by decide +kernel
theorem dX12_requestComes_11 : decode cX12_requestComes 11 = .ok (.getfield 7, 3) := by decide +kernel
theorem dX12_requestComes_14 : decode cX12_requestComes 14 = .ok (.iconst 0, 1) := by decide +kernel
theorem dX12_requestComes_15 : decode cX12_requestComes 15 = .ok (.iaload, 1) := by decide +kernel
theorem dX12_requestComes_16 : decode cX12_requestComes 16 = .ok (.if_icmp .ge 136, 3) := by decide +kernel
theorem dX12_requestComes_19 : decode cX12_requestComes 19 = .ok (.aload_n 0, 1) := by decide +kernel
theorem dX12_requestComes_20 : decode cX12_requestComes 20 = .ok (.iload_n 1, 1) := by decide +kernel
theorem dX12_requestComes_21 : decode cX12_requestComes 21 = .ok (.iload_n 2, 1) := by decide +kernel
theorem dX12_requestComes_22 : decode cX12_requestComes 22 = .ok (.invokevirtual 310, 3) := by decide +kernel
theorem dX12_requestComes_25 : decode cX12_requestComes 25 = .ok (.ifCond .ne 6, 3) := by decide +kernel
theorem dX12_requestComes_28 : decode cX12_requestComes 28 = .ok (.goto 118, 3) := by decide +kernel
theorem dX12_requestComes_31 : decode cX12_requestComes 31 = .ok (.aload_n 0, 1) := by decide +kernel
theorem dX12_requestComes_32 : decode cX12_requestComes 32 = .ok (.iload_n 2, 1) := by decide +kernel
theorem dX12_requestComes_33 : decode cX12_requestComes 33 = .ok (.aload_n 0, 1) := by decide +kernel
theorem dX12_requestComes_34 : decode cX12_requestComes 34 = .ok (.getfield 45, 3) := by decide +kernel
theorem dX12_requestComes_37 : decode cX12_requestComes 37 = .ok (.iconst 4, 1) := by decide +kernel
theorem dX12_requestComes_38 : decode cX12_requestComes 38 = .ok (.iaload, 1) := by decide +kernel
theorem dX12_requestComes_39 : decode cX12_requestComes 39 = .ok (.invokevirtual 325, 3) := by decide +kernel
theorem dX12_requestComes_42 : decode cX12_requestComes 42 = .ok (.aload_n 0, 1) := by decide +kernel
theorem dX12_requestComes_43 : decode cX12_requestComes 43 = .ok (.iload_n 2, 1) := by decide +kernel
theorem dX12_requestComes_44 : decode cX12_requestComes 44 = .ok (.iconst 0, 1) := by decide +kernel
theorem dX12_requestComes_45 : decode cX12_requestComes 45 = .ok (.invokevirtual 319, 3) := by decide +kernel
theorem dX12_requestComes_48 : decode cX12_requestComes 48 = .ok (.ifCond .ne 22, 3) := by decide +kernel
theorem dX12_requestComes_51 : decode cX12_requestComes 51 = .ok (.aload_n 0, 1) := by decide +kernel
theorem dX12_requestComes_52 : decode cX12_requestComes 52 = .ok (.iload_n 2, 1) := by decide +kernel
theorem dX12_requestComes_53 : decode cX12_requestComes 53 = .ok (.aload_n 0, 1) := by decide +kernel
theorem dX12_requestComes_54 : decode cX12_requestComes 54 = .ok (.iconst 0, 1) := by decide +kernel
theorem dX12_requestComes_55 : decode cX12_requestComes 55 = .ok (.invokevirtual 274, 3) := by decide +kernel
theorem dX12_requestComes_58 : decode cX12_requestComes 58 = .ok (.aload_n 0, 1) := by decide +kernel
theorem dX12_requestComes_59 : decode cX12_requestComes 59 = .ok (.getfield 45, 3) := by decide +kernel
theorem dX12_requestComes_62 : decode cX12_requestComes 62 = .ok (.iconst 3, 1) := by decide +kernel
theorem dX12_requestComes_63 : decode cX12_requestComes 63 = .ok (.iaload, 1) := by decide +kernel
theorem dX12_requestComes_64 : decode cX12_requestComes 64 = .ok (.invokevirtual 328, 3) := by decide +kernel
theorem dX12_requestComes_67 : decode cX12_requestComes 67 = .ok (.ifCond .eq 13, 3) := by decide +kernel
theorem dX12_requestComes_70 : decode cX12_requestComes 70 = .ok (.aload_n 0, 1) := by decide +kernel
theorem dX12_requestComes_71 : decode cX12_requestComes 71 = .ok (.bipush 7, 2) := by decide +kernel
theorem dX12_requestComes_73 : decode cX12_requestComes 73 = .ok (.iconst 1, 1) := by decide +kernel
theorem dX12_requestComes_74 : decode cX12_requestComes 74 = .ok (.invokevirtual 240, 3) := by decide +kernel
theorem dX12_requestComes_77 : decode cX12_requestComes 77 = .ok (.goto 69, 3) := by decide +kernel
theorem dX12_requestComes_80 : decode cX12_requestComes 80 = .ok (.aload_n 0, 1) := by decide +kernel
theorem dX12_requestComes_81 : decode cX12_requestComes 81 = .ok (.iload_n 2, 1) := by decide +kernel
theorem dX12_requestComes_82 : decode cX12_requestComes 82 = .ok (.aload_n 0, 1) := by decide +kernel
theorem dX12_requestComes_83 : decode cX12_requestComes 83 = .ok (.iconst 0, 1) := by decide +kernel
theorem dX12_requestComes_84 : decode cX12_requestComes 84 = .ok (.invokevirtual 274, 3) := by decide +kernel
theorem dX12_requestComes_87 : decode cX12_requestComes 87 = .ok (.aload_n 0, 1) := by decide +kernel
theorem dX12_requestComes_88 : decode cX12_requestComes 88 = .ok (.getfield 45, 3) := by decide +kernel
theorem dX12_requestComes_91 : decode cX12_requestComes 91 = .ok (.iconst 3, 1) := by decide +kernel
theorem dX12_requestComes_92 : decode cX12_requestComes 92 = .ok (.iaload, 1) := by decide +kernel
theorem dX12_requestComes_93 : decode cX12_requestComes 93 = .ok (.invokevirtual 331, 3) := by decide +kernel
theorem dX12_requestComes_96 : decode cX12_requestComes 96 = .ok (.aload_n 0, 1) := by decide +kernel
theorem dX12_requestComes_97 : decode cX12_requestComes 97 = .ok (.iload_n 2, 1) := by decide +kernel
theorem dX12_requestComes_98 : decode cX12_requestComes 98 = .ok (.invokevirtual 313, 3) := by decide +kernel
theorem dX12_requestComes_101 : decode cX12_requestComes 101 = .ok (.aload_n 0, 1) := by decide +kernel
theorem dX12_requestComes_102 : decode cX12_requestComes 102 = .ok (.getfield 45, 3) := by decide +kernel
theorem dX12_requestComes_105 : decode cX12_requestComes 105 = .ok (.bipush 6, 2) := by decide +kernel
theorem dX12_requestComes_107 : decode cX12_requestComes 107 = .ok (.iaload, 1) := by decide +kernel
theorem dX12_requestComes_108 : decode cX12_requestComes 108 = .ok (.iconst 1, 1) := by decide +kernel
theorem dX12_requestComes_109 : decode cX12_requestComes 109 = .ok (.isub, 1) := by decide +kernel
theorem dX12_requestComes_110 : decode cX12_requestComes 110 = .ok (.istore_n 3, 1) := by decide +kernel
theorem dX12_requestComes_111 : decode cX12_requestComes 111 = .ok (.iload_n 3, 1) := by decide +kernel
theorem dX12_requestComes_112 : decode cX12_requestComes 112 = .ok (.ifCond .lt 18, 3) := by decide +kernel
theorem dX12_requestComes_115 : decode cX12_requestComes 115 = .ok (.aload_n 0, 1) := by decide +kernel
theorem dX12_requestComes_116 : decode cX12_requestComes 116 = .ok (.aload_n 0, 1) := by decide +kernel
theorem dX12_requestComes_117 : decode cX12_requestComes 117 = .ok (.iload_n 3, 1) := by decide +kernel
theorem dX12_requestComes_118 : decode cX12_requestComes 118 = .ok (.invokevirtual 274, 3) := by decide +kernel
theorem dX12_requestComes_121 : decode cX12_requestComes 121 = .ok (.invokevirtual 295, 3) := by decide +kernel
theorem dX12_requestComes_124 : decode cX12_requestComes 124 = .ok (.iinc 3 (-1), 3) := by decide +kernel
theorem dX12_requestComes_127 : decode cX12_requestComes 127 = .ok (.goto (-16), 3) := by decide +kernel
theorem dX12_requestComes_130 : decode cX12_requestComes 130 = .ok (.aload_n 0, 1) := by decide +kernel
theorem dX12_requestComes_131 : decode cX12_requestComes 131 = .ok (.iload_n 2, 1) := by decide +kernel
theorem dX12_requestComes_132 : decode cX12_requestComes 132 = .ok (.invokevirtual 304, 3) := by decide +kernel
theorem dX12_requestComes_135 : decode cX12_requestComes 135 = .ok (.aload_n 0, 1) := by decide +kernel
theorem dX12_requestComes_136 : decode cX12_requestComes 136 = .ok (.iload_n 2, 1) := by decide +kernel
theorem dX12_requestComes_137 : decode cX12_requestComes 137 = .ok (.aload_n 0, 1) := by decide +kernel
theorem dX12_requestComes_138 : decode cX12_requestComes 138 = .ok (.getfield 45, 3) := by decide +kernel
theorem dX12_requestComes_141 : decode cX12_requestComes 141 = .ok (.iconst 2, 1) := by decide +kernel
theorem dX12_requestComes_142 : decode cX12_requestComes 142 = .ok (.iaload, 1) := by decide +kernel
theorem dX12_requestComes_143 : decode cX12_requestComes 143 = .ok (.invokevirtual 334, 3) := by decide +kernel
theorem dX12_requestComes_146 : decode cX12_requestComes 146 = .ok (.iinc 2 1, 3) := by decide +kernel
theorem dX12_requestComes_149 : decode cX12_requestComes 149 = .ok (.goto (-140), 3) := by decide +kernel
theorem dX12_requestComes_152 : decode cX12_requestComes 152 = .ok (.return_, 1) := by decide +kernel
theorem dX12_placeOf_0 : decode cX12_placeOf 0 = .ok (.iconst 0, 1) := by decide +kernel
theorem dX12_placeOf_1 : decode cX12_placeOf 1 = .ok (.istore_n 2, 1) := by decide +kernel
theorem dX12_placeOf_2 : decode cX12_placeOf 2 = .ok (.iload_n 2, 1) := by decide +kernel
theorem dX12_placeOf_3 : decode cX12_placeOf 3 = .ok (.aload_n 0, 1) := by decide +kernel
theorem dX12_placeOf_4 : decode cX12_placeOf 4 = .ok (.getfield 45, 3) := by decide +kernel
theorem dX12_placeOf_7 : decode cX12_placeOf 7 = .ok (.bipush 6, 2) := by decide +kernel
theorem dX12_placeOf_9 : decode cX12_placeOf 9 = .ok (.iaload, 1) := by decide +kernel
theorem dX12_placeOf_10 : decode cX12_placeOf 10 = .ok (.if_icmp .ge 18, 3) := by decide +kernel
theorem dX12_placeOf_13 : decode cX12_placeOf 13 = .ok (.aload_n 0, 1) := by decide +kernel
theorem dX12_placeOf_14 : decode cX12_placeOf 14 = .ok (.iload_n 2, 1) := by decide +kernel
theorem dX12_placeOf_15 : decode cX12_placeOf 15 = .ok (.invokevirtual 274, 3) := by decide +kernel
theorem dX12_placeOf_18 : decode cX12_placeOf 18 = .ok (.iload_n 1, 1) := by decide +kernel
theorem dX12_placeOf_19 : decode cX12_placeOf 19 = .ok (.if_icmp .eq 9, 3) := by decide +kernel
theorem dX12_placeOf_22 : decode cX12_placeOf 22 = .ok (.iinc 2 1, 3) := by decide +kernel
theorem dX12_placeOf_25 : decode cX12_placeOf 25 = .ok (.goto (-23), 3) := by decide +kernel
theorem dX12_placeOf_28 : decode cX12_placeOf 28 = .ok (.iload_n 2, 1) := by decide +kernel
theorem dX12_placeOf_29 : decode cX12_placeOf 29 = .ok (.ireturn, 1) := by decide +kernel
theorem dX12_learnsRow_0 : decode cX12_learnsRow 0 = .ok (.iload_n 1, 1) := by decide +kernel
theorem dX12_learnsRow_1 : decode cX12_learnsRow 1 = .ok (.istore_n 2, 1) := by decide +kernel
theorem dX12_learnsRow_2 : decode cX12_learnsRow 2 = .ok (.iload_n 2, 1) := by decide +kernel
theorem dX12_learnsRow_3 : decode cX12_learnsRow 3 = .ok (.aload_n 0, 1) := by decide +kernel
theorem dX12_learnsRow_4 : decode cX12_learnsRow 4 = .ok (.getfield 45, 3) := by decide +kernel
theorem dX12_learnsRow_7 : decode cX12_learnsRow 7 = .ok (.bipush 6, 2) := by decide +kernel
theorem dX12_learnsRow_9 : decode cX12_learnsRow 9 = .ok (.iaload, 1) := by decide +kernel
theorem dX12_learnsRow_10 : decode cX12_learnsRow 10 = .ok (.if_icmp .ge 18, 3) := by decide +kernel
theorem dX12_learnsRow_13 : decode cX12_learnsRow 13 = .ok (.aload_n 0, 1) := by decide +kernel
theorem dX12_learnsRow_14 : decode cX12_learnsRow 14 = .ok (.aload_n 0, 1) := by decide +kernel
theorem dX12_learnsRow_15 : decode cX12_learnsRow 15 = .ok (.iload_n 2, 1) := by decide +kernel
theorem dX12_learnsRow_16 : decode cX12_learnsRow 16 = .ok (.invokevirtual 274, 3) := by decide +kernel
theorem dX12_learnsRow_19 : decode cX12_learnsRow 19 = .ok (.invokevirtual 295, 3) := by decide +kernel
theorem dX12_learnsRow_22 : decode cX12_learnsRow 22 = .ok (.iinc 2 1, 3) := by decide +kernel
theorem dX12_learnsRow_25 : decode cX12_learnsRow 25 = .ok (.goto (-23), 3) := by decide +kernel
theorem dX12_learnsRow_28 : decode cX12_learnsRow 28 = .ok (.return_, 1) := by decide +kernel
theorem dX12_replyComes_0 : decode cX12_replyComes 0 = .ok (.aload_n 0, 1) := by decide +kernel
theorem dX12_replyComes_1 : decode cX12_replyComes 1 = .ok (.getfield 45, 3) := by decide +kernel
theorem dX12_replyComes_4 : decode cX12_replyComes 4 = .ok (.iconst 1, 1) := by decide +kernel
theorem dX12_replyComes_5 : decode cX12_replyComes 5 = .ok (.iaload, 1) := by decide +kernel
theorem dX12_replyComes_6 : decode cX12_replyComes 6 = .ok (.istore_n 1, 1) := by decide +kernel
theorem dX12_replyComes_7 : decode cX12_replyComes 7 = .ok (.aload_n 0, 1) := by decide +kernel
theorem dX12_replyComes_8 : decode cX12_replyComes 8 = .ok (.iload_n 1, 1) := by decide +kernel
theorem dX12_replyComes_9 : decode cX12_replyComes 9 = .ok (.invokevirtual 337, 3) := by decide +kernel
theorem dX12_replyComes_12 : decode cX12_replyComes 12 = .ok (.istore_n 2, 1) := by decide +kernel
theorem dX12_replyComes_13 : decode cX12_replyComes 13 = .ok (.aload_n 0, 1) := by decide +kernel
theorem dX12_replyComes_14 : decode cX12_replyComes 14 = .ok (.iload_n 2, 1) := by decide +kernel
theorem dX12_replyComes_15 : decode cX12_replyComes 15 = .ok (.iconst 1, 1) := by decide +kernel
theorem dX12_replyComes_16 : decode cX12_replyComes 16 = .ok (.isub, 1) := by decide +kernel
theorem dX12_replyComes_17 : decode cX12_replyComes 17 = .ok (.invokevirtual 274, 3) := by decide +kernel
theorem dX12_replyComes_20 : decode cX12_replyComes 20 = .ok (.istore_n 3, 1) := by decide +kernel
theorem dX12_replyComes_21 : decode cX12_replyComes 21 = .ok (.aload_n 0, 1) := by decide +kernel
theorem dX12_replyComes_22 : decode cX12_replyComes 22 = .ok (.iload_n 1, 1) := by decide +kernel
theorem dX12_replyComes_23 : decode cX12_replyComes 23 = .ok (.iload_n 3, 1) := by decide +kernel
theorem dX12_replyComes_24 : decode cX12_replyComes 24 = .ok (.invokevirtual 277, 3) := by decide +kernel
theorem dX12_replyComes_27 : decode cX12_replyComes 27 = .ok (.ifCond .ne 11, 3) := by decide +kernel
theorem dX12_replyComes_30 : decode cX12_replyComes 30 = .ok (.aload_n 0, 1) := by decide +kernel
theorem dX12_replyComes_31 : decode cX12_replyComes 31 = .ok (.iload_n 1, 1) := by decide +kernel
theorem dX12_replyComes_32 : decode cX12_replyComes 32 = .ok (.iload_n 1, 1) := by decide +kernel
theorem dX12_replyComes_33 : decode cX12_replyComes 33 = .ok (.iload_n 3, 1) := by decide +kernel
theorem dX12_replyComes_34 : decode cX12_replyComes 34 = .ok (.invokevirtual 218, 3) := by decide +kernel
theorem dX12_replyComes_37 : decode cX12_replyComes 37 = .ok (.return_, 1) := by decide +kernel
theorem dX12_replyComes_38 : decode cX12_replyComes 38 = .ok (.aload_n 0, 1) := by decide +kernel
theorem dX12_replyComes_39 : decode cX12_replyComes 39 = .ok (.iconst 0, 1) := by decide +kernel
theorem dX12_replyComes_40 : decode cX12_replyComes 40 = .ok (.putfield 186, 3) := by decide +kernel
theorem dX12_replyComes_43 : decode cX12_replyComes 43 = .ok (.aload_n 0, 1) := by decide +kernel
theorem dX12_replyComes_44 : decode cX12_replyComes 44 = .ok (.iload_n 2, 1) := by decide +kernel
theorem dX12_replyComes_45 : decode cX12_replyComes 45 = .ok (.iconst 1, 1) := by decide +kernel
theorem dX12_replyComes_46 : decode cX12_replyComes 46 = .ok (.isub, 1) := by decide +kernel
theorem dX12_replyComes_47 : decode cX12_replyComes 47 = .ok (.invokevirtual 340, 3) := by decide +kernel
theorem dX12_replyComes_50 : decode cX12_replyComes 50 = .ok (.aload_n 0, 1) := by decide +kernel
theorem dX12_replyComes_51 : decode cX12_replyComes 51 = .ok (.iload_n 3, 1) := by decide +kernel
theorem dX12_replyComes_52 : decode cX12_replyComes 52 = .ok (.invokevirtual 304, 3) := by decide +kernel
theorem dX12_replyComes_55 : decode cX12_replyComes 55 = .ok (.iload_n 2, 1) := by decide +kernel
theorem dX12_replyComes_56 : decode cX12_replyComes 56 = .ok (.iconst 1, 1) := by decide +kernel
theorem dX12_replyComes_57 : decode cX12_replyComes 57 = .ok (.if_icmp .le 50, 3) := by decide +kernel
theorem dX12_replyComes_60 : decode cX12_replyComes 60 = .ok (.aload_n 0, 1) := by decide +kernel
theorem dX12_replyComes_61 : decode cX12_replyComes 61 = .ok (.iconst 2, 1) := by decide +kernel
theorem dX12_replyComes_62 : decode cX12_replyComes 62 = .ok (.iload_n 3, 1) := by decide +kernel
theorem dX12_replyComes_63 : decode cX12_replyComes 63 = .ok (.iconst (-1), 1) := by decide +kernel
theorem dX12_replyComes_64 : decode cX12_replyComes 64 = .ok (.iconst (-1), 1) := by decide +kernel
theorem dX12_replyComes_65 : decode cX12_replyComes 65 = .ok (.iconst (-1), 1) := by decide +kernel
theorem dX12_replyComes_66 : decode cX12_replyComes 66 = .ok (.iconst (-1), 1) := by decide +kernel
theorem dX12_replyComes_67 : decode cX12_replyComes 67 = .ok (.invokevirtual 249, 3) := by decide +kernel
theorem dX12_replyComes_70 : decode cX12_replyComes 70 = .ok (.iconst 0, 1) := by decide +kernel
theorem dX12_replyComes_71 : decode cX12_replyComes 71 = .ok (.istore 4, 2) := by decide +kernel
theorem dX12_replyComes_73 : decode cX12_replyComes 73 = .ok (.iload 4, 2) := by decide +kernel
theorem dX12_replyComes_75 : decode cX12_replyComes 75 = .ok (.aload_n 0, 1) := by decide +kernel
theorem dX12_replyComes_76 : decode cX12_replyComes 76 = .ok (.getfield 45, 3) := by decide +kernel
theorem dX12_replyComes_79 : decode cX12_replyComes 79 = .ok (.bipush 6, 2) := by decide +kernel
theorem dX12_replyComes_81 : decode cX12_replyComes 81 = .ok (.iaload, 1) := by decide +kernel
theorem dX12_replyComes_82 : decode cX12_replyComes 82 = .ok (.if_icmp .ge 19, 3) := by decide +kernel
theorem dX12_replyComes_85 : decode cX12_replyComes 85 = .ok (.aload_n 0, 1) := by decide +kernel
theorem dX12_replyComes_86 : decode cX12_replyComes 86 = .ok (.aload_n 0, 1) := by decide +kernel
theorem dX12_replyComes_87 : decode cX12_replyComes 87 = .ok (.iload 4, 2) := by decide +kernel
theorem dX12_replyComes_89 : decode cX12_replyComes 89 = .ok (.invokevirtual 274, 3) := by decide +kernel
theorem dX12_replyComes_92 : decode cX12_replyComes 92 = .ok (.invokevirtual 262, 3) := by decide +kernel
theorem dX12_replyComes_95 : decode cX12_replyComes 95 = .ok (.iinc 4 1, 3) := by decide +kernel
theorem dX12_replyComes_98 : decode cX12_replyComes 98 = .ok (.goto (-25), 3) := by decide +kernel
theorem dX12_replyComes_101 : decode cX12_replyComes 101 = .ok (.aload_n 0, 1) := by decide +kernel
theorem dX12_replyComes_102 : decode cX12_replyComes 102 = .ok (.invokevirtual 253, 3) := by decide +kernel
theorem dX12_replyComes_105 : decode cX12_replyComes 105 = .ok (.istore 4, 2) := by decide +kernel
theorem dX12_replyComes_107 : decode cX12_replyComes 107 = .ok (.iconst 0, 1) := by decide +kernel
theorem dX12_replyComes_108 : decode cX12_replyComes 108 = .ok (.istore 4, 2) := by decide +kernel
theorem dX12_replyComes_110 : decode cX12_replyComes 110 = .ok (.iload 4, 2) := by decide +kernel
theorem dX12_replyComes_112 : decode cX12_replyComes 112 = .ok (.aload_n 0, 1) := by decide +kernel
theorem dX12_replyComes_113 : decode cX12_replyComes 113 = .ok (.getfield 7, 3) := by decide +kernel
theorem dX12_replyComes_116 : decode cX12_replyComes 116 = .ok (.iconst 0, 1) := by decide +kernel
theorem dX12_replyComes_117 : decode cX12_replyComes 117 = .ok (.iaload, 1) := by decide +kernel
theorem dX12_replyComes_118 : decode cX12_replyComes 118 = .ok (.if_icmp .ge 63, 3) := by decide +kernel
theorem dX12_replyComes_121 : decode cX12_replyComes 121 = .ok (.aload_n 0, 1) := by decide +kernel
theorem dX12_replyComes_122 : decode cX12_replyComes 122 = .ok (.iload_n 1, 1) := by decide +kernel
theorem dX12_replyComes_123 : decode cX12_replyComes 123 = .ok (.iload 4, 2) := by decide +kernel
theorem dX12_replyComes_125 : decode cX12_replyComes 125 = .ok (.invokevirtual 310, 3) := by decide +kernel
theorem dX12_replyComes_128 : decode cX12_replyComes 128 = .ok (.ifCond .eq 47, 3) := by decide +kernel
theorem dX12_replyComes_131 : decode cX12_replyComes 131 = .ok (.iload 4, 2) := by decide +kernel
theorem dX12_replyComes_133 : decode cX12_replyComes 133 = .ok (.iload_n 3, 1) := by decide +kernel
theorem dX12_replyComes_134 : decode cX12_replyComes 134 = .ok (.if_icmp .eq 41, 3) := by decide +kernel
theorem dX12_replyComes_137 : decode cX12_replyComes 137 = .ok (.aload_n 0, 1) := by decide +kernel
theorem dX12_replyComes_138 : decode cX12_replyComes 138 = .ok (.iload 4, 2) := by decide +kernel
theorem dX12_replyComes_140 : decode cX12_replyComes 140 = .ok (.iconst 1, 1) := by decide +kernel
theorem dX12_replyComes_141 : decode cX12_replyComes 141 = .ok (.invokevirtual 180, 3) := by decide +kernel
theorem dX12_replyComes_144 : decode cX12_replyComes 144 = .ok (.iconst 1, 1) := by decide +kernel
theorem dX12_replyComes_145 : decode cX12_replyComes 145 = .ok (.if_icmp .ne 30, 3) := by decide +kernel
theorem dX12_replyComes_148 : decode cX12_replyComes 148 = .ok (.aload_n 0, 1) := by decide +kernel
theorem dX12_replyComes_149 : decode cX12_replyComes 149 = .ok (.iload 4, 2) := by decide +kernel
theorem dX12_replyComes_151 : decode cX12_replyComes 151 = .ok (.iload_n 2, 1) := by decide +kernel
theorem dX12_replyComes_152 : decode cX12_replyComes 152 = .ok (.invokevirtual 319, 3) := by decide +kernel
theorem dX12_replyComes_155 : decode cX12_replyComes 155 = .ok (.ifCond .ne 20, 3) := by decide +kernel
theorem dX12_replyComes_158 : decode cX12_replyComes 158 = .ok (.aload_n 0, 1) := by decide +kernel
theorem dX12_replyComes_159 : decode cX12_replyComes 159 = .ok (.iload 4, 2) := by decide +kernel
theorem dX12_replyComes_161 : decode cX12_replyComes 161 = .ok (.invokevirtual 313, 3) := by decide +kernel
theorem dX12_replyComes_164 : decode cX12_replyComes 164 = .ok (.aload_n 0, 1) := by decide +kernel
theorem dX12_replyComes_165 : decode cX12_replyComes 165 = .ok (.iload_n 2, 1) := by decide +kernel
theorem dX12_replyComes_166 : decode cX12_replyComes 166 = .ok (.invokevirtual 340, 3) := by decide +kernel
theorem dX12_replyComes_169 : decode cX12_replyComes 169 = .ok (.aload_n 0, 1) := by decide +kernel
theorem dX12_replyComes_170 : decode cX12_replyComes 170 = .ok (.iload 4, 2) := by decide +kernel
theorem dX12_replyComes_172 : decode cX12_replyComes 172 = .ok (.invokevirtual 304, 3) := by decide +kernel
theorem dX12_replyComes_175 : decode cX12_replyComes 175 = .ok (.iinc 4 1, 3) := by decide +kernel
theorem dX12_replyComes_178 : decode cX12_replyComes 178 = .ok (.goto (-68), 3) := by decide +kernel
theorem dX12_replyComes_181 : decode cX12_replyComes 181 = .ok (.return_, 1) := by decide +kernel
theorem dX12_errorComes_0 : decode cX12_errorComes 0 = .ok (.aload_n 0, 1) := by decide +kernel
theorem dX12_errorComes_1 : decode cX12_errorComes 1 = .ok (.getfield 45, 3) := by decide +kernel
theorem dX12_errorComes_4 : decode cX12_errorComes 4 = .ok (.iconst 1, 1) := by decide +kernel
theorem dX12_errorComes_5 : decode cX12_errorComes 5 = .ok (.iaload, 1) := by decide +kernel
theorem dX12_errorComes_6 : decode cX12_errorComes 6 = .ok (.istore_n 1, 1) := by decide +kernel
theorem dX12_errorComes_7 : decode cX12_errorComes 7 = .ok (.aload_n 0, 1) := by decide +kernel
theorem dX12_errorComes_8 : decode cX12_errorComes 8 = .ok (.iconst 1, 1) := by decide +kernel
theorem dX12_errorComes_9 : decode cX12_errorComes 9 = .ok (.invokevirtual 274, 3) := by decide +kernel
theorem dX12_errorComes_12 : decode cX12_errorComes 12 = .ok (.istore_n 2, 1) := by decide +kernel
theorem dX12_errorComes_13 : decode cX12_errorComes 13 = .ok (.aload_n 0, 1) := by decide +kernel
theorem dX12_errorComes_14 : decode cX12_errorComes 14 = .ok (.iload_n 1, 1) := by decide +kernel
theorem dX12_errorComes_15 : decode cX12_errorComes 15 = .ok (.iload_n 2, 1) := by decide +kernel
theorem dX12_errorComes_16 : decode cX12_errorComes 16 = .ok (.invokevirtual 277, 3) := by decide +kernel
theorem dX12_errorComes_19 : decode cX12_errorComes 19 = .ok (.ifCond .ne 11, 3) := by decide +kernel
theorem dX12_errorComes_22 : decode cX12_errorComes 22 = .ok (.aload_n 0, 1) := by decide +kernel
theorem dX12_errorComes_23 : decode cX12_errorComes 23 = .ok (.iload_n 1, 1) := by decide +kernel
theorem dX12_errorComes_24 : decode cX12_errorComes 24 = .ok (.iload_n 1, 1) := by decide +kernel
theorem dX12_errorComes_25 : decode cX12_errorComes 25 = .ok (.iload_n 2, 1) := by decide +kernel
theorem dX12_errorComes_26 : decode cX12_errorComes 26 = .ok (.invokevirtual 218, 3) := by decide +kernel
theorem dX12_errorComes_29 : decode cX12_errorComes 29 = .ok (.return_, 1) := by decide +kernel
theorem dX12_errorComes_30 : decode cX12_errorComes 30 = .ok (.aload_n 0, 1) := by decide +kernel
theorem dX12_errorComes_31 : decode cX12_errorComes 31 = .ok (.iload_n 2, 1) := by decide +kernel
theorem dX12_errorComes_32 : decode cX12_errorComes 32 = .ok (.aload_n 0, 1) := by decide +kernel
theorem dX12_errorComes_33 : decode cX12_errorComes 33 = .ok (.getfield 45, 3) := by decide +kernel
theorem dX12_errorComes_36 : decode cX12_errorComes 36 = .ok (.iconst 5, 1) := by decide +kernel
theorem dX12_errorComes_37 : decode cX12_errorComes 37 = .ok (.iaload, 1) := by decide +kernel
theorem dX12_errorComes_38 : decode cX12_errorComes 38 = .ok (.invokevirtual 325, 3) := by decide +kernel
theorem dX12_errorComes_41 : decode cX12_errorComes 41 = .ok (.aload_n 0, 1) := by decide +kernel
theorem dX12_errorComes_42 : decode cX12_errorComes 42 = .ok (.getfield 45, 3) := by decide +kernel
theorem dX12_errorComes_45 : decode cX12_errorComes 45 = .ok (.bipush 6, 2) := by decide +kernel
theorem dX12_errorComes_47 : decode cX12_errorComes 47 = .ok (.iaload, 1) := by decide +kernel
theorem dX12_errorComes_48 : decode cX12_errorComes 48 = .ok (.iconst 2, 1) := by decide +kernel
theorem dX12_errorComes_49 : decode cX12_errorComes 49 = .ok (.if_icmp .ne 18, 3) := by decide +kernel
theorem dX12_errorComes_52 : decode cX12_errorComes 52 = .ok (.aload_n 0, 1) := by decide +kernel
theorem dX12_errorComes_53 : decode cX12_errorComes 53 = .ok (.iload_n 2, 1) := by decide +kernel
theorem dX12_errorComes_54 : decode cX12_errorComes 54 = .ok (.iconst 5, 1) := by decide +kernel
theorem dX12_errorComes_55 : decode cX12_errorComes 55 = .ok (.aload_n 0, 1) := by decide +kernel
theorem dX12_errorComes_56 : decode cX12_errorComes 56 = .ok (.getfield 45, 3) := by decide +kernel
theorem dX12_errorComes_59 : decode cX12_errorComes 59 = .ok (.iconst 5, 1) := by decide +kernel
theorem dX12_errorComes_60 : decode cX12_errorComes 60 = .ok (.iaload, 1) := by decide +kernel
theorem dX12_errorComes_61 : decode cX12_errorComes 61 = .ok (.invokevirtual 170, 3) := by decide +kernel
theorem dX12_errorComes_64 : decode cX12_errorComes 64 = .ok (.goto 51, 3) := by decide +kernel
theorem dX12_errorComes_67 : decode cX12_errorComes 67 = .ok (.aload_n 0, 1) := by decide +kernel
theorem dX12_errorComes_68 : decode cX12_errorComes 68 = .ok (.iconst 3, 1) := by decide +kernel
theorem dX12_errorComes_69 : decode cX12_errorComes 69 = .ok (.iload_n 2, 1) := by decide +kernel
theorem dX12_errorComes_70 : decode cX12_errorComes 70 = .ok (.iconst (-1), 1) := by decide +kernel
theorem dX12_errorComes_71 : decode cX12_errorComes 71 = .ok (.iconst (-1), 1) := by decide +kernel
theorem dX12_errorComes_72 : decode cX12_errorComes 72 = .ok (.iconst (-1), 1) := by decide +kernel
theorem dX12_errorComes_73 : decode cX12_errorComes 73 = .ok (.aload_n 0, 1) := by decide +kernel
theorem dX12_errorComes_74 : decode cX12_errorComes 74 = .ok (.getfield 45, 3) := by decide +kernel
theorem dX12_errorComes_77 : decode cX12_errorComes 77 = .ok (.iconst 5, 1) := by decide +kernel
theorem dX12_errorComes_78 : decode cX12_errorComes 78 = .ok (.iaload, 1) := by decide +kernel
theorem dX12_errorComes_79 : decode cX12_errorComes 79 = .ok (.invokevirtual 249, 3) := by decide +kernel
theorem dX12_errorComes_82 : decode cX12_errorComes 82 = .ok (.iconst 1, 1) := by decide +kernel
theorem dX12_errorComes_83 : decode cX12_errorComes 83 = .ok (.istore_n 3, 1) := by decide +kernel
theorem dX12_errorComes_84 : decode cX12_errorComes 84 = .ok (.iload_n 3, 1) := by decide +kernel
theorem dX12_errorComes_85 : decode cX12_errorComes 85 = .ok (.aload_n 0, 1) := by decide +kernel
theorem dX12_errorComes_86 : decode cX12_errorComes 86 = .ok (.getfield 45, 3) := by decide +kernel
theorem dX12_errorComes_89 : decode cX12_errorComes 89 = .ok (.bipush 6, 2) := by decide +kernel
theorem dX12_errorComes_91 : decode cX12_errorComes 91 = .ok (.iaload, 1) := by decide +kernel
theorem dX12_errorComes_92 : decode cX12_errorComes 92 = .ok (.if_icmp .ge 18, 3) := by decide +kernel
theorem dX12_errorComes_95 : decode cX12_errorComes 95 = .ok (.aload_n 0, 1) := by decide +kernel
theorem dX12_errorComes_96 : decode cX12_errorComes 96 = .ok (.aload_n 0, 1) := by decide +kernel
theorem dX12_errorComes_97 : decode cX12_errorComes 97 = .ok (.iload_n 3, 1) := by decide +kernel
theorem dX12_errorComes_98 : decode cX12_errorComes 98 = .ok (.invokevirtual 274, 3) := by decide +kernel
theorem dX12_errorComes_101 : decode cX12_errorComes 101 = .ok (.invokevirtual 262, 3) := by decide +kernel
theorem dX12_errorComes_104 : decode cX12_errorComes 104 = .ok (.iinc 3 1, 3) := by decide +kernel
theorem dX12_errorComes_107 : decode cX12_errorComes 107 = .ok (.goto (-23), 3) := by decide +kernel
theorem dX12_errorComes_110 : decode cX12_errorComes 110 = .ok (.aload_n 0, 1) := by decide +kernel
theorem dX12_errorComes_111 : decode cX12_errorComes 111 = .ok (.invokevirtual 253, 3) := by decide +kernel
theorem dX12_errorComes_114 : decode cX12_errorComes 114 = .ok (.istore_n 3, 1) := by decide +kernel
theorem dX12_errorComes_115 : decode cX12_errorComes 115 = .ok (.iconst 0, 1) := by decide +kernel
theorem dX12_errorComes_116 : decode cX12_errorComes 116 = .ok (.istore_n 3, 1) := by decide +kernel
theorem dX12_errorComes_117 : decode cX12_errorComes 117 = .ok (.iload_n 3, 1) := by decide +kernel
theorem dX12_errorComes_118 : decode cX12_errorComes 118 = .ok (.aload_n 0, 1) := by decide +kernel
theorem dX12_errorComes_119 : decode cX12_errorComes 119 = .ok (.getfield 7, 3) := by decide +kernel
theorem dX12_errorComes_122 : decode cX12_errorComes 122 = .ok (.iconst 0, 1) := by decide +kernel
theorem dX12_errorComes_123 : decode cX12_errorComes 123 = .ok (.iaload, 1) := by decide +kernel
theorem dX12_errorComes_124 : decode cX12_errorComes 124 = .ok (.if_icmp .ge 44, 3) := by decide +kernel
theorem dX12_errorComes_127 : decode cX12_errorComes 127 = .ok (.aload_n 0, 1) := by decide +kernel
theorem dX12_errorComes_128 : decode cX12_errorComes 128 = .ok (.iload_n 1, 1) := by decide +kernel
theorem dX12_errorComes_129 : decode cX12_errorComes 129 = .ok (.iload_n 3, 1) := by decide +kernel
theorem dX12_errorComes_130 : decode cX12_errorComes 130 = .ok (.invokevirtual 310, 3) := by decide +kernel
theorem dX12_errorComes_133 : decode cX12_errorComes 133 = .ok (.ifCond .eq 29, 3) := by decide +kernel
theorem dX12_errorComes_136 : decode cX12_errorComes 136 = .ok (.iload_n 3, 1) := by decide +kernel
theorem dX12_errorComes_137 : decode cX12_errorComes 137 = .ok (.iload_n 2, 1) := by decide +kernel
theorem dX12_errorComes_138 : decode cX12_errorComes 138 = .ok (.if_icmp .eq 24, 3) := by decide +kernel
theorem dX12_errorComes_141 : decode cX12_errorComes 141 = .ok (.aload_n 0, 1) := by decide +kernel
theorem dX12_errorComes_142 : decode cX12_errorComes 142 = .ok (.iload_n 3, 1) := by decide +kernel
theorem dX12_errorComes_143 : decode cX12_errorComes 143 = .ok (.iconst 1, 1) := by decide +kernel
theorem dX12_errorComes_144 : decode cX12_errorComes 144 = .ok (.invokevirtual 180, 3) := by decide +kernel
theorem dX12_errorComes_147 : decode cX12_errorComes 147 = .ok (.iconst 1, 1) := by decide +kernel
theorem dX12_errorComes_148 : decode cX12_errorComes 148 = .ok (.if_icmp .ne 14, 3) := by decide +kernel
theorem dX12_errorComes_151 : decode cX12_errorComes 151 = .ok (.aload_n 0, 1) := by decide +kernel
theorem dX12_errorComes_152 : decode cX12_errorComes 152 = .ok (.iload_n 3, 1) := by decide +kernel
theorem dX12_errorComes_153 : decode cX12_errorComes 153 = .ok (.aload_n 0, 1) := by decide +kernel
theorem dX12_errorComes_154 : decode cX12_errorComes 154 = .ok (.getfield 45, 3) := by decide +kernel
theorem dX12_errorComes_157 : decode cX12_errorComes 157 = .ok (.iconst 5, 1) := by decide +kernel
theorem dX12_errorComes_158 : decode cX12_errorComes 158 = .ok (.iaload, 1) := by decide +kernel
theorem dX12_errorComes_159 : decode cX12_errorComes 159 = .ok (.invokevirtual 325, 3) := by decide +kernel
theorem dX12_errorComes_162 : decode cX12_errorComes 162 = .ok (.iinc 3 1, 3) := by decide +kernel
theorem dX12_errorComes_165 : decode cX12_errorComes 165 = .ok (.goto (-48), 3) := by decide +kernel
theorem dX12_errorComes_168 : decode cX12_errorComes 168 = .ok (.return_, 1) := by decide +kernel
theorem dX12_arrives_0 : decode cX12_arrives 0 = .ok (.iconst 0, 1) := by decide +kernel
theorem dX12_arrives_1 : decode cX12_arrives 1 = .ok (.istore_n 1, 1) := by decide +kernel
theorem dX12_arrives_2 : decode cX12_arrives 2 = .ok (.iload_n 1, 1) := by decide +kernel
theorem dX12_arrives_3 : decode cX12_arrives 3 = .ok (.bipush 16, 2) := by decide +kernel
theorem dX12_arrives_5 : decode cX12_arrives 5 = .ok (.if_icmp .ge 25, 3) := by decide +kernel
theorem dX12_arrives_8 : decode cX12_arrives 8 = .ok (.aload_n 0, 1) := by decide +kernel
theorem dX12_arrives_9 : decode cX12_arrives 9 = .ok (.getfield 45, 3) := by decide +kernel
theorem dX12_arrives_12 : decode cX12_arrives 12 = .ok (.iload_n 1, 1) := by decide +kernel
theorem dX12_arrives_13 : decode cX12_arrives 13 = .ok (.aload_n 0, 1) := by decide +kernel
theorem dX12_arrives_14 : decode cX12_arrives 14 = .ok (.getfield 7, 3) := by decide +kernel
theorem dX12_arrives_17 : decode cX12_arrives 17 = .ok (.sipush 777, 3) := by decide +kernel
theorem dX12_arrives_20 : decode cX12_arrives 20 = .ok (.iload_n 1, 1) := by decide +kernel
theorem dX12_arrives_21 : decode cX12_arrives 21 = .ok (.iadd, 1) := by decide +kernel
theorem dX12_arrives_22 : decode cX12_arrives 22 = .ok (.iaload, 1) := by decide +kernel
theorem dX12_arrives_23 : decode cX12_arrives 23 = .ok (.iastore, 1) := by decide +kernel
theorem dX12_arrives_24 : decode cX12_arrives 24 = .ok (.iinc 1 1, 3) := by decide +kernel
theorem dX12_arrives_27 : decode cX12_arrives 27 = .ok (.goto (-25), 3) := by decide +kernel
theorem dX12_arrives_30 : decode cX12_arrives 30 = .ok (.aload_n 0, 1) := by decide +kernel
theorem dX12_arrives_31 : decode cX12_arrives 31 = .ok (.getfield 7, 3) := by decide +kernel
theorem dX12_arrives_34 : decode cX12_arrives 34 = .ok (.bipush 10, 2) := by decide +kernel
theorem dX12_arrives_36 : decode cX12_arrives 36 = .ok (.dup2, 1) := by decide +kernel
theorem dX12_arrives_37 : decode cX12_arrives 37 = .ok (.iaload, 1) := by decide +kernel
theorem dX12_arrives_38 : decode cX12_arrives 38 = .ok (.iconst 1, 1) := by decide +kernel
theorem dX12_arrives_39 : decode cX12_arrives 39 = .ok (.isub, 1) := by decide +kernel
theorem dX12_arrives_40 : decode cX12_arrives 40 = .ok (.iastore, 1) := by decide +kernel
theorem dX12_arrives_41 : decode cX12_arrives 41 = .ok (.sipush 777, 3) := by decide +kernel
theorem dX12_arrives_44 : decode cX12_arrives 44 = .ok (.istore_n 1, 1) := by decide +kernel
theorem dX12_arrives_45 : decode cX12_arrives 45 = .ok (.iload_n 1, 1) := by decide +kernel
theorem dX12_arrives_46 : decode cX12_arrives 46 = .ok (.sipush 777, 3) := by decide +kernel
theorem dX12_arrives_49 : decode cX12_arrives 49 = .ok (.bipush 16, 2) := by decide +kernel
theorem dX12_arrives_51 : decode cX12_arrives 51 = .ok (.aload_n 0, 1) := by decide +kernel
theorem dX12_arrives_52 : decode cX12_arrives 52 = .ok (.getfield 7, 3) := by decide +kernel
theorem dX12_arrives_55 : decode cX12_arrives 55 = .ok (.bipush 10, 2) := by decide +kernel
theorem dX12_arrives_57 : decode cX12_arrives 57 = .ok (.iaload, 1) := by decide +kernel
theorem dX12_arrives_58 : decode cX12_arrives 58 = .ok (.imul, 1) := by decide +kernel
theorem dX12_arrives_59 : decode cX12_arrives 59 = .ok (.iadd, 1) := by decide +kernel
theorem dX12_arrives_60 : decode cX12_arrives 60 = .ok (.if_icmp .ge 24, 3) := by decide +kernel
theorem dX12_arrives_63 : decode cX12_arrives 63 = .ok (.aload_n 0, 1) := by decide +kernel
theorem dX12_arrives_64 : decode cX12_arrives 64 = .ok (.getfield 7, 3) := by decide +kernel
theorem dX12_arrives_67 : decode cX12_arrives 67 = .ok (.iload_n 1, 1) := by decide +kernel
theorem dX12_arrives_68 : decode cX12_arrives 68 = .ok (.aload_n 0, 1) := by decide +kernel
theorem dX12_arrives_69 : decode cX12_arrives 69 = .ok (.getfield 7, 3) := by decide +kernel
theorem dX12_arrives_72 : decode cX12_arrives 72 = .ok (.iload_n 1, 1) := by decide +kernel
theorem dX12_arrives_73 : decode cX12_arrives 73 = .ok (.bipush 16, 2) := by decide +kernel
theorem dX12_arrives_75 : decode cX12_arrives 75 = .ok (.iadd, 1) := by decide +kernel
theorem dX12_arrives_76 : decode cX12_arrives 76 = .ok (.iaload, 1) := by decide +kernel
theorem dX12_arrives_77 : decode cX12_arrives 77 = .ok (.iastore, 1) := by decide +kernel
theorem dX12_arrives_78 : decode cX12_arrives 78 = .ok (.iinc 1 1, 3) := by decide +kernel
theorem dX12_arrives_81 : decode cX12_arrives 81 = .ok (.goto (-36), 3) := by decide +kernel
theorem dX12_arrives_84 : decode cX12_arrives 84 = .ok (.aload_n 0, 1) := by decide +kernel
theorem dX12_arrives_85 : decode cX12_arrives 85 = .ok (.getfield 45, 3) := by decide +kernel
theorem dX12_arrives_88 : decode cX12_arrives 88 = .ok (.iconst 0, 1) := by decide +kernel
theorem dX12_arrives_89 : decode cX12_arrives 89 = .ok (.iaload, 1) := by decide +kernel
theorem dX12_arrives_90 : decode cX12_arrives 90 = .ok (.ifCond .ne 10, 3) := by decide +kernel
theorem dX12_arrives_93 : decode cX12_arrives 93 = .ok (.aload_n 0, 1) := by decide +kernel
theorem dX12_arrives_94 : decode cX12_arrives 94 = .ok (.invokevirtual 343, 3) := by decide +kernel
theorem dX12_arrives_97 : decode cX12_arrives 97 = .ok (.goto 41, 3) := by decide +kernel
theorem dX12_arrives_100 : decode cX12_arrives 100 = .ok (.aload_n 0, 1) := by decide +kernel
theorem dX12_arrives_101 : decode cX12_arrives 101 = .ok (.getfield 45, 3) := by decide +kernel
theorem dX12_arrives_104 : decode cX12_arrives 104 = .ok (.iconst 0, 1) := by decide +kernel
theorem dX12_arrives_105 : decode cX12_arrives 105 = .ok (.iaload, 1) := by decide +kernel
theorem dX12_arrives_106 : decode cX12_arrives 106 = .ok (.iconst 1, 1) := by decide +kernel
theorem dX12_arrives_107 : decode cX12_arrives 107 = .ok (.if_icmp .ne 10, 3) := by decide +kernel
theorem dX12_arrives_110 : decode cX12_arrives 110 = .ok (.aload_n 0, 1) := by decide +kernel
theorem dX12_arrives_111 : decode cX12_arrives 111 = .ok (.invokevirtual 346, 3) := by decide +kernel
theorem dX12_arrives_114 : decode cX12_arrives 114 = .ok (.goto 24, 3) := by decide +kernel
theorem dX12_arrives_117 : decode cX12_arrives 117 = .ok (.aload_n 0, 1) := by decide +kernel
theorem dX12_arrives_118 : decode cX12_arrives 118 = .ok (.getfield 45, 3) := by decide +kernel
theorem dX12_arrives_121 : decode cX12_arrives 121 = .ok (.iconst 0, 1) := by decide +kernel
theorem dX12_arrives_122 : decode cX12_arrives 122 = .ok (.iaload, 1) := by decide +kernel
theorem dX12_arrives_123 : decode cX12_arrives 123 = .ok (.iconst 2, 1) := by decide +kernel
theorem dX12_arrives_124 : decode cX12_arrives 124 = .ok (.if_icmp .ne 10, 3) := by decide +kernel
theorem dX12_arrives_127 : decode cX12_arrives 127 = .ok (.aload_n 0, 1) := by decide +kernel
theorem dX12_arrives_128 : decode cX12_arrives 128 = .ok (.invokevirtual 349, 3) := by decide +kernel
theorem dX12_arrives_131 : decode cX12_arrives 131 = .ok (.goto 7, 3) := by decide +kernel
theorem dX12_arrives_134 : decode cX12_arrives 134 = .ok (.aload_n 0, 1) := by decide +kernel
theorem dX12_arrives_135 : decode cX12_arrives 135 = .ok (.invokevirtual 352, 3) := by decide +kernel
theorem dX12_arrives_138 : decode cX12_arrives 138 = .ok (.return_, 1) := by decide +kernel
theorem dX12_arriveAll_0 : decode cX12_arriveAll 0 = .ok (.aload_n 0, 1) := by decide +kernel
theorem dX12_arriveAll_1 : decode cX12_arriveAll 1 = .ok (.getfield 7, 3) := by decide +kernel
theorem dX12_arriveAll_4 : decode cX12_arriveAll 4 = .ok (.bipush 8, 2) := by decide +kernel
theorem dX12_arriveAll_6 : decode cX12_arriveAll 6 = .ok (.dup2, 1) := by decide +kernel
theorem dX12_arriveAll_7 : decode cX12_arriveAll 7 = .ok (.iaload, 1) := by decide +kernel
theorem dX12_arriveAll_8 : decode cX12_arriveAll 8 = .ok (.iconst 1, 1) := by decide +kernel
theorem dX12_arriveAll_9 : decode cX12_arriveAll 9 = .ok (.iadd, 1) := by decide +kernel
theorem dX12_arriveAll_10 : decode cX12_arriveAll 10 = .ok (.iastore, 1) := by decide +kernel
theorem dX12_arriveAll_11 : decode cX12_arriveAll 11 = .ok (.aload_n 0, 1) := by decide +kernel
theorem dX12_arriveAll_12 : decode cX12_arriveAll 12 = .ok (.getfield 7, 3) := by decide +kernel
theorem dX12_arriveAll_15 : decode cX12_arriveAll 15 = .ok (.bipush 10, 2) := by decide +kernel
theorem dX12_arriveAll_17 : decode cX12_arriveAll 17 = .ok (.iaload, 1) := by decide +kernel
theorem dX12_arriveAll_18 : decode cX12_arriveAll 18 = .ok (.istore_n 1, 1) := by decide +kernel
theorem dX12_arriveAll_19 : decode cX12_arriveAll 19 = .ok (.iconst 0, 1) := by decide +kernel
theorem dX12_arriveAll_20 : decode cX12_arriveAll 20 = .ok (.istore_n 2, 1) := by decide +kernel
theorem dX12_arriveAll_21 : decode cX12_arriveAll 21 = .ok (.iload_n 2, 1) := by decide +kernel
theorem dX12_arriveAll_22 : decode cX12_arriveAll 22 = .ok (.iload_n 1, 1) := by decide +kernel
theorem dX12_arriveAll_23 : decode cX12_arriveAll 23 = .ok (.if_icmp .ge 13, 3) := by decide +kernel
theorem dX12_arriveAll_26 : decode cX12_arriveAll 26 = .ok (.aload_n 0, 1) := by decide +kernel
theorem dX12_arriveAll_27 : decode cX12_arriveAll 27 = .ok (.invokevirtual 355, 3) := by decide +kernel
theorem dX12_arriveAll_30 : decode cX12_arriveAll 30 = .ok (.iinc 2 1, 3) := by decide +kernel
theorem dX12_arriveAll_33 : decode cX12_arriveAll 33 = .ok (.goto (-12), 3) := by decide +kernel
theorem dX12_arriveAll_36 : decode cX12_arriveAll 36 = .ok (.return_, 1) := by decide +kernel
theorem dX12_leaves_0 : decode cX12_leaves 0 = .ok (.iload_n 2, 1) := by decide +kernel
theorem dX12_leaves_1 : decode cX12_leaves 1 = .ok (.iconst 1, 1) := by decide +kernel
theorem dX12_leaves_2 : decode cX12_leaves 2 = .ok (.iadd, 1) := by decide +kernel
theorem dX12_leaves_3 : decode cX12_leaves 3 = .ok (.istore_n 3, 1) := by decide +kernel
theorem dX12_leaves_4 : decode cX12_leaves 4 = .ok (.iload_n 3, 1) := by decide +kernel
theorem dX12_leaves_5 : decode cX12_leaves 5 = .ok (.aload_n 0, 1) := by decide +kernel
theorem dX12_leaves_6 : decode cX12_leaves 6 = .ok (.iload_n 1, 1) := by decide +kernel
theorem dX12_leaves_7 : decode cX12_leaves 7 = .ok (.iconst 3, 1) := by decide +kernel
theorem dX12_leaves_8 : decode cX12_leaves 8 = .ok (.invokevirtual 180, 3) := by decide +kernel
theorem dX12_leaves_11 : decode cX12_leaves 11 = .ok (.if_icmp .ge 29, 3) := by decide +kernel
theorem dX12_leaves_14 : decode cX12_leaves 14 = .ok (.aload_n 0, 1) := by decide +kernel
theorem dX12_leaves_15 : decode cX12_leaves 15 = .ok (.iload_n 1, 1) := by decide +kernel
theorem dX12_leaves_16 : decode cX12_leaves 16 = .ok (.bipush 81, 2) := by decide +kernel
theorem dX12_leaves_18 : decode cX12_leaves 18 = .ok (.iload_n 3, 1) := by decide +kernel
theorem dX12_leaves_19 : decode cX12_leaves 19 = .ok (.iadd, 1) := by decide +kernel
theorem dX12_leaves_20 : decode cX12_leaves 20 = .ok (.iconst 1, 1) := by decide +kernel
theorem dX12_leaves_21 : decode cX12_leaves 21 = .ok (.isub, 1) := by decide +kernel
theorem dX12_leaves_22 : decode cX12_leaves 22 = .ok (.aload_n 0, 1) := by decide +kernel
theorem dX12_leaves_23 : decode cX12_leaves 23 = .ok (.iload_n 1, 1) := by decide +kernel
theorem dX12_leaves_24 : decode cX12_leaves 24 = .ok (.bipush 81, 2) := by decide +kernel
theorem dX12_leaves_26 : decode cX12_leaves 26 = .ok (.iload_n 3, 1) := by decide +kernel
theorem dX12_leaves_27 : decode cX12_leaves 27 = .ok (.iadd, 1) := by decide +kernel
theorem dX12_leaves_28 : decode cX12_leaves 28 = .ok (.invokevirtual 180, 3) := by decide +kernel
theorem dX12_leaves_31 : decode cX12_leaves 31 = .ok (.invokevirtual 170, 3) := by decide +kernel
theorem dX12_leaves_34 : decode cX12_leaves 34 = .ok (.iinc 3 1, 3) := by decide +kernel
theorem dX12_leaves_37 : decode cX12_leaves 37 = .ok (.goto (-33), 3) := by decide +kernel
theorem dX12_leaves_40 : decode cX12_leaves 40 = .ok (.aload_n 0, 1) := by decide +kernel
theorem dX12_leaves_41 : decode cX12_leaves 41 = .ok (.iload_n 1, 1) := by decide +kernel
theorem dX12_leaves_42 : decode cX12_leaves 42 = .ok (.iconst 3, 1) := by decide +kernel
theorem dX12_leaves_43 : decode cX12_leaves 43 = .ok (.aload_n 0, 1) := by decide +kernel
theorem dX12_leaves_44 : decode cX12_leaves 44 = .ok (.iload_n 1, 1) := by decide +kernel
theorem dX12_leaves_45 : decode cX12_leaves 45 = .ok (.iconst 3, 1) := by decide +kernel
theorem dX12_leaves_46 : decode cX12_leaves 46 = .ok (.invokevirtual 180, 3) := by decide +kernel
theorem dX12_leaves_49 : decode cX12_leaves 49 = .ok (.iconst 1, 1) := by decide +kernel
theorem dX12_leaves_50 : decode cX12_leaves 50 = .ok (.isub, 1) := by decide +kernel
theorem dX12_leaves_51 : decode cX12_leaves 51 = .ok (.invokevirtual 170, 3) := by decide +kernel
theorem dX12_leaves_54 : decode cX12_leaves 54 = .ok (.return_, 1) := by decide +kernel
theorem dX12_drains_0 : decode cX12_drains 0 = .ok (.iconst 0, 1) := by decide +kernel
theorem dX12_drains_1 : decode cX12_drains 1 = .ok (.istore_n 2, 1) := by decide +kernel
theorem dX12_drains_2 : decode cX12_drains 2 = .ok (.iload_n 2, 1) := by decide +kernel
theorem dX12_drains_3 : decode cX12_drains 3 = .ok (.aload_n 0, 1) := by decide +kernel
theorem dX12_drains_4 : decode cX12_drains 4 = .ok (.iload_n 1, 1) := by decide +kernel
theorem dX12_drains_5 : decode cX12_drains 5 = .ok (.iconst 3, 1) := by decide +kernel
theorem dX12_drains_6 : decode cX12_drains 6 = .ok (.invokevirtual 180, 3) := by decide +kernel
theorem dX12_drains_9 : decode cX12_drains 9 = .ok (.if_icmp .ge 86, 3) := by decide +kernel
theorem dX12_drains_12 : decode cX12_drains 12 = .ok (.aload_n 0, 1) := by decide +kernel
theorem dX12_drains_13 : decode cX12_drains 13 = .ok (.iload_n 1, 1) := by decide +kernel
theorem dX12_drains_14 : decode cX12_drains 14 = .ok (.bipush 81, 2) := by decide +kernel
theorem dX12_drains_16 : decode cX12_drains 16 = .ok (.iload_n 2, 1) := by decide +kernel
theorem dX12_drains_17 : decode cX12_drains 17 = .ok (.iadd, 1) := by decide +kernel
theorem dX12_drains_18 : decode cX12_drains 18 = .ok (.invokevirtual 180, 3) := by decide +kernel
theorem dX12_drains_21 : decode cX12_drains 21 = .ok (.istore_n 3, 1) := by decide +kernel
theorem dX12_drains_22 : decode cX12_drains 22 = .ok (.aload_n 0, 1) := by decide +kernel
theorem dX12_drains_23 : decode cX12_drains 23 = .ok (.iload_n 1, 1) := by decide +kernel
theorem dX12_drains_24 : decode cX12_drains 24 = .ok (.aload_n 0, 1) := by decide +kernel
theorem dX12_drains_25 : decode cX12_drains 25 = .ok (.iload_n 3, 1) := by decide +kernel
theorem dX12_drains_26 : decode cX12_drains 26 = .ok (.iconst 1, 1) := by decide +kernel
theorem dX12_drains_27 : decode cX12_drains 27 = .ok (.invokevirtual 246, 3) := by decide +kernel
theorem dX12_drains_30 : decode cX12_drains 30 = .ok (.invokevirtual 265, 3) := by decide +kernel
theorem dX12_drains_33 : decode cX12_drains 33 = .ok (.ifCond .eq 17, 3) := by decide +kernel
theorem dX12_drains_36 : decode cX12_drains 36 = .ok (.aload_n 0, 1) := by decide +kernel
theorem dX12_drains_37 : decode cX12_drains 37 = .ok (.iload_n 1, 1) := by decide +kernel
theorem dX12_drains_38 : decode cX12_drains 38 = .ok (.iload_n 2, 1) := by decide +kernel
theorem dX12_drains_39 : decode cX12_drains 39 = .ok (.invokevirtual 358, 3) := by decide +kernel
theorem dX12_drains_42 : decode cX12_drains 42 = .ok (.aload_n 0, 1) := by decide +kernel
theorem dX12_drains_43 : decode cX12_drains 43 = .ok (.iload_n 3, 1) := by decide +kernel
theorem dX12_drains_44 : decode cX12_drains 44 = .ok (.invokevirtual 268, 3) := by decide +kernel
theorem dX12_drains_47 : decode cX12_drains 47 = .ok (.goto 45, 3) := by decide +kernel
theorem dX12_drains_50 : decode cX12_drains 50 = .ok (.aload_n 0, 1) := by decide +kernel
theorem dX12_drains_51 : decode cX12_drains 51 = .ok (.getfield 7, 3) := by decide +kernel
theorem dX12_drains_54 : decode cX12_drains 54 = .ok (.bipush 8, 2) := by decide +kernel
theorem dX12_drains_56 : decode cX12_drains 56 = .ok (.iaload, 1) := by decide +kernel
theorem dX12_drains_57 : decode cX12_drains 57 = .ok (.aload_n 0, 1) := by decide +kernel
theorem dX12_drains_58 : decode cX12_drains 58 = .ok (.iload_n 3, 1) := by decide +kernel
theorem dX12_drains_59 : decode cX12_drains 59 = .ok (.bipush 9, 2) := by decide +kernel
theorem dX12_drains_61 : decode cX12_drains 61 = .ok (.invokevirtual 246, 3) := by decide +kernel
theorem dX12_drains_64 : decode cX12_drains 64 = .ok (.isub, 1) := by decide +kernel
theorem dX12_drains_65 : decode cX12_drains 65 = .ok (.aload_n 0, 1) := by decide +kernel
theorem dX12_drains_66 : decode cX12_drains 66 = .ok (.getfield 7, 3) := by decide +kernel
theorem dX12_drains_69 : decode cX12_drains 69 = .ok (.iconst 5, 1) := by decide +kernel
theorem dX12_drains_70 : decode cX12_drains 70 = .ok (.iaload, 1) := by decide +kernel
theorem dX12_drains_71 : decode cX12_drains 71 = .ok (.if_icmp .lt 18, 3) := by decide +kernel
theorem dX12_drains_74 : decode cX12_drains 74 = .ok (.aload_n 0, 1) := by decide +kernel
theorem dX12_drains_75 : decode cX12_drains 75 = .ok (.iload_n 1, 1) := by decide +kernel
theorem dX12_drains_76 : decode cX12_drains 76 = .ok (.iload_n 2, 1) := by decide +kernel
theorem dX12_drains_77 : decode cX12_drains 77 = .ok (.invokevirtual 358, 3) := by decide +kernel
theorem dX12_drains_80 : decode cX12_drains 80 = .ok (.aload_n 0, 1) := by decide +kernel
theorem dX12_drains_81 : decode cX12_drains 81 = .ok (.iload_n 3, 1) := by decide +kernel
theorem dX12_drains_82 : decode cX12_drains 82 = .ok (.iconst 3, 1) := by decide +kernel
theorem dX12_drains_83 : decode cX12_drains 83 = .ok (.invokevirtual 256, 3) := by decide +kernel
theorem dX12_drains_86 : decode cX12_drains 86 = .ok (.goto 6, 3) := by decide +kernel
theorem dX12_drains_89 : decode cX12_drains 89 = .ok (.iinc 2 1, 3) := by decide +kernel
theorem dX12_drains_92 : decode cX12_drains 92 = .ok (.goto (-90), 3) := by decide +kernel
theorem dX12_drains_95 : decode cX12_drains 95 = .ok (.return_, 1) := by decide +kernel
theorem dX12_waitsFor_0 : decode cX12_waitsFor 0 = .ok (.iconst 0, 1) := by decide +kernel
theorem dX12_waitsFor_1 : decode cX12_waitsFor 1 = .ok (.istore_n 3, 1) := by decide +kernel
theorem dX12_waitsFor_2 : decode cX12_waitsFor 2 = .ok (.iload_n 3, 1) := by decide +kernel
theorem dX12_waitsFor_3 : decode cX12_waitsFor 3 = .ok (.aload_n 0, 1) := by decide +kernel
theorem dX12_waitsFor_4 : decode cX12_waitsFor 4 = .ok (.iload_n 1, 1) := by decide +kernel
theorem dX12_waitsFor_5 : decode cX12_waitsFor 5 = .ok (.iconst 3, 1) := by decide +kernel
theorem dX12_waitsFor_6 : decode cX12_waitsFor 6 = .ok (.invokevirtual 180, 3) := by decide +kernel
theorem dX12_waitsFor_9 : decode cX12_waitsFor 9 = .ok (.if_icmp .ge 29, 3) := by decide +kernel
theorem dX12_waitsFor_12 : decode cX12_waitsFor 12 = .ok (.aload_n 0, 1) := by decide +kernel
theorem dX12_waitsFor_13 : decode cX12_waitsFor 13 = .ok (.aload_n 0, 1) := by decide +kernel
theorem dX12_waitsFor_14 : decode cX12_waitsFor 14 = .ok (.iload_n 1, 1) := by decide +kernel
theorem dX12_waitsFor_15 : decode cX12_waitsFor 15 = .ok (.bipush 81, 2) := by decide +kernel
theorem dX12_waitsFor_17 : decode cX12_waitsFor 17 = .ok (.iload_n 3, 1) := by decide +kernel
theorem dX12_waitsFor_18 : decode cX12_waitsFor 18 = .ok (.iadd, 1) := by decide +kernel
theorem dX12_waitsFor_19 : decode cX12_waitsFor 19 = .ok (.invokevirtual 180, 3) := by decide +kernel
theorem dX12_waitsFor_22 : decode cX12_waitsFor 22 = .ok (.iconst 1, 1) := by decide +kernel
theorem dX12_waitsFor_23 : decode cX12_waitsFor 23 = .ok (.invokevirtual 246, 3) := by decide +kernel
theorem dX12_waitsFor_26 : decode cX12_waitsFor 26 = .ok (.iload_n 2, 1) := by decide +kernel
theorem dX12_waitsFor_27 : decode cX12_waitsFor 27 = .ok (.if_icmp .ne 5, 3) := by decide +kernel
theorem dX12_waitsFor_30 : decode cX12_waitsFor 30 = .ok (.iconst 1, 1) := by decide +kernel
theorem dX12_waitsFor_31 : decode cX12_waitsFor 31 = .ok (.ireturn, 1) := by decide +kernel
theorem dX12_waitsFor_32 : decode cX12_waitsFor 32 = .ok (.iinc 3 1, 3) := by decide +kernel
theorem dX12_waitsFor_35 : decode cX12_waitsFor 35 = .ok (.goto (-33), 3) := by decide +kernel
theorem dX12_waitsFor_38 : decode cX12_waitsFor 38 = .ok (.iconst 0, 1) := by decide +kernel
theorem dX12_waitsFor_39 : decode cX12_waitsFor 39 = .ok (.ireturn, 1) := by decide +kernel
theorem dX12_asksAgain_0 : decode cX12_asksAgain 0 = .ok (.iconst 0, 1) := by decide +kernel
theorem dX12_asksAgain_1 : decode cX12_asksAgain 1 = .ok (.istore_n 2, 1) := by decide +kernel
theorem dX12_asksAgain_2 : decode cX12_asksAgain 2 = .ok (.iload_n 2, 1) := by decide +kernel
theorem dX12_asksAgain_3 : decode cX12_asksAgain 3 = .ok (.aload_n 0, 1) := by decide +kernel
theorem dX12_asksAgain_4 : decode cX12_asksAgain 4 = .ok (.getfield 7, 3) := by decide +kernel
theorem dX12_asksAgain_7 : decode cX12_asksAgain 7 = .ok (.iconst 0, 1) := by decide +kernel
theorem dX12_asksAgain_8 : decode cX12_asksAgain 8 = .ok (.iaload, 1) := by decide +kernel
theorem dX12_asksAgain_9 : decode cX12_asksAgain 9 = .ok (.if_icmp .ge 74, 3) := by decide +kernel
theorem dX12_asksAgain_12 : decode cX12_asksAgain 12 = .ok (.aload_n 0, 1) := by decide +kernel
theorem dX12_asksAgain_13 : decode cX12_asksAgain 13 = .ok (.iload_n 1, 1) := by decide +kernel
theorem dX12_asksAgain_14 : decode cX12_asksAgain 14 = .ok (.bipush 7, 2) := by decide +kernel
theorem dX12_asksAgain_16 : decode cX12_asksAgain 16 = .ok (.iload_n 2, 1) := by decide +kernel
theorem dX12_asksAgain_17 : decode cX12_asksAgain 17 = .ok (.iadd, 1) := by decide +kernel
theorem dX12_asksAgain_18 : decode cX12_asksAgain 18 = .ok (.invokevirtual 180, 3) := by decide +kernel
theorem dX12_asksAgain_21 : decode cX12_asksAgain 21 = .ok (.istore_n 3, 1) := by decide +kernel
theorem dX12_asksAgain_22 : decode cX12_asksAgain 22 = .ok (.iload_n 3, 1) := by decide +kernel
theorem dX12_asksAgain_23 : decode cX12_asksAgain 23 = .ok (.iconst (-1), 1) := by decide +kernel
theorem dX12_asksAgain_24 : decode cX12_asksAgain 24 = .ok (.if_icmp .ne 6, 3) := by decide +kernel
theorem dX12_asksAgain_27 : decode cX12_asksAgain 27 = .ok (.goto 50, 3) := by decide +kernel
theorem dX12_asksAgain_30 : decode cX12_asksAgain 30 = .ok (.aload_n 0, 1) := by decide +kernel
theorem dX12_asksAgain_31 : decode cX12_asksAgain 31 = .ok (.iload_n 1, 1) := by decide +kernel
theorem dX12_asksAgain_32 : decode cX12_asksAgain 32 = .ok (.iload_n 2, 1) := by decide +kernel
theorem dX12_asksAgain_33 : decode cX12_asksAgain 33 = .ok (.invokevirtual 361, 3) := by decide +kernel
theorem dX12_asksAgain_36 : decode cX12_asksAgain 36 = .ok (.ifCond .ne 16, 3) := by decide +kernel
theorem dX12_asksAgain_39 : decode cX12_asksAgain 39 = .ok (.aload_n 0, 1) := by decide +kernel
theorem dX12_asksAgain_40 : decode cX12_asksAgain 40 = .ok (.iload_n 1, 1) := by decide +kernel
theorem dX12_asksAgain_41 : decode cX12_asksAgain 41 = .ok (.bipush 7, 2) := by decide +kernel
theorem dX12_asksAgain_43 : decode cX12_asksAgain 43 = .ok (.iload_n 2, 1) := by decide +kernel
theorem dX12_asksAgain_44 : decode cX12_asksAgain 44 = .ok (.iadd, 1) := by decide +kernel
theorem dX12_asksAgain_45 : decode cX12_asksAgain 45 = .ok (.iconst (-1), 1) := by decide +kernel
theorem dX12_asksAgain_46 : decode cX12_asksAgain 46 = .ok (.invokevirtual 170, 3) := by decide +kernel
theorem dX12_asksAgain_49 : decode cX12_asksAgain 49 = .ok (.goto 28, 3) := by decide +kernel
theorem dX12_asksAgain_52 : decode cX12_asksAgain 52 = .ok (.aload_n 0, 1) := by decide +kernel
theorem dX12_asksAgain_53 : decode cX12_asksAgain 53 = .ok (.getfield 7, 3) := by decide +kernel
theorem dX12_asksAgain_56 : decode cX12_asksAgain 56 = .ok (.bipush 8, 2) := by decide +kernel
theorem dX12_asksAgain_58 : decode cX12_asksAgain 58 = .ok (.iaload, 1) := by decide +kernel
theorem dX12_asksAgain_59 : decode cX12_asksAgain 59 = .ok (.iload_n 3, 1) := by decide +kernel
theorem dX12_asksAgain_60 : decode cX12_asksAgain 60 = .ok (.isub, 1) := by decide +kernel
theorem dX12_asksAgain_61 : decode cX12_asksAgain 61 = .ok (.aload_n 0, 1) := by decide +kernel
theorem dX12_asksAgain_62 : decode cX12_asksAgain 62 = .ok (.getfield 7, 3) := by decide +kernel
theorem dX12_asksAgain_65 : decode cX12_asksAgain 65 = .ok (.bipush 6, 2) := by decide +kernel
theorem dX12_asksAgain_67 : decode cX12_asksAgain 67 = .ok (.iaload, 1) := by decide +kernel
theorem dX12_asksAgain_68 : decode cX12_asksAgain 68 = .ok (.if_icmp .lt 9, 3) := by decide +kernel
theorem dX12_asksAgain_71 : decode cX12_asksAgain 71 = .ok (.aload_n 0, 1) := by decide +kernel
theorem dX12_asksAgain_72 : decode cX12_asksAgain 72 = .ok (.iload_n 1, 1) := by decide +kernel
theorem dX12_asksAgain_73 : decode cX12_asksAgain 73 = .ok (.iload_n 2, 1) := by decide +kernel
theorem dX12_asksAgain_74 : decode cX12_asksAgain 74 = .ok (.invokevirtual 271, 3) := by decide +kernel
theorem dX12_asksAgain_77 : decode cX12_asksAgain 77 = .ok (.iinc 2 1, 3) := by decide +kernel
theorem dX12_asksAgain_80 : decode cX12_asksAgain 80 = .ok (.goto (-78), 3) := by decide +kernel
theorem dX12_asksAgain_83 : decode cX12_asksAgain 83 = .ok (.return_, 1) := by decide +kernel
theorem dX12_tick_0 : decode cX12_tick 0 = .ok (.aload_n 0, 1) := by decide +kernel
theorem dX12_tick_1 : decode cX12_tick 1 = .ok (.invokevirtual 364, 3) := by decide +kernel
theorem dX12_tick_4 : decode cX12_tick 4 = .ok (.iconst 0, 1) := by decide +kernel
theorem dX12_tick_5 : decode cX12_tick 5 = .ok (.istore_n 1, 1) := by decide +kernel
theorem dX12_tick_6 : decode cX12_tick 6 = .ok (.iload_n 1, 1) := by decide +kernel
theorem dX12_tick_7 : decode cX12_tick 7 = .ok (.aload_n 0, 1) := by decide +kernel
theorem dX12_tick_8 : decode cX12_tick 8 = .ok (.getfield 7, 3) := by decide +kernel
theorem dX12_tick_11 : decode cX12_tick 11 = .ok (.iconst 0, 1) := by decide +kernel
theorem dX12_tick_12 : decode cX12_tick 12 = .ok (.iaload, 1) := by decide +kernel
theorem dX12_tick_13 : decode cX12_tick 13 = .ok (.if_icmp .ge 19, 3) := by decide +kernel
theorem dX12_tick_16 : decode cX12_tick 16 = .ok (.aload_n 0, 1) := by decide +kernel
theorem dX12_tick_17 : decode cX12_tick 17 = .ok (.iload_n 1, 1) := by decide +kernel
theorem dX12_tick_18 : decode cX12_tick 18 = .ok (.invokevirtual 367, 3) := by decide +kernel
theorem dX12_tick_21 : decode cX12_tick 21 = .ok (.aload_n 0, 1) := by decide +kernel
theorem dX12_tick_22 : decode cX12_tick 22 = .ok (.iload_n 1, 1) := by decide +kernel
theorem dX12_tick_23 : decode cX12_tick 23 = .ok (.invokevirtual 370, 3) := by decide +kernel
theorem dX12_tick_26 : decode cX12_tick 26 = .ok (.iinc 1 1, 3) := by decide +kernel
theorem dX12_tick_29 : decode cX12_tick 29 = .ok (.goto (-23), 3) := by decide +kernel
theorem dX12_tick_32 : decode cX12_tick 32 = .ok (.return_, 1) := by decide +kernel
theorem dX12_comes_0 : decode cX12_comes 0 = .ok (.aload_n 0, 1) := by decide +kernel
theorem dX12_comes_1 : decode cX12_comes 1 = .ok (.getfield 7, 3) := by decide +kernel
theorem dX12_comes_4 : decode cX12_comes 4 = .ok (.bipush 9, 2) := by decide +kernel
theorem dX12_comes_6 : decode cX12_comes 6 = .ok (.iaload, 1) := by decide +kernel
theorem dX12_comes_7 : decode cX12_comes 7 = .ok (.istore_n 3, 1) := by decide +kernel
theorem dX12_comes_8 : decode cX12_comes 8 = .ok (.aload_n 0, 1) := by decide +kernel
theorem dX12_comes_9 : decode cX12_comes 9 = .ok (.getfield 7, 3) := by decide +kernel
theorem dX12_comes_12 : decode cX12_comes 12 = .ok (.bipush 9, 2) := by decide +kernel
theorem dX12_comes_14 : decode cX12_comes 14 = .ok (.dup2, 1) := by decide +kernel
theorem dX12_comes_15 : decode cX12_comes 15 = .ok (.iaload, 1) := by decide +kernel
theorem dX12_comes_16 : decode cX12_comes 16 = .ok (.iconst 1, 1) := by decide +kernel
theorem dX12_comes_17 : decode cX12_comes 17 = .ok (.iadd, 1) := by decide +kernel
theorem dX12_comes_18 : decode cX12_comes 18 = .ok (.iastore, 1) := by decide +kernel
theorem dX12_comes_19 : decode cX12_comes 19 = .ok (.iconst 0, 1) := by decide +kernel
theorem dX12_comes_20 : decode cX12_comes 20 = .ok (.istore 4, 2) := by decide +kernel
theorem dX12_comes_22 : decode cX12_comes 22 = .ok (.iload 4, 2) := by decide +kernel
theorem dX12_comes_24 : decode cX12_comes 24 = .ok (.bipush 26, 2) := by decide +kernel
theorem dX12_comes_26 : decode cX12_comes 26 = .ok (.if_icmp .ge 17, 3) := by decide +kernel
theorem dX12_comes_29 : decode cX12_comes 29 = .ok (.aload_n 0, 1) := by decide +kernel
theorem dX12_comes_30 : decode cX12_comes 30 = .ok (.iload_n 3, 1) := by decide +kernel
theorem dX12_comes_31 : decode cX12_comes 31 = .ok (.iload 4, 2) := by decide +kernel
theorem dX12_comes_33 : decode cX12_comes 33 = .ok (.iconst 0, 1) := by decide +kernel
theorem dX12_comes_34 : decode cX12_comes 34 = .ok (.invokevirtual 243, 3) := by decide +kernel
theorem dX12_comes_37 : decode cX12_comes 37 = .ok (.iinc 4 1, 3) := by decide +kernel
theorem dX12_comes_40 : decode cX12_comes 40 = .ok (.goto (-18), 3) := by decide +kernel
theorem dX12_comes_43 : decode cX12_comes 43 = .ok (.aload_n 0, 1) := by decide +kernel
theorem dX12_comes_44 : decode cX12_comes 44 = .ok (.iload_n 3, 1) := by decide +kernel
theorem dX12_comes_45 : decode cX12_comes 45 = .ok (.iconst 0, 1) := by decide +kernel
theorem dX12_comes_46 : decode cX12_comes 46 = .ok (.iload_n 1, 1) := by decide +kernel
theorem dX12_comes_47 : decode cX12_comes 47 = .ok (.invokevirtual 243, 3) := by decide +kernel
theorem dX12_comes_50 : decode cX12_comes 50 = .ok (.aload_n 0, 1) := by decide +kernel
theorem dX12_comes_51 : decode cX12_comes 51 = .ok (.iload_n 3, 1) := by decide +kernel
theorem dX12_comes_52 : decode cX12_comes 52 = .ok (.iconst 1, 1) := by decide +kernel
theorem dX12_comes_53 : decode cX12_comes 53 = .ok (.iload_n 2, 1) := by decide +kernel
theorem dX12_comes_54 : decode cX12_comes 54 = .ok (.invokevirtual 243, 3) := by decide +kernel
theorem dX12_comes_57 : decode cX12_comes 57 = .ok (.aload_n 0, 1) := by decide +kernel
theorem dX12_comes_58 : decode cX12_comes 58 = .ok (.iload_n 3, 1) := by decide +kernel
theorem dX12_comes_59 : decode cX12_comes 59 = .ok (.bipush 6, 2) := by decide +kernel
theorem dX12_comes_61 : decode cX12_comes 61 = .ok (.aload_n 0, 1) := by decide +kernel
theorem dX12_comes_62 : decode cX12_comes 62 = .ok (.getfield 7, 3) := by decide +kernel
theorem dX12_comes_65 : decode cX12_comes 65 = .ok (.bipush 8, 2) := by decide +kernel
theorem dX12_comes_67 : decode cX12_comes 67 = .ok (.iaload, 1) := by decide +kernel
theorem dX12_comes_68 : decode cX12_comes 68 = .ok (.invokevirtual 243, 3) := by decide +kernel
theorem dX12_comes_71 : decode cX12_comes 71 = .ok (.aload_n 0, 1) := by decide +kernel
theorem dX12_comes_72 : decode cX12_comes 72 = .ok (.iload_n 3, 1) := by decide +kernel
theorem dX12_comes_73 : decode cX12_comes 73 = .ok (.bipush 7, 2) := by decide +kernel
theorem dX12_comes_75 : decode cX12_comes 75 = .ok (.iconst (-1), 1) := by decide +kernel
theorem dX12_comes_76 : decode cX12_comes 76 = .ok (.invokevirtual 243, 3) := by decide +kernel
theorem dX12_comes_79 : decode cX12_comes 79 = .ok (.aload_n 0, 1) := by decide +kernel
theorem dX12_comes_80 : decode cX12_comes 80 = .ok (.iload_n 3, 1) := by decide +kernel
theorem dX12_comes_81 : decode cX12_comes 81 = .ok (.iconst 4, 1) := by decide +kernel
theorem dX12_comes_82 : decode cX12_comes 82 = .ok (.iconst 1, 1) := by decide +kernel
theorem dX12_comes_83 : decode cX12_comes 83 = .ok (.invokevirtual 243, 3) := by decide +kernel
theorem dX12_comes_86 : decode cX12_comes 86 = .ok (.aload_n 0, 1) := by decide +kernel
theorem dX12_comes_87 : decode cX12_comes 87 = .ok (.iload_n 3, 1) := by decide +kernel
theorem dX12_comes_88 : decode cX12_comes 88 = .ok (.bipush 10, 2) := by decide +kernel
theorem dX12_comes_90 : decode cX12_comes 90 = .ok (.iload_n 1, 1) := by decide +kernel
theorem dX12_comes_91 : decode cX12_comes 91 = .ok (.invokevirtual 243, 3) := by decide +kernel
theorem dX12_comes_94 : decode cX12_comes 94 = .ok (.aload_n 0, 1) := by decide +kernel
theorem dX12_comes_95 : decode cX12_comes 95 = .ok (.iload_n 3, 1) := by decide +kernel
theorem dX12_comes_96 : decode cX12_comes 96 = .ok (.invokevirtual 289, 3) := by decide +kernel
theorem dX12_comes_99 : decode cX12_comes 99 = .ok (.iload_n 3, 1) := by decide +kernel
theorem dX12_comes_100 : decode cX12_comes 100 = .ok (.ireturn, 1) := by decide +kernel
theorem dX12_send_0 : decode cX12_send 0 = .ok (.aload_n 0, 1) := by decide +kernel
theorem dX12_send_1 : decode cX12_send 1 = .ok (.iconst 0, 1) := by decide +kernel
theorem dX12_send_2 : decode cX12_send 2 = .ok (.putfield 51, 3) := by decide +kernel
theorem dX12_send_5 : decode cX12_send 5 = .ok (.aload_n 0, 1) := by decide +kernel
theorem dX12_send_6 : decode cX12_send 6 = .ok (.iload_n 1, 1) := by decide +kernel
theorem dX12_send_7 : decode cX12_send 7 = .ok (.iload_n 2, 1) := by decide +kernel
theorem dX12_send_8 : decode cX12_send 8 = .ok (.invokevirtual 373, 3) := by decide +kernel
theorem dX12_send_11 : decode cX12_send 11 = .ok (.ifCond .eq 24, 3) := by decide +kernel
theorem dX12_send_14 : decode cX12_send 14 = .ok (.aload_n 0, 1) := by decide +kernel
theorem dX12_send_15 : decode cX12_send 15 = .ok (.getfield 7, 3) := by decide +kernel
theorem dX12_send_18 : decode cX12_send 18 = .ok (.bipush 9, 2) := by decide +kernel
theorem dX12_send_20 : decode cX12_send 20 = .ok (.iaload, 1) := by decide +kernel
theorem dX12_send_21 : decode cX12_send 21 = .ok (.bipush 40, 2) := by decide +kernel
theorem dX12_send_23 : decode cX12_send 23 = .ok (.if_icmp .ge 12, 3) := by decide +kernel
theorem dX12_send_26 : decode cX12_send 26 = .ok (.aload_n 0, 1) := by decide +kernel
theorem dX12_send_27 : decode cX12_send 27 = .ok (.iload_n 1, 1) := by decide +kernel
theorem dX12_send_28 : decode cX12_send 28 = .ok (.iload_n 2, 1) := by decide +kernel
theorem dX12_send_29 : decode cX12_send 29 = .ok (.invokevirtual 376, 3) := by decide +kernel
theorem dX12_send_32 : decode cX12_send 32 = .ok (.goto 4, 3) := by decide +kernel
theorem dX12_send_35 : decode cX12_send 35 = .ok (.iconst (-1), 1) := by decide +kernel
theorem dX12_send_36 : decode cX12_send 36 = .ok (.ireturn, 1) := by decide +kernel
theorem dX12_turn_0 : decode cX12_turn 0 = .ok (.aload_n 0, 1) := by decide +kernel
theorem dX12_turn_1 : decode cX12_turn 1 = .ok (.iconst 0, 1) := by decide +kernel
theorem dX12_turn_2 : decode cX12_turn 2 = .ok (.putfield 51, 3) := by decide +kernel
theorem dX12_turn_5 : decode cX12_turn 5 = .ok (.aload_n 0, 1) := by decide +kernel
theorem dX12_turn_6 : decode cX12_turn 6 = .ok (.iload_n 1, 1) := by decide +kernel
theorem dX12_turn_7 : decode cX12_turn 7 = .ok (.iload_n 2, 1) := by decide +kernel
theorem dX12_turn_8 : decode cX12_turn 8 = .ok (.invokevirtual 373, 3) := by decide +kernel
theorem dX12_turn_11 : decode cX12_turn 11 = .ok (.ifCond .eq 13, 3) := by decide +kernel
theorem dX12_turn_14 : decode cX12_turn 14 = .ok (.aload_n 0, 1) := by decide +kernel
theorem dX12_turn_15 : decode cX12_turn 15 = .ok (.iload_n 1, 1) := by decide +kernel
theorem dX12_turn_16 : decode cX12_turn 16 = .ok (.iload_n 2, 1) := by decide +kernel
theorem dX12_turn_17 : decode cX12_turn 17 = .ok (.invokevirtual 277, 3) := by decide +kernel
theorem dX12_turn_20 : decode cX12_turn 20 = .ok (.iload_n 3, 1) := by decide +kernel
theorem dX12_turn_21 : decode cX12_turn 21 = .ok (.if_icmp .eq 5, 3) := by decide +kernel
theorem dX12_turn_24 : decode cX12_turn 24 = .ok (.iconst 0, 1) := by decide +kernel
theorem dX12_turn_25 : decode cX12_turn 25 = .ok (.ireturn, 1) := by decide +kernel
theorem dX12_turn_26 : decode cX12_turn 26 = .ok (.aload_n 0, 1) := by decide +kernel
theorem dX12_turn_27 : decode cX12_turn 27 = .ok (.iload_n 1, 1) := by decide +kernel
theorem dX12_turn_28 : decode cX12_turn 28 = .ok (.iload_n 2, 1) := by decide +kernel
theorem dX12_turn_29 : decode cX12_turn 29 = .ok (.iload_n 3, 1) := by decide +kernel
theorem dX12_turn_30 : decode cX12_turn 30 = .ok (.ifCond .eq 7, 3) := by decide +kernel
theorem dX12_turn_33 : decode cX12_turn 33 = .ok (.iconst 0, 1) := by decide +kernel
theorem dX12_turn_34 : decode cX12_turn 34 = .ok (.goto 4, 3) := by decide +kernel
theorem dX12_turn_37 : decode cX12_turn 37 = .ok (.iconst 1, 1) := by decide +kernel
theorem dX12_turn_38 : decode cX12_turn 38 = .ok (.invokevirtual 379, 3) := by decide +kernel
theorem dX12_turn_41 : decode cX12_turn 41 = .ok (.iconst 1, 1) := by decide +kernel
theorem dX12_turn_42 : decode cX12_turn 42 = .ok (.ireturn, 1) := by decide +kernel
theorem dX12_ticks_0 : decode cX12_ticks 0 = .ok (.aload_n 0, 1) := by decide +kernel
theorem dX12_ticks_1 : decode cX12_ticks 1 = .ok (.iconst 0, 1) := by decide +kernel
theorem dX12_ticks_2 : decode cX12_ticks 2 = .ok (.putfield 51, 3) := by decide +kernel
theorem dX12_ticks_5 : decode cX12_ticks 5 = .ok (.iload_n 1, 1) := by decide +kernel
theorem dX12_ticks_6 : decode cX12_ticks 6 = .ok (.iconst 1, 1) := by decide +kernel
theorem dX12_ticks_7 : decode cX12_ticks 7 = .ok (.bipush 6, 2) := by decide +kernel
theorem dX12_ticks_9 : decode cX12_ticks 9 = .ok (.invokestatic 55, 3) := by decide +kernel
theorem dX12_ticks_12 : decode cX12_ticks 12 = .ok (.ifCond .eq 18, 3) := by decide +kernel
theorem dX12_ticks_15 : decode cX12_ticks 15 = .ok (.aload_n 0, 1) := by decide +kernel
theorem dX12_ticks_16 : decode cX12_ticks 16 = .ok (.getfield 7, 3) := by decide +kernel
theorem dX12_ticks_19 : decode cX12_ticks 19 = .ok (.bipush 8, 2) := by decide +kernel
theorem dX12_ticks_21 : decode cX12_ticks 21 = .ok (.iaload, 1) := by decide +kernel
theorem dX12_ticks_22 : decode cX12_ticks 22 = .ok (.iload_n 1, 1) := by decide +kernel
theorem dX12_ticks_23 : decode cX12_ticks 23 = .ok (.iadd, 1) := by decide +kernel
theorem dX12_ticks_24 : decode cX12_ticks 24 = .ok (.sipush 900, 3) := by decide +kernel
theorem dX12_ticks_27 : decode cX12_ticks 27 = .ok (.if_icmp .le 5, 3) := by decide +kernel
theorem dX12_ticks_30 : decode cX12_ticks 30 = .ok (.iconst (-1), 1) := by decide +kernel
theorem dX12_ticks_31 : decode cX12_ticks 31 = .ok (.ireturn, 1) := by decide +kernel
theorem dX12_ticks_32 : decode cX12_ticks 32 = .ok (.iconst 0, 1) := by decide +kernel
theorem dX12_ticks_33 : decode cX12_ticks 33 = .ok (.istore_n 2, 1) := by decide +kernel
theorem dX12_ticks_34 : decode cX12_ticks 34 = .ok (.iload_n 2, 1) := by decide +kernel
theorem dX12_ticks_35 : decode cX12_ticks 35 = .ok (.iload_n 1, 1) := by decide +kernel
theorem dX12_ticks_36 : decode cX12_ticks 36 = .ok (.if_icmp .ge 13, 3) := by decide +kernel
theorem dX12_ticks_39 : decode cX12_ticks 39 = .ok (.aload_n 0, 1) := by decide +kernel
theorem dX12_ticks_40 : decode cX12_ticks 40 = .ok (.invokevirtual 382, 3) := by decide +kernel
theorem dX12_ticks_43 : decode cX12_ticks 43 = .ok (.iinc 2 1, 3) := by decide +kernel
theorem dX12_ticks_46 : decode cX12_ticks 46 = .ok (.goto (-12), 3) := by decide +kernel
theorem dX12_ticks_49 : decode cX12_ticks 49 = .ok (.aload_n 0, 1) := by decide +kernel
theorem dX12_ticks_50 : decode cX12_ticks 50 = .ok (.getfield 7, 3) := by decide +kernel
theorem dX12_ticks_53 : decode cX12_ticks 53 = .ok (.bipush 8, 2) := by decide +kernel
theorem dX12_ticks_55 : decode cX12_ticks 55 = .ok (.iaload, 1) := by decide +kernel
theorem dX12_ticks_56 : decode cX12_ticks 56 = .ok (.ireturn, 1) := by decide +kernel
theorem dX12_has__0 : decode cX12_has_ 0 = .ok (.aload_n 0, 1) := by decide +kernel
theorem dX12_has__1 : decode cX12_has_ 1 = .ok (.iconst 0, 1) := by decide +kernel
theorem dX12_has__2 : decode cX12_has_ 2 = .ok (.putfield 51, 3) := by decide +kernel
theorem dX12_has__5 : decode cX12_has_ 5 = .ok (.iload_n 1, 1) := by decide +kernel
theorem dX12_has__6 : decode cX12_has_ 6 = .ok (.iconst 0, 1) := by decide +kernel
theorem dX12_has__7 : decode cX12_has_ 7 = .ok (.bipush 11, 2) := by decide +kernel
theorem dX12_has__9 : decode cX12_has_ 9 = .ok (.invokestatic 55, 3) := by decide +kernel
theorem dX12_has__12 : decode cX12_has_ 12 = .ok (.ifCond .eq 12, 3) := by decide +kernel
theorem dX12_has__15 : decode cX12_has_ 15 = .ok (.aload_n 0, 1) := by decide +kernel
theorem dX12_has__16 : decode cX12_has_ 16 = .ok (.getfield 7, 3) := by decide +kernel
theorem dX12_has__19 : decode cX12_has_ 19 = .ok (.iload_n 1, 1) := by decide +kernel
theorem dX12_has__20 : decode cX12_has_ 20 = .ok (.iaload, 1) := by decide +kernel
theorem dX12_has__21 : decode cX12_has_ 21 = .ok (.goto 4, 3) := by decide +kernel
theorem dX12_has__24 : decode cX12_has_ 24 = .ok (.iconst (-1), 1) := by decide +kernel
theorem dX12_has__25 : decode cX12_has_ 25 = .ok (.ireturn, 1) := by decide +kernel
theorem dX12_asksFor_0 : decode cX12_asksFor 0 = .ok (.iconst 0, 1) := by decide +kernel
theorem dX12_asksFor_1 : decode cX12_asksFor 1 = .ok (.istore_n 2, 1) := by decide +kernel
theorem dX12_asksFor_2 : decode cX12_asksFor 2 = .ok (.iconst 0, 1) := by decide +kernel
theorem dX12_asksFor_3 : decode cX12_asksFor 3 = .ok (.istore_n 3, 1) := by decide +kernel
theorem dX12_asksFor_4 : decode cX12_asksFor 4 = .ok (.iload_n 3, 1) := by decide +kernel
theorem dX12_asksFor_5 : decode cX12_asksFor 5 = .ok (.aload_n 0, 1) := by decide +kernel
theorem dX12_asksFor_6 : decode cX12_asksFor 6 = .ok (.getfield 7, 3) := by decide +kernel
theorem dX12_asksFor_9 : decode cX12_asksFor 9 = .ok (.iconst 0, 1) := by decide +kernel
theorem dX12_asksFor_10 : decode cX12_asksFor 10 = .ok (.iaload, 1) := by decide +kernel
theorem dX12_asksFor_11 : decode cX12_asksFor 11 = .ok (.if_icmp .ge 32, 3) := by decide +kernel
theorem dX12_asksFor_14 : decode cX12_asksFor 14 = .ok (.iload_n 2, 1) := by decide +kernel
theorem dX12_asksFor_15 : decode cX12_asksFor 15 = .ok (.aload_n 0, 1) := by decide +kernel
theorem dX12_asksFor_16 : decode cX12_asksFor 16 = .ok (.iload_n 1, 1) := by decide +kernel
theorem dX12_asksFor_17 : decode cX12_asksFor 17 = .ok (.bipush 7, 2) := by decide +kernel
theorem dX12_asksFor_19 : decode cX12_asksFor 19 = .ok (.iload_n 3, 1) := by decide +kernel
theorem dX12_asksFor_20 : decode cX12_asksFor 20 = .ok (.iadd, 1) := by decide +kernel
theorem dX12_asksFor_21 : decode cX12_asksFor 21 = .ok (.invokevirtual 180, 3) := by decide +kernel
theorem dX12_asksFor_24 : decode cX12_asksFor 24 = .ok (.iconst (-1), 1) := by decide +kernel
theorem dX12_asksFor_25 : decode cX12_asksFor 25 = .ok (.if_icmp .ne 7, 3) := by decide +kernel
theorem dX12_asksFor_28 : decode cX12_asksFor 28 = .ok (.iconst 0, 1) := by decide +kernel
theorem dX12_asksFor_29 : decode cX12_asksFor 29 = .ok (.goto 6, 3) := by decide +kernel
theorem dX12_asksFor_32 : decode cX12_asksFor 32 = .ok (.iconst 1, 1) := by decide +kernel
theorem dX12_asksFor_33 : decode cX12_asksFor 33 = .ok (.iload_n 3, 1) := by decide +kernel
theorem dX12_asksFor_34 : decode cX12_asksFor 34 = .ok (.ishl, 1) := by decide +kernel
theorem dX12_asksFor_35 : decode cX12_asksFor 35 = .ok (.ior, 1) := by decide +kernel
theorem dX12_asksFor_36 : decode cX12_asksFor 36 = .ok (.istore_n 2, 1) := by decide +kernel
theorem dX12_asksFor_37 : decode cX12_asksFor 37 = .ok (.iinc 3 1, 3) := by decide +kernel
theorem dX12_asksFor_40 : decode cX12_asksFor 40 = .ok (.goto (-36), 3) := by decide +kernel
theorem dX12_asksFor_43 : decode cX12_asksFor 43 = .ok (.iload_n 2, 1) := by decide +kernel
theorem dX12_asksFor_44 : decode cX12_asksFor 44 = .ok (.ireturn, 1) := by decide +kernel
theorem dX12_waysOf_0 : decode cX12_waysOf 0 = .ok (.iconst 0, 1) := by decide +kernel
theorem dX12_waysOf_1 : decode cX12_waysOf 1 = .ok (.istore_n 2, 1) := by decide +kernel
theorem dX12_waysOf_2 : decode cX12_waysOf 2 = .ok (.iconst 0, 1) := by decide +kernel
theorem dX12_waysOf_3 : decode cX12_waysOf 3 = .ok (.istore_n 3, 1) := by decide +kernel
theorem dX12_waysOf_4 : decode cX12_waysOf 4 = .ok (.iload_n 3, 1) := by decide +kernel
theorem dX12_waysOf_5 : decode cX12_waysOf 5 = .ok (.aload_n 0, 1) := by decide +kernel
theorem dX12_waysOf_6 : decode cX12_waysOf 6 = .ok (.getfield 7, 3) := by decide +kernel
theorem dX12_waysOf_9 : decode cX12_waysOf 9 = .ok (.iconst 0, 1) := by decide +kernel
theorem dX12_waysOf_10 : decode cX12_waysOf 10 = .ok (.iaload, 1) := by decide +kernel
theorem dX12_waysOf_11 : decode cX12_waysOf 11 = .ok (.if_icmp .ge 28, 3) := by decide +kernel
theorem dX12_waysOf_14 : decode cX12_waysOf 14 = .ok (.iload_n 2, 1) := by decide +kernel
theorem dX12_waysOf_15 : decode cX12_waysOf 15 = .ok (.aload_n 0, 1) := by decide +kernel
theorem dX12_waysOf_16 : decode cX12_waysOf 16 = .ok (.iload_n 1, 1) := by decide +kernel
theorem dX12_waysOf_17 : decode cX12_waysOf 17 = .ok (.iload_n 3, 1) := by decide +kernel
theorem dX12_waysOf_18 : decode cX12_waysOf 18 = .ok (.invokevirtual 265, 3) := by decide +kernel
theorem dX12_waysOf_21 : decode cX12_waysOf 21 = .ok (.ifCond .eq 9, 3) := by decide +kernel
theorem dX12_waysOf_24 : decode cX12_waysOf 24 = .ok (.iconst 1, 1) := by decide +kernel
theorem dX12_waysOf_25 : decode cX12_waysOf 25 = .ok (.iload_n 3, 1) := by decide +kernel
theorem dX12_waysOf_26 : decode cX12_waysOf 26 = .ok (.ishl, 1) := by decide +kernel
theorem dX12_waysOf_27 : decode cX12_waysOf 27 = .ok (.goto 4, 3) := by decide +kernel
theorem dX12_waysOf_30 : decode cX12_waysOf 30 = .ok (.iconst 0, 1) := by decide +kernel
theorem dX12_waysOf_31 : decode cX12_waysOf 31 = .ok (.ior, 1) := by decide +kernel
theorem dX12_waysOf_32 : decode cX12_waysOf 32 = .ok (.istore_n 2, 1) := by decide +kernel
theorem dX12_waysOf_33 : decode cX12_waysOf 33 = .ok (.iinc 3 1, 3) := by decide +kernel
theorem dX12_waysOf_36 : decode cX12_waysOf 36 = .ok (.goto (-32), 3) := by decide +kernel
theorem dX12_waysOf_39 : decode cX12_waysOf 39 = .ok (.iload_n 2, 1) := by decide +kernel
theorem dX12_waysOf_40 : decode cX12_waysOf 40 = .ok (.ireturn, 1) := by decide +kernel
theorem dX12_upOf_0 : decode cX12_upOf 0 = .ok (.iconst 0, 1) := by decide +kernel
theorem dX12_upOf_1 : decode cX12_upOf 1 = .ok (.istore_n 2, 1) := by decide +kernel
theorem dX12_upOf_2 : decode cX12_upOf 2 = .ok (.iconst 0, 1) := by decide +kernel
theorem dX12_upOf_3 : decode cX12_upOf 3 = .ok (.istore_n 3, 1) := by decide +kernel
theorem dX12_upOf_4 : decode cX12_upOf 4 = .ok (.iload_n 3, 1) := by decide +kernel
theorem dX12_upOf_5 : decode cX12_upOf 5 = .ok (.aload_n 0, 1) := by decide +kernel
theorem dX12_upOf_6 : decode cX12_upOf 6 = .ok (.getfield 7, 3) := by decide +kernel
theorem dX12_upOf_9 : decode cX12_upOf 9 = .ok (.iconst 0, 1) := by decide +kernel
theorem dX12_upOf_10 : decode cX12_upOf 10 = .ok (.iaload, 1) := by decide +kernel
theorem dX12_upOf_11 : decode cX12_upOf 11 = .ok (.if_icmp .ge 28, 3) := by decide +kernel
theorem dX12_upOf_14 : decode cX12_upOf 14 = .ok (.iload_n 2, 1) := by decide +kernel
theorem dX12_upOf_15 : decode cX12_upOf 15 = .ok (.aload_n 0, 1) := by decide +kernel
theorem dX12_upOf_16 : decode cX12_upOf 16 = .ok (.iload_n 1, 1) := by decide +kernel
theorem dX12_upOf_17 : decode cX12_upOf 17 = .ok (.iload_n 3, 1) := by decide +kernel
theorem dX12_upOf_18 : decode cX12_upOf 18 = .ok (.invokevirtual 310, 3) := by decide +kernel
theorem dX12_upOf_21 : decode cX12_upOf 21 = .ok (.ifCond .eq 9, 3) := by decide +kernel
theorem dX12_upOf_24 : decode cX12_upOf 24 = .ok (.iconst 1, 1) := by decide +kernel
theorem dX12_upOf_25 : decode cX12_upOf 25 = .ok (.iload_n 3, 1) := by decide +kernel
theorem dX12_upOf_26 : decode cX12_upOf 26 = .ok (.ishl, 1) := by decide +kernel
theorem dX12_upOf_27 : decode cX12_upOf 27 = .ok (.goto 4, 3) := by decide +kernel
theorem dX12_upOf_30 : decode cX12_upOf 30 = .ok (.iconst 0, 1) := by decide +kernel
theorem dX12_upOf_31 : decode cX12_upOf 31 = .ok (.ior, 1) := by decide +kernel
theorem dX12_upOf_32 : decode cX12_upOf 32 = .ok (.istore_n 2, 1) := by decide +kernel
theorem dX12_upOf_33 : decode cX12_upOf 33 = .ok (.iinc 3 1, 3) := by decide +kernel
theorem dX12_upOf_36 : decode cX12_upOf 36 = .ok (.goto (-32), 3) := by decide +kernel
theorem dX12_upOf_39 : decode cX12_upOf 39 = .ok (.iload_n 2, 1) := by decide +kernel
theorem dX12_upOf_40 : decode cX12_upOf 40 = .ok (.ireturn, 1) := by decide +kernel
theorem dX12_node_0 : decode cX12_node 0 = .ok (.aload_n 0, 1) := by decide +kernel
theorem dX12_node_1 : decode cX12_node 1 = .ok (.iconst 0, 1) := by decide +kernel
theorem dX12_node_2 : decode cX12_node 2 = .ok (.putfield 51, 3) := by decide +kernel
theorem dX12_node_5 : decode cX12_node 5 = .ok (.aload_n 0, 1) := by decide +kernel
theorem dX12_node_6 : decode cX12_node 6 = .ok (.iload_n 1, 1) := by decide +kernel
theorem dX12_node_7 : decode cX12_node 7 = .ok (.invokevirtual 59, 3) := by decide +kernel
theorem dX12_node_10 : decode cX12_node 10 = .ok (.ifCond .eq 13, 3) := by decide +kernel
theorem dX12_node_13 : decode cX12_node 13 = .ok (.iload_n 2, 1) := by decide +kernel
theorem dX12_node_14 : decode cX12_node 14 = .ok (.iconst 0, 1) := by decide +kernel
theorem dX12_node_15 : decode cX12_node 15 = .ok (.bipush 9, 2) := by decide +kernel
theorem dX12_node_17 : decode cX12_node 17 = .ok (.invokestatic 55, 3) := by decide +kernel
theorem dX12_node_20 : decode cX12_node 20 = .ok (.ifCond .ne 6, 3) := by decide +kernel
theorem dX12_node_23 : decode cX12_node 23 = .ok (.bipush (-2), 2) := by decide +kernel
theorem dX12_node_25 : decode cX12_node 25 = .ok (.ireturn, 1) := by decide +kernel
theorem dX12_node_26 : decode cX12_node 26 = .ok (.iload_n 2, 1) := by decide +kernel
theorem dX12_node_27 : decode cX12_node 27 = .ok (.bipush 7, 2) := by decide +kernel
theorem dX12_node_29 : decode cX12_node 29 = .ok (.if_icmp .ne 11, 3) := by decide +kernel
theorem dX12_node_32 : decode cX12_node 32 = .ok (.aload_n 0, 1) := by decide +kernel
theorem dX12_node_33 : decode cX12_node 33 = .ok (.iload_n 1, 1) := by decide +kernel
theorem dX12_node_34 : decode cX12_node 34 = .ok (.invokevirtual 385, 3) := by decide +kernel
theorem dX12_node_37 : decode cX12_node 37 = .ok (.goto 37, 3) := by decide +kernel
theorem dX12_node_40 : decode cX12_node 40 = .ok (.iload_n 2, 1) := by decide +kernel
theorem dX12_node_41 : decode cX12_node 41 = .ok (.bipush 8, 2) := by decide +kernel
theorem dX12_node_43 : decode cX12_node 43 = .ok (.if_icmp .ne 11, 3) := by decide +kernel
theorem dX12_node_46 : decode cX12_node 46 = .ok (.aload_n 0, 1) := by decide +kernel
theorem dX12_node_47 : decode cX12_node 47 = .ok (.iload_n 1, 1) := by decide +kernel
theorem dX12_node_48 : decode cX12_node 48 = .ok (.invokevirtual 388, 3) := by decide +kernel
theorem dX12_node_51 : decode cX12_node 51 = .ok (.goto 23, 3) := by decide +kernel
theorem dX12_node_54 : decode cX12_node 54 = .ok (.iload_n 2, 1) := by decide +kernel
theorem dX12_node_55 : decode cX12_node 55 = .ok (.bipush 9, 2) := by decide +kernel
theorem dX12_node_57 : decode cX12_node 57 = .ok (.if_icmp .ne 11, 3) := by decide +kernel
theorem dX12_node_60 : decode cX12_node 60 = .ok (.aload_n 0, 1) := by decide +kernel
theorem dX12_node_61 : decode cX12_node 61 = .ok (.iload_n 1, 1) := by decide +kernel
theorem dX12_node_62 : decode cX12_node 62 = .ok (.invokevirtual 391, 3) := by decide +kernel
theorem dX12_node_65 : decode cX12_node 65 = .ok (.goto 9, 3) := by decide +kernel
theorem dX12_node_68 : decode cX12_node 68 = .ok (.aload_n 0, 1) := by decide +kernel
theorem dX12_node_69 : decode cX12_node 69 = .ok (.iload_n 1, 1) := by decide +kernel
theorem dX12_node_70 : decode cX12_node 70 = .ok (.iload_n 2, 1) := by decide +kernel
theorem dX12_node_71 : decode cX12_node 71 = .ok (.invokevirtual 180, 3) := by decide +kernel
theorem dX12_node_74 : decode cX12_node 74 = .ok (.ireturn, 1) := by decide +kernel
theorem dX12_kept_0 : decode cX12_kept 0 = .ok (.aload_n 0, 1) := by decide +kernel
theorem dX12_kept_1 : decode cX12_kept 1 = .ok (.iconst 0, 1) := by decide +kernel
theorem dX12_kept_2 : decode cX12_kept 2 = .ok (.putfield 51, 3) := by decide +kernel
theorem dX12_kept_5 : decode cX12_kept 5 = .ok (.aload_n 0, 1) := by decide +kernel
theorem dX12_kept_6 : decode cX12_kept 6 = .ok (.iload_n 1, 1) := by decide +kernel
theorem dX12_kept_7 : decode cX12_kept 7 = .ok (.invokevirtual 59, 3) := by decide +kernel
theorem dX12_kept_10 : decode cX12_kept 10 = .ok (.ifCond .eq 19, 3) := by decide +kernel
theorem dX12_kept_13 : decode cX12_kept 13 = .ok (.iload_n 2, 1) := by decide +kernel
theorem dX12_kept_14 : decode cX12_kept 14 = .ok (.iconst 0, 1) := by decide +kernel
theorem dX12_kept_15 : decode cX12_kept 15 = .ok (.aload_n 0, 1) := by decide +kernel
theorem dX12_kept_16 : decode cX12_kept 16 = .ok (.iload_n 1, 1) := by decide +kernel
theorem dX12_kept_17 : decode cX12_kept 17 = .ok (.iconst 2, 1) := by decide +kernel
theorem dX12_kept_18 : decode cX12_kept 18 = .ok (.invokevirtual 180, 3) := by decide +kernel
theorem dX12_kept_21 : decode cX12_kept 21 = .ok (.iconst 1, 1) := by decide +kernel
theorem dX12_kept_22 : decode cX12_kept 22 = .ok (.isub, 1) := by decide +kernel
