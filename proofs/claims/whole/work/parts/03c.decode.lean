theorem dX12_way_12 : decode cX12_way 12 = .ok (.istore_n 1, 1) := by decide +kernel
theorem dX12_way_13 : decode cX12_way 13 = .ok (.aload_n 0, 1) := by decide +kernel
theorem dX12_way_14 : decode cX12_way 14 = .ok (.invokevirtual 127, 3) := by decide +kernel
theorem dX12_way_17 : decode cX12_way 17 = .ok (.ifCond .eq 35, 3) := by decide +kernel
theorem dX12_way_20 : decode cX12_way 20 = .ok (.iload_n 1, 1) := by decide +kernel
theorem dX12_way_21 : decode cX12_way 21 = .ok (.ifCond .eq 11, 3) := by decide +kernel
theorem dX12_way_24 : decode cX12_way 24 = .ok (.aload_n 0, 1) := by decide +kernel
theorem dX12_way_25 : decode cX12_way 25 = .ok (.invokevirtual 131, 3) := by decide +kernel
theorem dX12_way_28 : decode cX12_way 28 = .ok (.iconst (-1), 1) := by decide +kernel
theorem dX12_way_29 : decode cX12_way 29 = .ok (.if_icmp .eq 23, 3) := by decide +kernel
theorem dX12_way_32 : decode cX12_way 32 = .ok (.aload_n 0, 1) := by decide +kernel
theorem dX12_way_33 : decode cX12_way 33 = .ok (.getfield 37, 3) := by decide +kernel
theorem dX12_way_36 : decode cX12_way 36 = .ok (.iload_n 1, 1) := by decide +kernel
theorem dX12_way_37 : decode cX12_way 37 = .ok (.aload_n 0, 1) := by decide +kernel
theorem dX12_way_38 : decode cX12_way 38 = .ok (.bipush 48, 2) := by decide +kernel
theorem dX12_way_40 : decode cX12_way 40 = .ok (.bipush 10, 2) := by decide +kernel
theorem dX12_way_42 : decode cX12_way 42 = .ok (.invokevirtual 143, 3) := by decide +kernel
theorem dX12_way_45 : decode cX12_way 45 = .ok (.iastore, 1) := by decide +kernel
theorem dX12_way_46 : decode cX12_way 46 = .ok (.iinc 1 1, 3) := by decide +kernel
theorem dX12_way_49 : decode cX12_way 49 = .ok (.goto (-36), 3) := by decide +kernel
theorem dX12_way_52 : decode cX12_way 52 = .ok (.aload_n 0, 1) := by decide +kernel
theorem dX12_way_53 : decode cX12_way 53 = .ok (.invokevirtual 156, 3) := by decide +kernel
theorem dX12_way_56 : decode cX12_way 56 = .ok (.ifCond .ne 10, 3) := by decide +kernel
theorem dX12_way_59 : decode cX12_way 59 = .ok (.iconst (-1), 1) := by decide +kernel
theorem dX12_way_60 : decode cX12_way 60 = .ok (.aload_n 0, 1) := by decide +kernel
theorem dX12_way_61 : decode cX12_way 61 = .ok (.getfield 120, 3) := by decide +kernel
theorem dX12_way_64 : decode cX12_way 64 = .ok (.isub, 1) := by decide +kernel
theorem dX12_way_65 : decode cX12_way 65 = .ok (.ireturn, 1) := by decide +kernel
theorem dX12_way_66 : decode cX12_way 66 = .ok (.aload_n 0, 1) := by decide +kernel
theorem dX12_way_67 : decode cX12_way 67 = .ok (.iload_n 1, 1) := by decide +kernel
theorem dX12_way_68 : decode cX12_way 68 = .ok (.putfield 13, 3) := by decide +kernel
theorem dX12_way_71 : decode cX12_way 71 = .ok (.iconst 0, 1) := by decide +kernel
theorem dX12_way_72 : decode cX12_way 72 = .ok (.istore_n 2, 1) := by decide +kernel
theorem dX12_way_73 : decode cX12_way 73 = .ok (.iload_n 2, 1) := by decide +kernel
theorem dX12_way_74 : decode cX12_way 74 = .ok (.bipush 12, 2) := by decide +kernel
theorem dX12_way_76 : decode cX12_way 76 = .ok (.if_icmp .ge 30, 3) := by decide +kernel
theorem dX12_way_79 : decode cX12_way 79 = .ok (.aload_n 0, 1) := by decide +kernel
theorem dX12_way_80 : decode cX12_way 80 = .ok (.getfield 17, 3) := by decide +kernel
theorem dX12_way_83 : decode cX12_way 83 = .ok (.iload_n 2, 1) := by decide +kernel
theorem dX12_way_84 : decode cX12_way 84 = .ok (.iload_n 2, 1) := by decide +kernel
theorem dX12_way_85 : decode cX12_way 85 = .ok (.iload_n 1, 1) := by decide +kernel
theorem dX12_way_86 : decode cX12_way 86 = .ok (.if_icmp .ge 12, 3) := by decide +kernel
theorem dX12_way_89 : decode cX12_way 89 = .ok (.aload_n 0, 1) := by decide +kernel
theorem dX12_way_90 : decode cX12_way 90 = .ok (.getfield 37, 3) := by decide +kernel
theorem dX12_way_93 : decode cX12_way 93 = .ok (.iload_n 2, 1) := by decide +kernel
theorem dX12_way_94 : decode cX12_way 94 = .ok (.iaload, 1) := by decide +kernel
theorem dX12_way_95 : decode cX12_way 95 = .ok (.goto 4, 3) := by decide +kernel
theorem dX12_way_98 : decode cX12_way 98 = .ok (.iconst 0, 1) := by decide +kernel
theorem dX12_way_99 : decode cX12_way 99 = .ok (.iastore, 1) := by decide +kernel
theorem dX12_way_100 : decode cX12_way 100 = .ok (.iinc 2 1, 3) := by decide +kernel
theorem dX12_way_103 : decode cX12_way 103 = .ok (.goto (-30), 3) := by decide +kernel
theorem dX12_way_106 : decode cX12_way 106 = .ok (.aload_n 0, 1) := by decide +kernel
theorem dX12_way_107 : decode cX12_way 107 = .ok (.getfield 9, 3) := by decide +kernel
theorem dX12_way_110 : decode cX12_way 110 = .ok (.bipush 24, 2) := by decide +kernel
theorem dX12_way_112 : decode cX12_way 112 = .ok (.iconst 0, 1) := by decide +kernel
theorem dX12_way_113 : decode cX12_way 113 = .ok (.iastore, 1) := by decide +kernel
theorem dX12_way_114 : decode cX12_way 114 = .ok (.aload_n 0, 1) := by decide +kernel
theorem dX12_way_115 : decode cX12_way 115 = .ok (.getfield 9, 3) := by decide +kernel
theorem dX12_way_118 : decode cX12_way 118 = .ok (.bipush 27, 2) := by decide +kernel
theorem dX12_way_120 : decode cX12_way 120 = .ok (.iconst 0, 1) := by decide +kernel
theorem dX12_way_121 : decode cX12_way 121 = .ok (.iastore, 1) := by decide +kernel
theorem dX12_way_122 : decode cX12_way 122 = .ok (.aload_n 0, 1) := by decide +kernel
theorem dX12_way_123 : decode cX12_way 123 = .ok (.invokevirtual 159, 3) := by decide +kernel
theorem dX12_way_126 : decode cX12_way 126 = .ok (.iload_n 1, 1) := by decide +kernel
theorem dX12_way_127 : decode cX12_way 127 = .ok (.ireturn, 1) := by decide +kernel
theorem dX12_bounded_0 : decode cX12_bounded 0 = .ok (.aload_n 0, 1) := by decide +kernel
theorem dX12_bounded_1 : decode cX12_bounded 1 = .ok (.iconst 2, 1) := by decide +kernel
theorem dX12_bounded_2 : decode cX12_bounded 2 = .ok (.invokevirtual 162, 3) := by decide +kernel
theorem dX12_bounded_5 : decode cX12_bounded 5 = .ok (.istore_n 2, 1) := by decide +kernel
theorem dX12_bounded_6 : decode cX12_bounded 6 = .ok (.aload_n 0, 1) := by decide +kernel
theorem dX12_bounded_7 : decode cX12_bounded 7 = .ok (.invokevirtual 127, 3) := by decide +kernel
theorem dX12_bounded_10 : decode cX12_bounded 10 = .ok (.ifCond .eq 22, 3) := by decide +kernel
theorem dX12_bounded_13 : decode cX12_bounded 13 = .ok (.iload_n 2, 1) := by decide +kernel
theorem dX12_bounded_14 : decode cX12_bounded 14 = .ok (.iconst 1, 1) := by decide +kernel
theorem dX12_bounded_15 : decode cX12_bounded 15 = .ok (.iload_n 1, 1) := by decide +kernel
theorem dX12_bounded_16 : decode cX12_bounded 16 = .ok (.invokestatic 98, 3) := by decide +kernel
theorem dX12_bounded_19 : decode cX12_bounded 19 = .ok (.ifCond .ne 13, 3) := by decide +kernel
theorem dX12_bounded_22 : decode cX12_bounded 22 = .ok (.aload_n 0, 1) := by decide +kernel
theorem dX12_bounded_23 : decode cX12_bounded 23 = .ok (.aload_n 0, 1) := by decide +kernel
theorem dX12_bounded_24 : decode cX12_bounded 24 = .ok (.getfield 117, 3) := by decide +kernel
theorem dX12_bounded_27 : decode cX12_bounded 27 = .ok (.iconst 1, 1) := by decide +kernel
theorem dX12_bounded_28 : decode cX12_bounded 28 = .ok (.isub, 1) := by decide +kernel
theorem dX12_bounded_29 : decode cX12_bounded 29 = .ok (.invokevirtual 139, 3) := by decide +kernel
theorem dX12_bounded_32 : decode cX12_bounded 32 = .ok (.iload_n 2, 1) := by decide +kernel
theorem dX12_bounded_33 : decode cX12_bounded 33 = .ok (.ireturn, 1) := by decide +kernel
theorem dX12_bearers_0 : decode cX12_bearers 0 = .ok (.aload_n 0, 1) := by decide +kernel
theorem dX12_bearers_1 : decode cX12_bearers 1 = .ok (.iconst 0, 1) := by decide +kernel
theorem dX12_bearers_2 : decode cX12_bearers 2 = .ok (.putfield 89, 3) := by decide +kernel
theorem dX12_bearers_5 : decode cX12_bearers 5 = .ok (.aload_n 0, 1) := by decide +kernel
theorem dX12_bearers_6 : decode cX12_bearers 6 = .ok (.bipush 48, 2) := by decide +kernel
theorem dX12_bearers_8 : decode cX12_bearers 8 = .ok (.invokevirtual 153, 3) := by decide +kernel
theorem dX12_bearers_11 : decode cX12_bearers 11 = .ok (.aload_n 0, 1) := by decide +kernel
theorem dX12_bearers_12 : decode cX12_bearers 12 = .ok (.getfield 111, 3) := by decide +kernel
theorem dX12_bearers_15 : decode cX12_bearers 15 = .ok (.ifCond .ne 5, 3) := by decide +kernel
theorem dX12_bearers_18 : decode cX12_bearers 18 = .ok (.iconst 0, 1) := by decide +kernel
theorem dX12_bearers_19 : decode cX12_bearers 19 = .ok (.ireturn, 1) := by decide +kernel
theorem dX12_bearers_20 : decode cX12_bearers 20 = .ok (.iconst 0, 1) := by decide +kernel
theorem dX12_bearers_21 : decode cX12_bearers 21 = .ok (.istore_n 1, 1) := by decide +kernel
theorem dX12_bearers_22 : decode cX12_bearers 22 = .ok (.iconst 1, 1) := by decide +kernel
theorem dX12_bearers_23 : decode cX12_bearers 23 = .ok (.istore_n 2, 1) := by decide +kernel
theorem dX12_bearers_24 : decode cX12_bearers 24 = .ok (.iload_n 2, 1) := by decide +kernel
theorem dX12_bearers_25 : decode cX12_bearers 25 = .ok (.ifCond .eq 85, 3) := by decide +kernel
theorem dX12_bearers_28 : decode cX12_bearers 28 = .ok (.aload_n 0, 1) := by decide +kernel
theorem dX12_bearers_29 : decode cX12_bearers 29 = .ok (.invokevirtual 127, 3) := by decide +kernel
theorem dX12_bearers_32 : decode cX12_bearers 32 = .ok (.ifCond .eq 78, 3) := by decide +kernel
theorem dX12_bearers_35 : decode cX12_bearers 35 = .ok (.aload_n 0, 1) := by decide +kernel
theorem dX12_bearers_36 : decode cX12_bearers 36 = .ok (.getfield 95, 3) := by decide +kernel
theorem dX12_bearers_39 : decode cX12_bearers 39 = .ok (.iload_n 1, 1) := by decide +kernel
theorem dX12_bearers_40 : decode cX12_bearers 40 = .ok (.iadd, 1) := by decide +kernel
theorem dX12_bearers_41 : decode cX12_bearers 41 = .ok (.bipush 8, 2) := by decide +kernel
theorem dX12_bearers_43 : decode cX12_bearers 43 = .ok (.if_icmp .ne 14, 3) := by decide +kernel
theorem dX12_bearers_46 : decode cX12_bearers 46 = .ok (.aload_n 0, 1) := by decide +kernel
theorem dX12_bearers_47 : decode cX12_bearers 47 = .ok (.aload_n 0, 1) := by decide +kernel
theorem dX12_bearers_48 : decode cX12_bearers 48 = .ok (.getfield 117, 3) := by decide +kernel
theorem dX12_bearers_51 : decode cX12_bearers 51 = .ok (.invokevirtual 139, 3) := by decide +kernel
theorem dX12_bearers_54 : decode cX12_bearers 54 = .ok (.goto 43, 3) := by decide +kernel
theorem dX12_bearers_57 : decode cX12_bearers 57 = .ok (.aload_n 0, 1) := by decide +kernel
theorem dX12_bearers_58 : decode cX12_bearers 58 = .ok (.getfield 37, 3) := by decide +kernel
theorem dX12_bearers_61 : decode cX12_bearers 61 = .ok (.iconst 2, 1) := by decide +kernel
theorem dX12_bearers_62 : decode cX12_bearers 62 = .ok (.iload_n 1, 1) := by decide +kernel
theorem dX12_bearers_63 : decode cX12_bearers 63 = .ok (.imul, 1) := by decide +kernel
theorem dX12_bearers_64 : decode cX12_bearers 64 = .ok (.aload_n 0, 1) := by decide +kernel
theorem dX12_bearers_65 : decode cX12_bearers 65 = .ok (.bipush 40, 2) := by decide +kernel
theorem dX12_bearers_67 : decode cX12_bearers 67 = .ok (.invokevirtual 166, 3) := by decide +kernel
theorem dX12_bearers_70 : decode cX12_bearers 70 = .ok (.iastore, 1) := by decide +kernel
theorem dX12_bearers_71 : decode cX12_bearers 71 = .ok (.aload_n 0, 1) := by decide +kernel
theorem dX12_bearers_72 : decode cX12_bearers 72 = .ok (.bipush 44, 2) := by decide +kernel
theorem dX12_bearers_74 : decode cX12_bearers 74 = .ok (.invokevirtual 169, 3) := by decide +kernel
theorem dX12_bearers_77 : decode cX12_bearers 77 = .ok (.aload_n 0, 1) := by decide +kernel
theorem dX12_bearers_78 : decode cX12_bearers 78 = .ok (.getfield 37, 3) := by decide +kernel
theorem dX12_bearers_81 : decode cX12_bearers 81 = .ok (.iconst 2, 1) := by decide +kernel
theorem dX12_bearers_82 : decode cX12_bearers 82 = .ok (.iload_n 1, 1) := by decide +kernel
theorem dX12_bearers_83 : decode cX12_bearers 83 = .ok (.imul, 1) := by decide +kernel
theorem dX12_bearers_84 : decode cX12_bearers 84 = .ok (.iconst 1, 1) := by decide +kernel
theorem dX12_bearers_85 : decode cX12_bearers 85 = .ok (.iadd, 1) := by decide +kernel
theorem dX12_bearers_86 : decode cX12_bearers 86 = .ok (.aload_n 0, 1) := by decide +kernel
theorem dX12_bearers_87 : decode cX12_bearers 87 = .ok (.bipush 49, 2) := by decide +kernel
theorem dX12_bearers_89 : decode cX12_bearers 89 = .ok (.bipush 9, 2) := by decide +kernel
theorem dX12_bearers_91 : decode cX12_bearers 91 = .ok (.invokevirtual 143, 3) := by decide +kernel
theorem dX12_bearers_94 : decode cX12_bearers 94 = .ok (.iconst 1, 1) := by decide +kernel
theorem dX12_bearers_95 : decode cX12_bearers 95 = .ok (.iadd, 1) := by decide +kernel
theorem dX12_bearers_96 : decode cX12_bearers 96 = .ok (.iastore, 1) := by decide +kernel
theorem dX12_bearers_97 : decode cX12_bearers 97 = .ok (.iinc 1 1, 3) := by decide +kernel
theorem dX12_bearers_100 : decode cX12_bearers 100 = .ok (.aload_n 0, 1) := by decide +kernel
theorem dX12_bearers_101 : decode cX12_bearers 101 = .ok (.bipush 59, 2) := by decide +kernel
theorem dX12_bearers_103 : decode cX12_bearers 103 = .ok (.invokevirtual 135, 3) := by decide +kernel
theorem dX12_bearers_106 : decode cX12_bearers 106 = .ok (.istore_n 2, 1) := by decide +kernel
theorem dX12_bearers_107 : decode cX12_bearers 107 = .ok (.goto (-83), 3) := by decide +kernel
theorem dX12_bearers_110 : decode cX12_bearers 110 = .ok (.aload_n 0, 1) := by decide +kernel
theorem dX12_bearers_111 : decode cX12_bearers 111 = .ok (.invokevirtual 156, 3) := by decide +kernel
theorem dX12_bearers_114 : decode cX12_bearers 114 = .ok (.ifCond .ne 10, 3) := by decide +kernel
theorem dX12_bearers_117 : decode cX12_bearers 117 = .ok (.iconst (-1), 1) := by decide +kernel
theorem dX12_bearers_118 : decode cX12_bearers 118 = .ok (.aload_n 0, 1) := by decide +kernel
theorem dX12_bearers_119 : decode cX12_bearers 119 = .ok (.getfield 120, 3) := by decide +kernel
theorem dX12_bearers_122 : decode cX12_bearers 122 = .ok (.isub, 1) := by decide +kernel
theorem dX12_bearers_123 : decode cX12_bearers 123 = .ok (.ireturn, 1) := by decide +kernel
theorem dX12_bearers_124 : decode cX12_bearers 124 = .ok (.iconst 0, 1) := by decide +kernel
theorem dX12_bearers_125 : decode cX12_bearers 125 = .ok (.istore_n 3, 1) := by decide +kernel
theorem dX12_bearers_126 : decode cX12_bearers 126 = .ok (.iload_n 3, 1) := by decide +kernel
theorem dX12_bearers_127 : decode cX12_bearers 127 = .ok (.iload_n 1, 1) := by decide +kernel
theorem dX12_bearers_128 : decode cX12_bearers 128 = .ok (.if_icmp .ge 78, 3) := by decide +kernel
theorem dX12_bearers_131 : decode cX12_bearers 131 = .ok (.aload_n 0, 1) := by decide +kernel
theorem dX12_bearers_132 : decode cX12_bearers 132 = .ok (.getfield 20, 3) := by decide +kernel
theorem dX12_bearers_135 : decode cX12_bearers 135 = .ok (.aload_n 0, 1) := by decide +kernel
theorem dX12_bearers_136 : decode cX12_bearers 136 = .ok (.getfield 95, 3) := by decide +kernel
theorem dX12_bearers_139 : decode cX12_bearers 139 = .ok (.aload_n 0, 1) := by decide +kernel
theorem dX12_bearers_140 : decode cX12_bearers 140 = .ok (.getfield 37, 3) := by decide +kernel
theorem dX12_bearers_143 : decode cX12_bearers 143 = .ok (.iconst 2, 1) := by decide +kernel
theorem dX12_bearers_144 : decode cX12_bearers 144 = .ok (.iload_n 3, 1) := by decide +kernel
theorem dX12_bearers_145 : decode cX12_bearers 145 = .ok (.imul, 1) := by decide +kernel
theorem dX12_bearers_146 : decode cX12_bearers 146 = .ok (.iaload, 1) := by decide +kernel
theorem dX12_bearers_147 : decode cX12_bearers 147 = .ok (.iastore, 1) := by decide +kernel
theorem dX12_bearers_148 : decode cX12_bearers 148 = .ok (.aload_n 0, 1) := by decide +kernel
theorem dX12_bearers_149 : decode cX12_bearers 149 = .ok (.getfield 23, 3) := by decide +kernel
theorem dX12_bearers_152 : decode cX12_bearers 152 = .ok (.aload_n 0, 1) := by decide +kernel
theorem dX12_bearers_153 : decode cX12_bearers 153 = .ok (.getfield 95, 3) := by decide +kernel
theorem dX12_bearers_156 : decode cX12_bearers 156 = .ok (.aload_n 0, 1) := by decide +kernel
theorem dX12_bearers_157 : decode cX12_bearers 157 = .ok (.getfield 37, 3) := by decide +kernel
theorem dX12_bearers_160 : decode cX12_bearers 160 = .ok (.iconst 2, 1) := by decide +kernel
theorem dX12_bearers_161 : decode cX12_bearers 161 = .ok (.iload_n 3, 1) := by decide +kernel
theorem dX12_bearers_162 : decode cX12_bearers 162 = .ok (.imul, 1) := by decide +kernel
theorem dX12_bearers_163 : decode cX12_bearers 163 = .ok (.iconst 1, 1) := by decide +kernel
theorem dX12_bearers_164 : decode cX12_bearers 164 = .ok (.iadd, 1) := by decide +kernel
theorem dX12_bearers_165 : decode cX12_bearers 165 = .ok (.iaload, 1) := by decide +kernel
theorem dX12_bearers_166 : decode cX12_bearers 166 = .ok (.iastore, 1) := by decide +kernel
theorem dX12_bearers_167 : decode cX12_bearers 167 = .ok (.aload_n 0, 1) := by decide +kernel
theorem dX12_bearers_168 : decode cX12_bearers 168 = .ok (.getfield 9, 3) := by decide +kernel
theorem dX12_bearers_171 : decode cX12_bearers 171 = .ok (.aload_n 0, 1) := by decide +kernel
theorem dX12_bearers_172 : decode cX12_bearers 172 = .ok (.getfield 95, 3) := by decide +kernel
theorem dX12_bearers_175 : decode cX12_bearers 175 = .ok (.iconst 0, 1) := by decide +kernel
theorem dX12_bearers_176 : decode cX12_bearers 176 = .ok (.iastore, 1) := by decide +kernel
theorem dX12_bearers_177 : decode cX12_bearers 177 = .ok (.aload_n 0, 1) := by decide +kernel
theorem dX12_bearers_178 : decode cX12_bearers 178 = .ok (.getfield 9, 3) := by decide +kernel
theorem dX12_bearers_181 : decode cX12_bearers 181 = .ok (.bipush 8, 2) := by decide +kernel
theorem dX12_bearers_183 : decode cX12_bearers 183 = .ok (.aload_n 0, 1) := by decide +kernel
theorem dX12_bearers_184 : decode cX12_bearers 184 = .ok (.getfield 95, 3) := by decide +kernel
theorem dX12_bearers_187 : decode cX12_bearers 187 = .ok (.iadd, 1) := by decide +kernel
theorem dX12_bearers_188 : decode cX12_bearers 188 = .ok (.iconst 0, 1) := by decide +kernel
theorem dX12_bearers_189 : decode cX12_bearers 189 = .ok (.iastore, 1) := by decide +kernel
theorem dX12_bearers_190 : decode cX12_bearers 190 = .ok (.aload_n 0, 1) := by decide +kernel
theorem dX12_bearers_191 : decode cX12_bearers 191 = .ok (.dup, 1) := by decide +kernel
theorem dX12_bearers_192 : decode cX12_bearers 192 = .ok (.getfield 95, 3) := by decide +kernel
theorem dX12_bearers_195 : decode cX12_bearers 195 = .ok (.iconst 1, 1) := by decide +kernel
theorem dX12_bearers_196 : decode cX12_bearers 196 = .ok (.iadd, 1) := by decide +kernel
theorem dX12_bearers_197 : decode cX12_bearers 197 = .ok (.putfield 95, 3) := by decide +kernel
theorem dX12_bearers_200 : decode cX12_bearers 200 = .ok (.iinc 3 1, 3) := by decide +kernel
theorem dX12_bearers_203 : decode cX12_bearers 203 = .ok (.goto (-77), 3) := by decide +kernel
theorem dX12_bearers_206 : decode cX12_bearers 206 = .ok (.aload_n 0, 1) := by decide +kernel
theorem dX12_bearers_207 : decode cX12_bearers 207 = .ok (.invokevirtual 159, 3) := by decide +kernel
theorem dX12_bearers_210 : decode cX12_bearers 210 = .ok (.iload_n 1, 1) := by decide +kernel
theorem dX12_bearers_211 : decode cX12_bearers 211 = .ok (.ireturn, 1) := by decide +kernel
theorem dX12_readSaying_0 : decode cX12_readSaying 0 = .ok (.aload_n 0, 1) := by decide +kernel
theorem dX12_readSaying_1 : decode cX12_readSaying 1 = .ok (.getfield 37, 3) := by decide +kernel
theorem dX12_readSaying_4 : decode cX12_readSaying 4 = .ok (.iload_n 1, 1) := by decide +kernel
theorem dX12_readSaying_5 : decode cX12_readSaying 5 = .ok (.aload_n 0, 1) := by decide +kernel
theorem dX12_readSaying_6 : decode cX12_readSaying 6 = .ok (.bipush 20, 2) := by decide +kernel
theorem dX12_readSaying_8 : decode cX12_readSaying 8 = .ok (.invokevirtual 166, 3) := by decide +kernel
theorem dX12_readSaying_11 : decode cX12_readSaying 11 = .ok (.iastore, 1) := by decide +kernel
theorem dX12_readSaying_12 : decode cX12_readSaying 12 = .ok (.aload_n 0, 1) := by decide +kernel
theorem dX12_readSaying_13 : decode cX12_readSaying 13 = .ok (.getfield 37, 3) := by decide +kernel
theorem dX12_readSaying_16 : decode cX12_readSaying 16 = .ok (.iload_n 1, 1) := by decide +kernel
theorem dX12_readSaying_17 : decode cX12_readSaying 17 = .ok (.iconst 1, 1) := by decide +kernel
theorem dX12_readSaying_18 : decode cX12_readSaying 18 = .ok (.iadd, 1) := by decide +kernel
theorem dX12_readSaying_19 : decode cX12_readSaying 19 = .ok (.aload_n 0, 1) := by decide +kernel
theorem dX12_readSaying_20 : decode cX12_readSaying 20 = .ok (.bipush 43, 2) := by decide +kernel
theorem dX12_readSaying_22 : decode cX12_readSaying 22 = .ok (.invokevirtual 135, 3) := by decide +kernel
theorem dX12_readSaying_25 : decode cX12_readSaying 25 = .ok (.ifCond .eq 7, 3) := by decide +kernel
theorem dX12_readSaying_28 : decode cX12_readSaying 28 = .ok (.iconst 1, 1) := by decide +kernel
theorem dX12_readSaying_29 : decode cX12_readSaying 29 = .ok (.goto 4, 3) := by decide +kernel
theorem dX12_readSaying_32 : decode cX12_readSaying 32 = .ok (.iconst 0, 1) := by decide +kernel
theorem dX12_readSaying_33 : decode cX12_readSaying 33 = .ok (.iastore, 1) := by decide +kernel
theorem dX12_readSaying_34 : decode cX12_readSaying 34 = .ok (.aload_n 0, 1) := by decide +kernel
theorem dX12_readSaying_35 : decode cX12_readSaying 35 = .ok (.getfield 37, 3) := by decide +kernel
theorem dX12_readSaying_38 : decode cX12_readSaying 38 = .ok (.iload_n 1, 1) := by decide +kernel
theorem dX12_readSaying_39 : decode cX12_readSaying 39 = .ok (.iconst 1, 1) := by decide +kernel
theorem dX12_readSaying_40 : decode cX12_readSaying 40 = .ok (.iadd, 1) := by decide +kernel
theorem dX12_readSaying_41 : decode cX12_readSaying 41 = .ok (.iaload, 1) := by decide +kernel
theorem dX12_readSaying_42 : decode cX12_readSaying 42 = .ok (.ifCond .ne 9, 3) := by decide +kernel
theorem dX12_readSaying_45 : decode cX12_readSaying 45 = .ok (.aload_n 0, 1) := by decide +kernel
theorem dX12_readSaying_46 : decode cX12_readSaying 46 = .ok (.bipush 45, 2) := by decide +kernel
theorem dX12_readSaying_48 : decode cX12_readSaying 48 = .ok (.invokevirtual 169, 3) := by decide +kernel
theorem dX12_readSaying_51 : decode cX12_readSaying 51 = .ok (.aload_n 0, 1) := by decide +kernel
theorem dX12_readSaying_52 : decode cX12_readSaying 52 = .ok (.getfield 37, 3) := by decide +kernel
theorem dX12_readSaying_55 : decode cX12_readSaying 55 = .ok (.iload_n 1, 1) := by decide +kernel
theorem dX12_readSaying_56 : decode cX12_readSaying 56 = .ok (.iconst 2, 1) := by decide +kernel
theorem dX12_readSaying_57 : decode cX12_readSaying 57 = .ok (.iadd, 1) := by decide +kernel
theorem dX12_readSaying_58 : decode cX12_readSaying 58 = .ok (.aload_n 0, 1) := by decide +kernel
theorem dX12_readSaying_59 : decode cX12_readSaying 59 = .ok (.bipush 48, 2) := by decide +kernel
theorem dX12_readSaying_61 : decode cX12_readSaying 61 = .ok (.bipush 10, 2) := by decide +kernel
theorem dX12_readSaying_63 : decode cX12_readSaying 63 = .ok (.invokevirtual 143, 3) := by decide +kernel
theorem dX12_readSaying_66 : decode cX12_readSaying 66 = .ok (.iastore, 1) := by decide +kernel
theorem dX12_readSaying_67 : decode cX12_readSaying 67 = .ok (.aload_n 0, 1) := by decide +kernel
theorem dX12_readSaying_68 : decode cX12_readSaying 68 = .ok (.getfield 37, 3) := by decide +kernel
theorem dX12_readSaying_71 : decode cX12_readSaying 71 = .ok (.iload_n 1, 1) := by decide +kernel
theorem dX12_readSaying_72 : decode cX12_readSaying 72 = .ok (.iconst 3, 1) := by decide +kernel
theorem dX12_readSaying_73 : decode cX12_readSaying 73 = .ok (.iadd, 1) := by decide +kernel
theorem dX12_readSaying_74 : decode cX12_readSaying 74 = .ok (.iconst 0, 1) := by decide +kernel
theorem dX12_readSaying_75 : decode cX12_readSaying 75 = .ok (.iastore, 1) := by decide +kernel
theorem dX12_readSaying_76 : decode cX12_readSaying 76 = .ok (.iconst (-1), 1) := by decide +kernel
theorem dX12_readSaying_77 : decode cX12_readSaying 77 = .ok (.istore_n 2, 1) := by decide +kernel
theorem dX12_readSaying_78 : decode cX12_readSaying 78 = .ok (.aload_n 0, 1) := by decide +kernel
theorem dX12_readSaying_79 : decode cX12_readSaying 79 = .ok (.invokevirtual 127, 3) := by decide +kernel
theorem dX12_readSaying_82 : decode cX12_readSaying 82 = .ok (.ifCond .eq 70, 3) := by decide +kernel
theorem dX12_readSaying_85 : decode cX12_readSaying 85 = .ok (.aload_n 0, 1) := by decide +kernel
theorem dX12_readSaying_86 : decode cX12_readSaying 86 = .ok (.invokevirtual 131, 3) := by decide +kernel
theorem dX12_readSaying_89 : decode cX12_readSaying 89 = .ok (.bipush 97, 2) := by decide +kernel
theorem dX12_readSaying_91 : decode cX12_readSaying 91 = .ok (.bipush 100, 2) := by decide +kernel
theorem dX12_readSaying_93 : decode cX12_readSaying 93 = .ok (.invokestatic 98, 3) := by decide +kernel
theorem dX12_readSaying_96 : decode cX12_readSaying 96 = .ok (.ifCond .eq 56, 3) := by decide +kernel
theorem dX12_readSaying_99 : decode cX12_readSaying 99 = .ok (.aload_n 0, 1) := by decide +kernel
theorem dX12_readSaying_100 : decode cX12_readSaying 100 = .ok (.invokevirtual 131, 3) := by decide +kernel
theorem dX12_readSaying_103 : decode cX12_readSaying 103 = .ok (.bipush 97, 2) := by decide +kernel
theorem dX12_readSaying_105 : decode cX12_readSaying 105 = .ok (.isub, 1) := by decide +kernel
theorem dX12_readSaying_106 : decode cX12_readSaying 106 = .ok (.istore_n 3, 1) := by decide +kernel
theorem dX12_readSaying_107 : decode cX12_readSaying 107 = .ok (.iload_n 3, 1) := by decide +kernel
theorem dX12_readSaying_108 : decode cX12_readSaying 108 = .ok (.iload_n 2, 1) := by decide +kernel
theorem dX12_readSaying_109 : decode cX12_readSaying 109 = .ok (.if_icmp .gt 14, 3) := by decide +kernel
theorem dX12_readSaying_112 : decode cX12_readSaying 112 = .ok (.aload_n 0, 1) := by decide +kernel
theorem dX12_readSaying_113 : decode cX12_readSaying 113 = .ok (.aload_n 0, 1) := by decide +kernel
theorem dX12_readSaying_114 : decode cX12_readSaying 114 = .ok (.getfield 117, 3) := by decide +kernel
theorem dX12_readSaying_117 : decode cX12_readSaying 117 = .ok (.invokevirtual 139, 3) := by decide +kernel
theorem dX12_readSaying_120 : decode cX12_readSaying 120 = .ok (.goto 29, 3) := by decide +kernel
theorem dX12_readSaying_123 : decode cX12_readSaying 123 = .ok (.aload_n 0, 1) := by decide +kernel
theorem dX12_readSaying_124 : decode cX12_readSaying 124 = .ok (.dup, 1) := by decide +kernel
theorem dX12_readSaying_125 : decode cX12_readSaying 125 = .ok (.getfield 117, 3) := by decide +kernel
theorem dX12_readSaying_128 : decode cX12_readSaying 128 = .ok (.iconst 1, 1) := by decide +kernel
theorem dX12_readSaying_129 : decode cX12_readSaying 129 = .ok (.iadd, 1) := by decide +kernel
theorem dX12_readSaying_130 : decode cX12_readSaying 130 = .ok (.putfield 117, 3) := by decide +kernel
theorem dX12_readSaying_133 : decode cX12_readSaying 133 = .ok (.aload_n 0, 1) := by decide +kernel
theorem dX12_readSaying_134 : decode cX12_readSaying 134 = .ok (.getfield 37, 3) := by decide +kernel
theorem dX12_readSaying_137 : decode cX12_readSaying 137 = .ok (.iload_n 1, 1) := by decide +kernel
theorem dX12_readSaying_138 : decode cX12_readSaying 138 = .ok (.iconst 3, 1) := by decide +kernel
theorem dX12_readSaying_139 : decode cX12_readSaying 139 = .ok (.iadd, 1) := by decide +kernel
theorem dX12_readSaying_140 : decode cX12_readSaying 140 = .ok (.dup2, 1) := by decide +kernel
theorem dX12_readSaying_141 : decode cX12_readSaying 141 = .ok (.iaload, 1) := by decide +kernel
theorem dX12_readSaying_142 : decode cX12_readSaying 142 = .ok (.iconst 1, 1) := by decide +kernel
theorem dX12_readSaying_143 : decode cX12_readSaying 143 = .ok (.iload_n 3, 1) := by decide +kernel
theorem dX12_readSaying_144 : decode cX12_readSaying 144 = .ok (.ishl, 1) := by decide +kernel
theorem dX12_readSaying_145 : decode cX12_readSaying 145 = .ok (.ior, 1) := by decide +kernel
theorem dX12_readSaying_146 : decode cX12_readSaying 146 = .ok (.iastore, 1) := by decide +kernel
theorem dX12_readSaying_147 : decode cX12_readSaying 147 = .ok (.iload_n 3, 1) := by decide +kernel
theorem dX12_readSaying_148 : decode cX12_readSaying 148 = .ok (.istore_n 2, 1) := by decide +kernel
theorem dX12_readSaying_149 : decode cX12_readSaying 149 = .ok (.goto (-71), 3) := by decide +kernel
theorem dX12_readSaying_152 : decode cX12_readSaying 152 = .ok (.return_, 1) := by decide +kernel
theorem dX12_sayings_0 : decode cX12_sayings 0 = .ok (.aload_n 0, 1) := by decide +kernel
theorem dX12_sayings_1 : decode cX12_sayings 1 = .ok (.iconst 0, 1) := by decide +kernel
theorem dX12_sayings_2 : decode cX12_sayings 2 = .ok (.putfield 89, 3) := by decide +kernel
theorem dX12_sayings_5 : decode cX12_sayings 5 = .ok (.aload_n 0, 1) := by decide +kernel
theorem dX12_sayings_6 : decode cX12_sayings 6 = .ok (.bipush 76, 2) := by decide +kernel
theorem dX12_sayings_8 : decode cX12_sayings 8 = .ok (.invokevirtual 153, 3) := by decide +kernel
theorem dX12_sayings_11 : decode cX12_sayings 11 = .ok (.aload_n 0, 1) := by decide +kernel
theorem dX12_sayings_12 : decode cX12_sayings 12 = .ok (.getfield 111, 3) := by decide +kernel
theorem dX12_sayings_15 : decode cX12_sayings 15 = .ok (.ifCond .ne 5, 3) := by decide +kernel
theorem dX12_sayings_18 : decode cX12_sayings 18 = .ok (.iconst 0, 1) := by decide +kernel
theorem dX12_sayings_19 : decode cX12_sayings 19 = .ok (.ireturn, 1) := by decide +kernel
theorem dX12_sayings_20 : decode cX12_sayings 20 = .ok (.iconst 0, 1) := by decide +kernel
theorem dX12_sayings_21 : decode cX12_sayings 21 = .ok (.istore_n 1, 1) := by decide +kernel
theorem dX12_sayings_22 : decode cX12_sayings 22 = .ok (.iconst 1, 1) := by decide +kernel
theorem dX12_sayings_23 : decode cX12_sayings 23 = .ok (.istore_n 2, 1) := by decide +kernel
theorem dX12_sayings_24 : decode cX12_sayings 24 = .ok (.iload_n 2, 1) := by decide +kernel
theorem dX12_sayings_25 : decode cX12_sayings 25 = .ok (.ifCond .eq 52, 3) := by decide +kernel
theorem dX12_sayings_28 : decode cX12_sayings 28 = .ok (.aload_n 0, 1) := by decide +kernel
theorem dX12_sayings_29 : decode cX12_sayings 29 = .ok (.invokevirtual 127, 3) := by decide +kernel
theorem dX12_sayings_32 : decode cX12_sayings 32 = .ok (.ifCond .eq 45, 3) := by decide +kernel
theorem dX12_sayings_35 : decode cX12_sayings 35 = .ok (.aload_n 0, 1) := by decide +kernel
theorem dX12_sayings_36 : decode cX12_sayings 36 = .ok (.getfield 102, 3) := by decide +kernel
theorem dX12_sayings_39 : decode cX12_sayings 39 = .ok (.iload_n 1, 1) := by decide +kernel
theorem dX12_sayings_40 : decode cX12_sayings 40 = .ok (.iadd, 1) := by decide +kernel
theorem dX12_sayings_41 : decode cX12_sayings 41 = .ok (.bipush 8, 2) := by decide +kernel
theorem dX12_sayings_43 : decode cX12_sayings 43 = .ok (.if_icmp .ne 14, 3) := by decide +kernel
theorem dX12_sayings_46 : decode cX12_sayings 46 = .ok (.aload_n 0, 1) := by decide +kernel
theorem dX12_sayings_47 : decode cX12_sayings 47 = .ok (.aload_n 0, 1) := by decide +kernel
theorem dX12_sayings_48 : decode cX12_sayings 48 = .ok (.getfield 117, 3) := by decide +kernel
theorem dX12_sayings_51 : decode cX12_sayings 51 = .ok (.invokevirtual 139, 3) := by decide +kernel
theorem dX12_sayings_54 : decode cX12_sayings 54 = .ok (.goto 10, 3) := by decide +kernel
theorem dX12_sayings_57 : decode cX12_sayings 57 = .ok (.aload_n 0, 1) := by decide +kernel
theorem dX12_sayings_58 : decode cX12_sayings 58 = .ok (.iconst 4, 1) := by decide +kernel
theorem dX12_sayings_59 : decode cX12_sayings 59 = .ok (.iload_n 1, 1) := by decide +kernel
theorem dX12_sayings_60 : decode cX12_sayings 60 = .ok (.imul, 1) := by decide +kernel
theorem dX12_sayings_61 : decode cX12_sayings 61 = .ok (.invokevirtual 173, 3) := by decide +kernel
theorem dX12_sayings_64 : decode cX12_sayings 64 = .ok (.iinc 1 1, 3) := by decide +kernel
theorem dX12_sayings_67 : decode cX12_sayings 67 = .ok (.aload_n 0, 1) := by decide +kernel
theorem dX12_sayings_68 : decode cX12_sayings 68 = .ok (.bipush 59, 2) := by decide +kernel
theorem dX12_sayings_70 : decode cX12_sayings 70 = .ok (.invokevirtual 135, 3) := by decide +kernel
theorem dX12_sayings_73 : decode cX12_sayings 73 = .ok (.istore_n 2, 1) := by decide +kernel
theorem dX12_sayings_74 : decode cX12_sayings 74 = .ok (.goto (-50), 3) := by decide +kernel
theorem dX12_sayings_77 : decode cX12_sayings 77 = .ok (.aload_n 0, 1) := by decide +kernel
theorem dX12_sayings_78 : decode cX12_sayings 78 = .ok (.invokevirtual 156, 3) := by decide +kernel
theorem dX12_sayings_81 : decode cX12_sayings 81 = .ok (.ifCond .ne 10, 3) := by decide +kernel
theorem dX12_sayings_84 : decode cX12_sayings 84 = .ok (.iconst (-1), 1) := by decide +kernel
theorem dX12_sayings_85 : decode cX12_sayings 85 = .ok (.aload_n 0, 1) := by decide +kernel
theorem dX12_sayings_86 : decode cX12_sayings 86 = .ok (.getfield 120, 3) := by decide +kernel
theorem dX12_sayings_89 : decode cX12_sayings 89 = .ok (.isub, 1) := by decide +kernel
theorem dX12_sayings_90 : decode cX12_sayings 90 = .ok (.ireturn, 1) := by decide +kernel
theorem dX12_sayings_91 : decode cX12_sayings 91 = .ok (.iconst 0, 1) := by decide +kernel
theorem dX12_sayings_92 : decode cX12_sayings 92 = .ok (.istore_n 3, 1) := by decide +kernel
theorem dX12_sayings_93 : decode cX12_sayings 93 = .ok (.iload_n 3, 1) := by decide +kernel
theorem dX12_sayings_94 : decode cX12_sayings 94 = .ok (.iconst 4, 1) := by decide +kernel
theorem dX12_sayings_95 : decode cX12_sayings 95 = .ok (.iload_n 1, 1) := by decide +kernel
theorem dX12_sayings_96 : decode cX12_sayings 96 = .ok (.imul, 1) := by decide +kernel
theorem dX12_sayings_97 : decode cX12_sayings 97 = .ok (.if_icmp .ge 28, 3) := by decide +kernel
theorem dX12_sayings_100 : decode cX12_sayings 100 = .ok (.aload_n 0, 1) := by decide +kernel
theorem dX12_sayings_101 : decode cX12_sayings 101 = .ok (.getfield 26, 3) := by decide +kernel
theorem dX12_sayings_104 : decode cX12_sayings 104 = .ok (.iconst 4, 1) := by decide +kernel
theorem dX12_sayings_105 : decode cX12_sayings 105 = .ok (.aload_n 0, 1) := by decide +kernel
theorem dX12_sayings_106 : decode cX12_sayings 106 = .ok (.getfield 102, 3) := by decide +kernel
theorem dX12_sayings_109 : decode cX12_sayings 109 = .ok (.imul, 1) := by decide +kernel
theorem dX12_sayings_110 : decode cX12_sayings 110 = .ok (.iload_n 3, 1) := by decide +kernel
theorem dX12_sayings_111 : decode cX12_sayings 111 = .ok (.iadd, 1) := by decide +kernel
theorem dX12_sayings_112 : decode cX12_sayings 112 = .ok (.aload_n 0, 1) := by decide +kernel
theorem dX12_sayings_113 : decode cX12_sayings 113 = .ok (.getfield 37, 3) := by decide +kernel
theorem dX12_sayings_116 : decode cX12_sayings 116 = .ok (.iload_n 3, 1) := by decide +kernel
theorem dX12_sayings_117 : decode cX12_sayings 117 = .ok (.iaload, 1) := by decide +kernel
theorem dX12_sayings_118 : decode cX12_sayings 118 = .ok (.iastore, 1) := by decide +kernel
theorem dX12_sayings_119 : decode cX12_sayings 119 = .ok (.iinc 3 1, 3) := by decide +kernel
theorem dX12_sayings_122 : decode cX12_sayings 122 = .ok (.goto (-29), 3) := by decide +kernel
theorem dX12_sayings_125 : decode cX12_sayings 125 = .ok (.iconst 0, 1) := by decide +kernel
theorem dX12_sayings_126 : decode cX12_sayings 126 = .ok (.istore_n 3, 1) := by decide +kernel
theorem dX12_sayings_127 : decode cX12_sayings 127 = .ok (.iload_n 3, 1) := by decide +kernel
theorem dX12_sayings_128 : decode cX12_sayings 128 = .ok (.iload_n 1, 1) := by decide +kernel
theorem dX12_sayings_129 : decode cX12_sayings 129 = .ok (.if_icmp .ge 32, 3) := by decide +kernel
theorem dX12_sayings_132 : decode cX12_sayings 132 = .ok (.aload_n 0, 1) := by decide +kernel
theorem dX12_sayings_133 : decode cX12_sayings 133 = .ok (.getfield 9, 3) := by decide +kernel
theorem dX12_sayings_136 : decode cX12_sayings 136 = .ok (.bipush 16, 2) := by decide +kernel
theorem dX12_sayings_138 : decode cX12_sayings 138 = .ok (.aload_n 0, 1) := by decide +kernel
theorem dX12_sayings_139 : decode cX12_sayings 139 = .ok (.getfield 102, 3) := by decide +kernel
theorem dX12_sayings_142 : decode cX12_sayings 142 = .ok (.iadd, 1) := by decide +kernel
theorem dX12_sayings_143 : decode cX12_sayings 143 = .ok (.iconst 0, 1) := by decide +kernel
theorem dX12_sayings_144 : decode cX12_sayings 144 = .ok (.iastore, 1) := by decide +kernel
theorem dX12_sayings_145 : decode cX12_sayings 145 = .ok (.aload_n 0, 1) := by decide +kernel
theorem dX12_sayings_146 : decode cX12_sayings 146 = .ok (.dup, 1) := by decide +kernel
theorem dX12_sayings_147 : decode cX12_sayings 147 = .ok (.getfield 102, 3) := by decide +kernel
theorem dX12_sayings_150 : decode cX12_sayings 150 = .ok (.iconst 1, 1) := by decide +kernel
theorem dX12_sayings_151 : decode cX12_sayings 151 = .ok (.iadd, 1) := by decide +kernel
theorem dX12_sayings_152 : decode cX12_sayings 152 = .ok (.putfield 102, 3) := by decide +kernel
theorem dX12_sayings_155 : decode cX12_sayings 155 = .ok (.iinc 3 1, 3) := by decide +kernel
theorem dX12_sayings_158 : decode cX12_sayings 158 = .ok (.goto (-31), 3) := by decide +kernel
theorem dX12_sayings_161 : decode cX12_sayings 161 = .ok (.aload_n 0, 1) := by decide +kernel
theorem dX12_sayings_162 : decode cX12_sayings 162 = .ok (.invokevirtual 159, 3) := by decide +kernel
theorem dX12_sayings_165 : decode cX12_sayings 165 = .ok (.iload_n 1, 1) := by decide +kernel
theorem dX12_sayings_166 : decode cX12_sayings 166 = .ok (.ireturn, 1) := by decide +kernel
theorem dX12_held_0 : decode cX12_held 0 = .ok (.aload_n 0, 1) := by decide +kernel
theorem dX12_held_1 : decode cX12_held 1 = .ok (.iload_n 1, 1) := by decide +kernel
theorem dX12_held_2 : decode cX12_held 2 = .ok (.invokevirtual 176, 3) := by decide +kernel
theorem dX12_held_5 : decode cX12_held 5 = .ok (.istore_n 2, 1) := by decide +kernel
theorem dX12_held_6 : decode cX12_held 6 = .ok (.aload_n 0, 1) := by decide +kernel
theorem dX12_held_7 : decode cX12_held 7 = .ok (.bipush 60, 2) := by decide +kernel
theorem dX12_held_9 : decode cX12_held 9 = .ok (.invokevirtual 135, 3) := by decide +kernel
theorem dX12_held_12 : decode cX12_held 12 = .ok (.ifCond .eq 18, 3) := by decide +kernel
theorem dX12_held_15 : decode cX12_held 15 = .ok (.iload_n 2, 1) := by decide +kernel
theorem dX12_held_16 : decode cX12_held 16 = .ok (.aload_n 0, 1) := by decide +kernel
theorem dX12_held_17 : decode cX12_held 17 = .ok (.iload_n 1, 1) := by decide +kernel
theorem dX12_held_18 : decode cX12_held 18 = .ok (.invokevirtual 176, 3) := by decide +kernel
theorem dX12_held_21 : decode cX12_held 21 = .ok (.if_icmp .ge 7, 3) := by decide +kernel
theorem dX12_held_24 : decode cX12_held 24 = .ok (.iconst 1, 1) := by decide +kernel
theorem dX12_held_25 : decode cX12_held 25 = .ok (.goto 4, 3) := by decide +kernel
theorem dX12_held_28 : decode cX12_held 28 = .ok (.iconst 0, 1) := by decide +kernel
theorem dX12_held_29 : decode cX12_held 29 = .ok (.ireturn, 1) := by decide +kernel
theorem dX12_held_30 : decode cX12_held 30 = .ok (.aload_n 0, 1) := by decide +kernel
theorem dX12_held_31 : decode cX12_held 31 = .ok (.bipush 62, 2) := by decide +kernel
theorem dX12_held_33 : decode cX12_held 33 = .ok (.invokevirtual 135, 3) := by decide +kernel
theorem dX12_held_36 : decode cX12_held 36 = .ok (.ifCond .eq 18, 3) := by decide +kernel
theorem dX12_held_39 : decode cX12_held 39 = .ok (.iload_n 2, 1) := by decide +kernel
theorem dX12_held_40 : decode cX12_held 40 = .ok (.aload_n 0, 1) := by decide +kernel
theorem dX12_held_41 : decode cX12_held 41 = .ok (.iload_n 1, 1) := by decide +kernel
theorem dX12_held_42 : decode cX12_held 42 = .ok (.invokevirtual 176, 3) := by decide +kernel
theorem dX12_held_45 : decode cX12_held 45 = .ok (.if_icmp .le 7, 3) := by decide +kernel
theorem dX12_held_48 : decode cX12_held 48 = .ok (.iconst 1, 1) := by decide +kernel
theorem dX12_held_49 : decode cX12_held 49 = .ok (.goto 4, 3) := by decide +kernel
theorem dX12_held_52 : decode cX12_held 52 = .ok (.iconst 0, 1) := by decide +kernel
theorem dX12_held_53 : decode cX12_held 53 = .ok (.ireturn, 1) := by decide +kernel
theorem dX12_held_54 : decode cX12_held 54 = .ok (.aload_n 0, 1) := by decide +kernel
theorem dX12_held_55 : decode cX12_held 55 = .ok (.bipush 61, 2) := by decide +kernel
theorem dX12_held_57 : decode cX12_held 57 = .ok (.invokevirtual 135, 3) := by decide +kernel
theorem dX12_held_60 : decode cX12_held 60 = .ok (.ifCond .eq 18, 3) := by decide +kernel
theorem dX12_held_63 : decode cX12_held 63 = .ok (.iload_n 2, 1) := by decide +kernel
theorem dX12_held_64 : decode cX12_held 64 = .ok (.aload_n 0, 1) := by decide +kernel
theorem dX12_held_65 : decode cX12_held 65 = .ok (.iload_n 1, 1) := by decide +kernel
theorem dX12_held_66 : decode cX12_held 66 = .ok (.invokevirtual 176, 3) := by decide +kernel
theorem dX12_held_69 : decode cX12_held 69 = .ok (.if_icmp .ne 7, 3) := by decide +kernel
theorem dX12_held_72 : decode cX12_held 72 = .ok (.iconst 1, 1) := by decide +kernel
theorem dX12_held_73 : decode cX12_held 73 = .ok (.goto 4, 3) := by decide +kernel
theorem dX12_held_76 : decode cX12_held 76 = .ok (.iconst 0, 1) := by decide +kernel
theorem dX12_held_77 : decode cX12_held 77 = .ok (.ireturn, 1) := by decide +kernel
theorem dX12_held_78 : decode cX12_held 78 = .ok (.iload_n 2, 1) := by decide +kernel
theorem dX12_held_79 : decode cX12_held 79 = .ok (.ireturn, 1) := by decide +kernel
theorem dX12_sum_0 : decode cX12_sum 0 = .ok (.aload_n 0, 1) := by decide +kernel
theorem dX12_sum_1 : decode cX12_sum 1 = .ok (.iload_n 1, 1) := by decide +kernel
theorem dX12_sum_2 : decode cX12_sum 2 = .ok (.invokevirtual 179, 3) := by decide +kernel
theorem dX12_sum_5 : decode cX12_sum 5 = .ok (.istore_n 2, 1) := by decide +kernel
theorem dX12_sum_6 : decode cX12_sum 6 = .ok (.aload_n 0, 1) := by decide +kernel
theorem dX12_sum_7 : decode cX12_sum 7 = .ok (.invokevirtual 127, 3) := by decide +kernel
theorem dX12_sum_10 : decode cX12_sum 10 = .ok (.ifCond .eq 72, 3) := by decide +kernel
theorem dX12_sum_13 : decode cX12_sum 13 = .ok (.aload_n 0, 1) := by decide +kernel
theorem dX12_sum_14 : decode cX12_sum 14 = .ok (.invokevirtual 131, 3) := by decide +kernel
theorem dX12_sum_17 : decode cX12_sum 17 = .ok (.bipush 43, 2) := by decide +kernel
theorem dX12_sum_19 : decode cX12_sum 19 = .ok (.if_icmp .eq 12, 3) := by decide +kernel
theorem dX12_sum_22 : decode cX12_sum 22 = .ok (.aload_n 0, 1) := by decide +kernel
theorem dX12_sum_23 : decode cX12_sum 23 = .ok (.invokevirtual 131, 3) := by decide +kernel
theorem dX12_sum_26 : decode cX12_sum 26 = .ok (.bipush 45, 2) := by decide +kernel
theorem dX12_sum_28 : decode cX12_sum 28 = .ok (.if_icmp .ne 54, 3) := by decide +kernel
theorem dX12_sum_31 : decode cX12_sum 31 = .ok (.aload_n 0, 1) := by decide +kernel
theorem dX12_sum_32 : decode cX12_sum 32 = .ok (.invokevirtual 131, 3) := by decide +kernel
theorem dX12_sum_35 : decode cX12_sum 35 = .ok (.bipush 43, 2) := by decide +kernel
theorem dX12_sum_37 : decode cX12_sum 37 = .ok (.if_icmp .ne 7, 3) := by decide +kernel
theorem dX12_sum_40 : decode cX12_sum 40 = .ok (.iconst 1, 1) := by decide +kernel
theorem dX12_sum_41 : decode cX12_sum 41 = .ok (.goto 4, 3) := by decide +kernel
theorem dX12_sum_44 : decode cX12_sum 44 = .ok (.iconst 0, 1) := by decide +kernel
theorem dX12_sum_45 : decode cX12_sum 45 = .ok (.istore_n 3, 1) := by decide +kernel
theorem dX12_sum_46 : decode cX12_sum 46 = .ok (.aload_n 0, 1) := by decide +kernel
theorem dX12_sum_47 : decode cX12_sum 47 = .ok (.dup, 1) := by decide +kernel
theorem dX12_sum_48 : decode cX12_sum 48 = .ok (.getfield 117, 3) := by decide +kernel
theorem dX12_sum_51 : decode cX12_sum 51 = .ok (.iconst 1, 1) := by decide +kernel
theorem dX12_sum_52 : decode cX12_sum 52 = .ok (.iadd, 1) := by decide +kernel
theorem dX12_sum_53 : decode cX12_sum 53 = .ok (.putfield 117, 3) := by decide +kernel
theorem dX12_sum_56 : decode cX12_sum 56 = .ok (.aload_n 0, 1) := by decide +kernel
theorem dX12_sum_57 : decode cX12_sum 57 = .ok (.iload_n 1, 1) := by decide +kernel
theorem dX12_sum_58 : decode cX12_sum 58 = .ok (.invokevirtual 179, 3) := by decide +kernel
theorem dX12_sum_61 : decode cX12_sum 61 = .ok (.istore 4, 2) := by decide +kernel
theorem dX12_sum_63 : decode cX12_sum 63 = .ok (.iload_n 3, 1) := by decide +kernel
theorem dX12_sum_64 : decode cX12_sum 64 = .ok (.ifCond .eq 10, 3) := by decide +kernel
theorem dX12_sum_67 : decode cX12_sum 67 = .ok (.iload_n 2, 1) := by decide +kernel
theorem dX12_sum_68 : decode cX12_sum 68 = .ok (.iload 4, 2) := by decide +kernel
theorem dX12_sum_70 : decode cX12_sum 70 = .ok (.iadd, 1) := by decide +kernel
theorem dX12_sum_71 : decode cX12_sum 71 = .ok (.goto 7, 3) := by decide +kernel
theorem dX12_sum_74 : decode cX12_sum 74 = .ok (.iload_n 2, 1) := by decide +kernel
theorem dX12_sum_75 : decode cX12_sum 75 = .ok (.iload 4, 2) := by decide +kernel
theorem dX12_sum_77 : decode cX12_sum 77 = .ok (.isub, 1) := by decide +kernel
theorem dX12_sum_78 : decode cX12_sum 78 = .ok (.istore_n 2, 1) := by decide +kernel
theorem dX12_sum_79 : decode cX12_sum 79 = .ok (.goto (-73), 3) := by decide +kernel
theorem dX12_sum_82 : decode cX12_sum 82 = .ok (.iload_n 2, 1) := by decide +kernel
theorem dX12_sum_83 : decode cX12_sum 83 = .ok (.ireturn, 1) := by decide +kernel
theorem dX12_product_0 : decode cX12_product 0 = .ok (.aload_n 0, 1) := by decide +kernel
theorem dX12_product_1 : decode cX12_product 1 = .ok (.iload_n 1, 1) := by decide +kernel
theorem dX12_product_2 : decode cX12_product 2 = .ok (.invokevirtual 182, 3) := by decide +kernel
theorem dX12_product_5 : decode cX12_product 5 = .ok (.istore_n 2, 1) := by decide +kernel
theorem dX12_product_6 : decode cX12_product 6 = .ok (.aload_n 0, 1) := by decide +kernel
theorem dX12_product_7 : decode cX12_product 7 = .ok (.invokevirtual 127, 3) := by decide +kernel
theorem dX12_product_10 : decode cX12_product 10 = .ok (.ifCond .eq 81, 3) := by decide +kernel
theorem dX12_product_13 : decode cX12_product 13 = .ok (.aload_n 0, 1) := by decide +kernel
theorem dX12_product_14 : decode cX12_product 14 = .ok (.invokevirtual 131, 3) := by decide +kernel
theorem dX12_product_17 : decode cX12_product 17 = .ok (.bipush 42, 2) := by decide +kernel
theorem dX12_product_19 : decode cX12_product 19 = .ok (.if_icmp .eq 12, 3) := by decide +kernel
theorem dX12_product_22 : decode cX12_product 22 = .ok (.aload_n 0, 1) := by decide +kernel
theorem dX12_product_23 : decode cX12_product 23 = .ok (.invokevirtual 131, 3) := by decide +kernel
theorem dX12_product_26 : decode cX12_product 26 = .ok (.bipush 47, 2) := by decide +kernel
theorem dX12_product_28 : decode cX12_product 28 = .ok (.if_icmp .ne 63, 3) := by decide +kernel
theorem dX12_product_31 : decode cX12_product 31 = .ok (.aload_n 0, 1) := by decide +kernel
theorem dX12_product_32 : decode cX12_product 32 = .ok (.invokevirtual 131, 3) := by decide +kernel
theorem dX12_product_35 : decode cX12_product 35 = .ok (.bipush 42, 2) := by decide +kernel
theorem dX12_product_37 : decode cX12_product 37 = .ok (.if_icmp .ne 7, 3) := by decide +kernel
theorem dX12_product_40 : decode cX12_product 40 = .ok (.iconst 1, 1) := by decide +kernel
theorem dX12_product_41 : decode cX12_product 41 = .ok (.goto 4, 3) := by decide +kernel
theorem dX12_product_44 : decode cX12_product 44 = .ok (.iconst 0, 1) := by decide +kernel
theorem dX12_product_45 : decode cX12_product 45 = .ok (.istore_n 3, 1) := by decide +kernel
theorem dX12_product_46 : decode cX12_product 46 = .ok (.aload_n 0, 1) := by decide +kernel
theorem dX12_product_47 : decode cX12_product 47 = .ok (.dup, 1) := by decide +kernel
theorem dX12_product_48 : decode cX12_product 48 = .ok (.getfield 117, 3) := by decide +kernel
theorem dX12_product_51 : decode cX12_product 51 = .ok (.iconst 1, 1) := by decide +kernel
theorem dX12_product_52 : decode cX12_product 52 = .ok (.iadd, 1) := by decide +kernel
theorem dX12_product_53 : decode cX12_product 53 = .ok (.putfield 117, 3) := by decide +kernel
theorem dX12_product_56 : decode cX12_product 56 = .ok (.aload_n 0, 1) := by decide +kernel
theorem dX12_product_57 : decode cX12_product 57 = .ok (.iload_n 1, 1) := by decide +kernel
theorem dX12_product_58 : decode cX12_product 58 = .ok (.invokevirtual 182, 3) := by decide +kernel
theorem dX12_product_61 : decode cX12_product 61 = .ok (.istore 4, 2) := by decide +kernel
theorem dX12_product_63 : decode cX12_product 63 = .ok (.iload_n 3, 1) := by decide +kernel
theorem dX12_product_64 : decode cX12_product 64 = .ok (.ifCond .eq 10, 3) := by decide +kernel
theorem dX12_product_67 : decode cX12_product 67 = .ok (.iload_n 2, 1) := by decide +kernel
theorem dX12_product_68 : decode cX12_product 68 = .ok (.iload 4, 2) := by decide +kernel
theorem dX12_product_70 : decode cX12_product 70 = .ok (.imul, 1) := by decide +kernel
theorem dX12_product_71 : decode cX12_product 71 = .ok (.goto 16, 3) := by decide +kernel
theorem dX12_product_74 : decode cX12_product 74 = .ok (.iload 4, 2) := by decide +kernel
theorem dX12_product_76 : decode cX12_product 76 = .ok (.ifCond .ne 7, 3) := by decide +kernel
theorem dX12_product_79 : decode cX12_product 79 = .ok (.iconst 0, 1) := by decide +kernel
theorem dX12_product_80 : decode cX12_product 80 = .ok (.goto 7, 3) := by decide +kernel
theorem dX12_product_83 : decode cX12_product 83 = .ok (.iload_n 2, 1) := by decide +kernel
theorem dX12_product_84 : decode cX12_product 84 = .ok (.iload 4, 2) := by decide +kernel
theorem dX12_product_86 : decode cX12_product 86 = .ok (.idiv, 1) := by decide +kernel
theorem dX12_product_87 : decode cX12_product 87 = .ok (.istore_n 2, 1) := by decide +kernel
theorem dX12_product_88 : decode cX12_product 88 = .ok (.goto (-82), 3) := by decide +kernel
theorem dX12_product_91 : decode cX12_product 91 = .ok (.iload_n 2, 1) := by decide +kernel
theorem dX12_product_92 : decode cX12_product 92 = .ok (.ireturn, 1) := by decide +kernel
theorem dX12_letterOf_0 : decode cX12_letterOf 0 = .ok (.iload_n 0, 1) := by decide +kernel
theorem dX12_letterOf_1 : decode cX12_letterOf 1 = .ok (.bipush 115, 2) := by decide +kernel
theorem dX12_letterOf_3 : decode cX12_letterOf 3 = .ok (.if_icmp .ne 7, 3) := by decide +kernel
theorem dX12_letterOf_6 : decode cX12_letterOf 6 = .ok (.iconst 0, 1) := by decide +kernel
theorem dX12_letterOf_7 : decode cX12_letterOf 7 = .ok (.goto 65, 3) := by decide +kernel
theorem dX12_letterOf_10 : decode cX12_letterOf 10 = .ok (.iload_n 0, 1) := by decide +kernel
theorem dX12_letterOf_11 : decode cX12_letterOf 11 = .ok (.bipush 116, 2) := by decide +kernel
theorem dX12_letterOf_13 : decode cX12_letterOf 13 = .ok (.if_icmp .ne 7, 3) := by decide +kernel
theorem dX12_letterOf_16 : decode cX12_letterOf 16 = .ok (.iconst 1, 1) := by decide +kernel
theorem dX12_letterOf_17 : decode cX12_letterOf 17 = .ok (.goto 55, 3) := by decide +kernel
theorem dX12_letterOf_20 : decode cX12_letterOf 20 = .ok (.iload_n 0, 1) := by decide +kernel
theorem dX12_letterOf_21 : decode cX12_letterOf 21 = .ok (.bipush 104, 2) := by decide +kernel
theorem dX12_letterOf_23 : decode cX12_letterOf 23 = .ok (.if_icmp .ne 7, 3) := by decide +kernel
theorem dX12_letterOf_26 : decode cX12_letterOf 26 = .ok (.iconst 2, 1) := by decide +kernel
theorem dX12_letterOf_27 : decode cX12_letterOf 27 = .ok (.goto 45, 3) := by decide +kernel
theorem dX12_letterOf_30 : decode cX12_letterOf 30 = .ok (.iload_n 0, 1) := by decide +kernel
theorem dX12_letterOf_31 : decode cX12_letterOf 31 = .ok (.bipush 120, 2) := by decide +kernel
theorem dX12_letterOf_33 : decode cX12_letterOf 33 = .ok (.if_icmp .ne 7, 3) := by decide +kernel
theorem dX12_letterOf_36 : decode cX12_letterOf 36 = .ok (.iconst 3, 1) := by decide +kernel
theorem dX12_letterOf_37 : decode cX12_letterOf 37 = .ok (.goto 35, 3) := by decide +kernel
theorem dX12_letterOf_40 : decode cX12_letterOf 40 = .ok (.iload_n 0, 1) := by decide +kernel
theorem dX12_letterOf_41 : decode cX12_letterOf 41 = .ok (.bipush 110, 2) := by decide +kernel
theorem dX12_letterOf_43 : decode cX12_letterOf 43 = .ok (.if_icmp .ne 7, 3) := by decide +kernel
theorem dX12_letterOf_46 : decode cX12_letterOf 46 = .ok (.iconst 4, 1) := by decide +kernel
theorem dX12_letterOf_47 : decode cX12_letterOf 47 = .ok (.goto 25, 3) := by decide +kernel
theorem dX12_letterOf_50 : decode cX12_letterOf 50 = .ok (.iload_n 0, 1) := by decide +kernel
theorem dX12_letterOf_51 : decode cX12_letterOf 51 = .ok (.bipush 99, 2) := by decide +kernel
theorem dX12_letterOf_53 : decode cX12_letterOf 53 = .ok (.if_icmp .ne 7, 3) := by decide +kernel
theorem dX12_letterOf_56 : decode cX12_letterOf 56 = .ok (.iconst 5, 1) := by decide +kernel
theorem dX12_letterOf_57 : decode cX12_letterOf 57 = .ok (.goto 15, 3) := by decide +kernel
theorem dX12_letterOf_60 : decode cX12_letterOf 60 = .ok (.iload_n 0, 1) := by decide +kernel
theorem dX12_letterOf_61 : decode cX12_letterOf 61 = .ok (.bipush 105, 2) := by decide +kernel
theorem dX12_letterOf_63 : decode cX12_letterOf 63 = .ok (.if_icmp .ne 8, 3) := by decide +kernel
theorem dX12_letterOf_66 : decode cX12_letterOf 66 = .ok (.bipush 6, 2) := by decide +kernel
theorem dX12_letterOf_68 : decode cX12_letterOf 68 = .ok (.goto 4, 3) := by decide +kernel
theorem dX12_letterOf_71 : decode cX12_letterOf 71 = .ok (.iconst (-1), 1) := by decide +kernel
theorem dX12_letterOf_72 : decode cX12_letterOf 72 = .ok (.ireturn, 1) := by decide +kernel
theorem dX12_thing_0 : decode cX12_thing 0 = .ok (.aload_n 0, 1) := by decide +kernel
theorem dX12_thing_1 : decode cX12_thing 1 = .ok (.bipush 45, 2) := by decide +kernel
theorem dX12_thing_3 : decode cX12_thing 3 = .ok (.invokevirtual 135, 3) := by decide +kernel
theorem dX12_thing_6 : decode cX12_thing 6 = .ok (.ifCond .eq 10, 3) := by decide +kernel
theorem dX12_thing_9 : decode cX12_thing 9 = .ok (.aload_n 0, 1) := by decide +kernel
theorem dX12_thing_10 : decode cX12_thing 10 = .ok (.iload_n 1, 1) := by decide +kernel
theorem dX12_thing_11 : decode cX12_thing 11 = .ok (.invokevirtual 182, 3) := by decide +kernel
theorem dX12_thing_14 : decode cX12_thing 14 = .ok (.ineg, 1) := by decide +kernel
theorem dX12_thing_15 : decode cX12_thing 15 = .ok (.ireturn, 1) := by decide +kernel
theorem dX12_thing_16 : decode cX12_thing 16 = .ok (.aload_n 0, 1) := by decide +kernel
theorem dX12_thing_17 : decode cX12_thing 17 = .ok (.invokevirtual 127, 3) := by decide +kernel
theorem dX12_thing_20 : decode cX12_thing 20 = .ok (.ifCond .ne 5, 3) := by decide +kernel
theorem dX12_thing_23 : decode cX12_thing 23 = .ok (.iconst 0, 1) := by decide +kernel
theorem dX12_thing_24 : decode cX12_thing 24 = .ok (.ireturn, 1) := by decide +kernel
theorem dX12_thing_25 : decode cX12_thing 25 = .ok (.aload_n 0, 1) := by decide +kernel
theorem dX12_thing_26 : decode cX12_thing 26 = .ok (.invokevirtual 131, 3) := by decide +kernel
theorem dX12_thing_29 : decode cX12_thing 29 = .ok (.istore_n 2, 1) := by decide +kernel
theorem dX12_thing_30 : decode cX12_thing 30 = .ok (.iload_n 2, 1) := by decide +kernel
theorem dX12_thing_31 : decode cX12_thing 31 = .ok (.bipush 40, 2) := by decide +kernel
theorem dX12_thing_33 : decode cX12_thing 33 = .ok (.if_icmp .ne 34, 3) := by decide +kernel
theorem dX12_thing_36 : decode cX12_thing 36 = .ok (.iload_n 1, 1) := by decide +kernel
theorem dX12_thing_37 : decode cX12_thing 37 = .ok (.iconst 4, 1) := by decide +kernel
theorem dX12_thing_38 : decode cX12_thing 38 = .ok (.if_icmp .ge 29, 3) := by decide +kernel
theorem dX12_thing_41 : decode cX12_thing 41 = .ok (.aload_n 0, 1) := by decide +kernel
theorem dX12_thing_42 : decode cX12_thing 42 = .ok (.dup, 1) := by decide +kernel
theorem dX12_thing_43 : decode cX12_thing 43 = .ok (.getfield 117, 3) := by decide +kernel
theorem dX12_thing_46 : decode cX12_thing 46 = .ok (.iconst 1, 1) := by decide +kernel
theorem dX12_thing_47 : decode cX12_thing 47 = .ok (.iadd, 1) := by decide +kernel
theorem dX12_thing_48 : decode cX12_thing 48 = .ok (.putfield 117, 3) := by decide +kernel
theorem dX12_thing_51 : decode cX12_thing 51 = .ok (.aload_n 0, 1) := by decide +kernel
theorem dX12_thing_52 : decode cX12_thing 52 = .ok (.iload_n 1, 1) := by decide +kernel
theorem dX12_thing_53 : decode cX12_thing 53 = .ok (.iconst 1, 1) := by decide +kernel
theorem dX12_thing_54 : decode cX12_thing 54 = .ok (.iadd, 1) := by decide +kernel
theorem dX12_thing_55 : decode cX12_thing 55 = .ok (.invokevirtual 185, 3) := by decide +kernel
theorem dX12_thing_58 : decode cX12_thing 58 = .ok (.istore_n 3, 1) := by decide +kernel
theorem dX12_thing_59 : decode cX12_thing 59 = .ok (.aload_n 0, 1) := by decide +kernel
theorem dX12_thing_60 : decode cX12_thing 60 = .ok (.bipush 41, 2) := by decide +kernel
theorem dX12_thing_62 : decode cX12_thing 62 = .ok (.invokevirtual 169, 3) := by decide +kernel
theorem dX12_thing_65 : decode cX12_thing 65 = .ok (.iload_n 3, 1) := by decide +kernel
theorem dX12_thing_66 : decode cX12_thing 66 = .ok (.ireturn, 1) := by decide +kernel
theorem dX12_thing_67 : decode cX12_thing 67 = .ok (.iload_n 2, 1) := by decide +kernel
theorem dX12_thing_68 : decode cX12_thing 68 = .ok (.bipush 48, 2) := by decide +kernel
theorem dX12_thing_70 : decode cX12_thing 70 = .ok (.bipush 57, 2) := by decide +kernel
theorem dX12_thing_72 : decode cX12_thing 72 = .ok (.invokestatic 98, 3) := by decide +kernel
theorem dX12_thing_75 : decode cX12_thing 75 = .ok (.ifCond .eq 9, 3) := by decide +kernel
theorem dX12_thing_78 : decode cX12_thing 78 = .ok (.aload_n 0, 1) := by decide +kernel
theorem dX12_thing_79 : decode cX12_thing 79 = .ok (.iconst 3, 1) := by decide +kernel
theorem dX12_thing_80 : decode cX12_thing 80 = .ok (.invokevirtual 162, 3) := by decide +kernel
theorem dX12_thing_83 : decode cX12_thing 83 = .ok (.ireturn, 1) := by decide +kernel
theorem dX12_thing_84 : decode cX12_thing 84 = .ok (.iload_n 2, 1) := by decide +kernel
theorem dX12_thing_85 : decode cX12_thing 85 = .ok (.invokestatic 188, 3) := by decide +kernel
theorem dX12_thing_88 : decode cX12_thing 88 = .ok (.iconst (-1), 1) := by decide +kernel
theorem dX12_thing_89 : decode cX12_thing 89 = .ok (.if_icmp .ne 13, 3) := by decide +kernel
theorem dX12_thing_92 : decode cX12_thing 92 = .ok (.aload_n 0, 1) := by decide +kernel
theorem dX12_thing_93 : decode cX12_thing 93 = .ok (.aload_n 0, 1) := by decide +kernel
theorem dX12_thing_94 : decode cX12_thing 94 = .ok (.getfield 117, 3) := by decide +kernel
theorem dX12_thing_97 : decode cX12_thing 97 = .ok (.invokevirtual 139, 3) := by decide +kernel
theorem dX12_thing_100 : decode cX12_thing 100 = .ok (.iconst 0, 1) := by decide +kernel
theorem dX12_thing_101 : decode cX12_thing 101 = .ok (.ireturn, 1) := by decide +kernel
theorem dX12_thing_102 : decode cX12_thing 102 = .ok (.aload_n 0, 1) := by decide +kernel
theorem dX12_thing_103 : decode cX12_thing 103 = .ok (.dup, 1) := by decide +kernel
theorem dX12_thing_104 : decode cX12_thing 104 = .ok (.getfield 117, 3) := by decide +kernel
theorem dX12_thing_107 : decode cX12_thing 107 = .ok (.iconst 1, 1) := by decide +kernel
theorem dX12_thing_108 : decode cX12_thing 108 = .ok (.iadd, 1) := by decide +kernel
theorem dX12_thing_109 : decode cX12_thing 109 = .ok (.putfield 117, 3) := by decide +kernel
theorem dX12_thing_112 : decode cX12_thing 112 = .ok (.aload_n 0, 1) := by decide +kernel
theorem dX12_thing_113 : decode cX12_thing 113 = .ok (.getfield 191, 3) := by decide +kernel
theorem dX12_thing_116 : decode cX12_thing 116 = .ok (.ifCond .eq 15, 3) := by decide +kernel
theorem dX12_thing_119 : decode cX12_thing 119 = .ok (.aload_n 0, 1) := by decide +kernel
theorem dX12_thing_120 : decode cX12_thing 120 = .ok (.getfield 46, 3) := by decide +kernel
theorem dX12_thing_123 : decode cX12_thing 123 = .ok (.iload_n 2, 1) := by decide +kernel
theorem dX12_thing_124 : decode cX12_thing 124 = .ok (.invokestatic 188, 3) := by decide +kernel
theorem dX12_thing_127 : decode cX12_thing 127 = .ok (.iaload, 1) := by decide +kernel
theorem dX12_thing_128 : decode cX12_thing 128 = .ok (.goto 4, 3) := by decide +kernel
theorem dX12_thing_131 : decode cX12_thing 131 = .ok (.iconst 0, 1) := by decide +kernel
theorem dX12_thing_132 : decode cX12_thing 132 = .ok (.ireturn, 1) := by decide +kernel
theorem dX12_readRule_0 : decode cX12_readRule 0 = .ok (.aload_n 0, 1) := by decide +kernel
theorem dX12_readRule_1 : decode cX12_readRule 1 = .ok (.bipush 40, 2) := by decide +kernel
theorem dX12_readRule_3 : decode cX12_readRule 3 = .ok (.invokevirtual 153, 3) := by decide +kernel
theorem dX12_readRule_6 : decode cX12_readRule 6 = .ok (.aload_n 0, 1) := by decide +kernel
theorem dX12_readRule_7 : decode cX12_readRule 7 = .ok (.iconst 0, 1) := by decide +kernel
theorem dX12_readRule_8 : decode cX12_readRule 8 = .ok (.putfield 191, 3) := by decide +kernel
theorem dX12_readRule_11 : decode cX12_readRule 11 = .ok (.aload_n 0, 1) := by decide +kernel
theorem dX12_readRule_12 : decode cX12_readRule 12 = .ok (.getfield 111, 3) := by decide +kernel
theorem dX12_readRule_15 : decode cX12_readRule 15 = .ok (.ifCond .le 9, 3) := by decide +kernel
theorem dX12_readRule_18 : decode cX12_readRule 18 = .ok (.aload_n 0, 1) := by decide +kernel
theorem dX12_readRule_19 : decode cX12_readRule 19 = .ok (.iconst 0, 1) := by decide +kernel
theorem dX12_readRule_20 : decode cX12_readRule 20 = .ok (.invokevirtual 185, 3) := by decide +kernel
theorem dX12_readRule_23 : decode cX12_readRule 23 = .ok (.pop, 1) := by decide +kernel
theorem dX12_readRule_24 : decode cX12_readRule 24 = .ok (.aload_n 0, 1) := by decide +kernel
theorem dX12_readRule_25 : decode cX12_readRule 25 = .ok (.invokevirtual 156, 3) := by decide +kernel
theorem dX12_readRule_28 : decode cX12_readRule 28 = .ok (.ireturn, 1) := by decide +kernel
theorem dX12_rule_0 : decode cX12_rule 0 = .ok (.aload_n 0, 1) := by decide +kernel
theorem dX12_rule_1 : decode cX12_rule 1 = .ok (.iconst 0, 1) := by decide +kernel
theorem dX12_rule_2 : decode cX12_rule 2 = .ok (.putfield 89, 3) := by decide +kernel
theorem dX12_rule_5 : decode cX12_rule 5 = .ok (.aload_n 0, 1) := by decide +kernel
theorem dX12_rule_6 : decode cX12_rule 6 = .ok (.getfield 105, 3) := by decide +kernel
theorem dX12_rule_9 : decode cX12_rule 9 = .ok (.istore_n 1, 1) := by decide +kernel
theorem dX12_rule_10 : decode cX12_rule 10 = .ok (.aload_n 0, 1) := by decide +kernel
theorem dX12_rule_11 : decode cX12_rule 11 = .ok (.invokevirtual 195, 3) := by decide +kernel
theorem dX12_rule_14 : decode cX12_rule 14 = .ok (.ifCond .ne 10, 3) := by decide +kernel
theorem dX12_rule_17 : decode cX12_rule 17 = .ok (.iconst (-1), 1) := by decide +kernel
theorem dX12_rule_18 : decode cX12_rule 18 = .ok (.aload_n 0, 1) := by decide +kernel
theorem dX12_rule_19 : decode cX12_rule 19 = .ok (.getfield 120, 3) := by decide +kernel
theorem dX12_rule_22 : decode cX12_rule 22 = .ok (.isub, 1) := by decide +kernel
theorem dX12_rule_23 : decode cX12_rule 23 = .ok (.ireturn, 1) := by decide +kernel
theorem dX12_rule_24 : decode cX12_rule 24 = .ok (.iconst 0, 1) := by decide +kernel
theorem dX12_rule_25 : decode cX12_rule 25 = .ok (.istore_n 2, 1) := by decide +kernel
theorem dX12_rule_26 : decode cX12_rule 26 = .ok (.iload_n 2, 1) := by decide +kernel
theorem dX12_rule_27 : decode cX12_rule 27 = .ok (.iload_n 1, 1) := by decide +kernel
theorem dX12_rule_28 : decode cX12_rule 28 = .ok (.if_icmp .ge 21, 3) := by decide +kernel
theorem dX12_rule_31 : decode cX12_rule 31 = .ok (.aload_n 0, 1) := by decide +kernel
theorem dX12_rule_32 : decode cX12_rule 32 = .ok (.getfield 40, 3) := by decide +kernel
theorem dX12_rule_35 : decode cX12_rule 35 = .ok (.iload_n 2, 1) := by decide +kernel
theorem dX12_rule_36 : decode cX12_rule 36 = .ok (.aload_n 0, 1) := by decide +kernel
theorem dX12_rule_37 : decode cX12_rule 37 = .ok (.getfield 29, 3) := by decide +kernel
theorem dX12_rule_40 : decode cX12_rule 40 = .ok (.iload_n 2, 1) := by decide +kernel
theorem dX12_rule_41 : decode cX12_rule 41 = .ok (.baload, 1) := by decide +kernel
theorem dX12_rule_42 : decode cX12_rule 42 = .ok (.bastore, 1) := by decide +kernel
theorem dX12_rule_43 : decode cX12_rule 43 = .ok (.iinc 2 1, 3) := by decide +kernel
theorem dX12_rule_46 : decode cX12_rule 46 = .ok (.goto (-20), 3) := by decide +kernel
theorem dX12_rule_49 : decode cX12_rule 49 = .ok (.aload_n 0, 1) := by decide +kernel
theorem dX12_rule_50 : decode cX12_rule 50 = .ok (.iload_n 1, 1) := by decide +kernel
theorem dX12_rule_51 : decode cX12_rule 51 = .ok (.putfield 198, 3) := by decide +kernel
theorem dX12_rule_54 : decode cX12_rule 54 = .ok (.iconst 0, 1) := by decide +kernel
theorem dX12_rule_55 : decode cX12_rule 55 = .ok (.ireturn, 1) := by decide +kernel
theorem dX12_steepOf_0 : decode cX12_steepOf 0 = .ok (.aload_n 1, 1) := by decide +kernel
theorem dX12_steepOf_1 : decode cX12_steepOf 1 = .ok (.bipush 24, 2) := by decide +kernel
theorem dX12_steepOf_3 : decode cX12_steepOf 3 = .ok (.iaload, 1) := by decide +kernel
theorem dX12_steepOf_4 : decode cX12_steepOf 4 = .ok (.aload_n 0, 1) := by decide +kernel
theorem dX12_steepOf_5 : decode cX12_steepOf 5 = .ok (.getfield 13, 3) := by decide +kernel
theorem dX12_steepOf_8 : decode cX12_steepOf 8 = .ok (.if_icmp .ge 15, 3) := by decide +kernel
theorem dX12_steepOf_11 : decode cX12_steepOf 11 = .ok (.aload_n 0, 1) := by decide +kernel
theorem dX12_steepOf_12 : decode cX12_steepOf 12 = .ok (.getfield 17, 3) := by decide +kernel
theorem dX12_steepOf_15 : decode cX12_steepOf 15 = .ok (.aload_n 1, 1) := by decide +kernel
theorem dX12_steepOf_16 : decode cX12_steepOf 16 = .ok (.bipush 24, 2) := by decide +kernel
theorem dX12_steepOf_18 : decode cX12_steepOf 18 = .ok (.iaload, 1) := by decide +kernel
theorem dX12_steepOf_19 : decode cX12_steepOf 19 = .ok (.iaload, 1) := by decide +kernel
theorem dX12_steepOf_20 : decode cX12_steepOf 20 = .ok (.goto 4, 3) := by decide +kernel
theorem dX12_steepOf_23 : decode cX12_steepOf 23 = .ok (.iconst 0, 1) := by decide +kernel
theorem dX12_steepOf_24 : decode cX12_steepOf 24 = .ok (.ireturn, 1) := by decide +kernel
theorem dX12_tallest_0 : decode cX12_tallest 0 = .ok (.iconst 0, 1) := by decide +kernel
theorem dX12_tallest_1 : decode cX12_tallest 1 = .ok (.istore_n 2, 1) := by decide +kernel
theorem dX12_tallest_2 : decode cX12_tallest 2 = .ok (.iconst 0, 1) := by decide +kernel
theorem dX12_tallest_3 : decode cX12_tallest 3 = .ok (.istore_n 3, 1) := by decide +kernel
theorem dX12_tallest_4 : decode cX12_tallest 4 = .ok (.iload_n 3, 1) := by decide +kernel
theorem dX12_tallest_5 : decode cX12_tallest 5 = .ok (.aload_n 0, 1) := by decide +kernel
theorem dX12_tallest_6 : decode cX12_tallest 6 = .ok (.getfield 95, 3) := by decide +kernel
theorem dX12_tallest_9 : decode cX12_tallest 9 = .ok (.if_icmp .ge 28, 3) := by decide +kernel
theorem dX12_tallest_12 : decode cX12_tallest 12 = .ok (.iload_n 1, 1) := by decide +kernel
theorem dX12_tallest_13 : decode cX12_tallest 13 = .ok (.iload_n 3, 1) := by decide +kernel
theorem dX12_tallest_14 : decode cX12_tallest 14 = .ok (.invokestatic 201, 3) := by decide +kernel
theorem dX12_tallest_17 : decode cX12_tallest 17 = .ok (.ifCond .eq 14, 3) := by decide +kernel
theorem dX12_tallest_20 : decode cX12_tallest 20 = .ok (.iload_n 2, 1) := by decide +kernel
theorem dX12_tallest_21 : decode cX12_tallest 21 = .ok (.aload_n 0, 1) := by decide +kernel
theorem dX12_tallest_22 : decode cX12_tallest 22 = .ok (.getfield 23, 3) := by decide +kernel
theorem dX12_tallest_25 : decode cX12_tallest 25 = .ok (.iload_n 3, 1) := by decide +kernel
theorem dX12_tallest_26 : decode cX12_tallest 26 = .ok (.iaload, 1) := by decide +kernel
theorem dX12_tallest_27 : decode cX12_tallest 27 = .ok (.invokestatic 205, 3) := by decide +kernel
theorem dX12_tallest_30 : decode cX12_tallest 30 = .ok (.istore_n 2, 1) := by decide +kernel
theorem dX12_tallest_31 : decode cX12_tallest 31 = .ok (.iinc 3 1, 3) := by decide +kernel
theorem dX12_tallest_34 : decode cX12_tallest 34 = .ok (.goto (-30), 3) := by decide +kernel
theorem dX12_tallest_37 : decode cX12_tallest 37 = .ok (.iload_n 2, 1) := by decide +kernel
theorem dX12_tallest_38 : decode cX12_tallest 38 = .ok (.ireturn, 1) := by decide +kernel
theorem dX12_bearsOf_0 : decode cX12_bearsOf 0 = .ok (.aload_n 0, 1) := by decide +kernel
theorem dX12_bearsOf_1 : decode cX12_bearsOf 1 = .ok (.iload_n 3, 1) := by decide +kernel
theorem dX12_bearsOf_2 : decode cX12_bearsOf 2 = .ok (.invokevirtual 211, 3) := by decide +kernel
theorem dX12_bearsOf_5 : decode cX12_bearsOf 5 = .ok (.istore 4, 2) := by decide +kernel
theorem dX12_bearsOf_7 : decode cX12_bearsOf 7 = .ok (.aload_n 0, 1) := by decide +kernel
theorem dX12_bearsOf_8 : decode cX12_bearsOf 8 = .ok (.getfield 20, 3) := by decide +kernel
theorem dX12_bearsOf_11 : decode cX12_bearsOf 11 = .ok (.iload_n 2, 1) := by decide +kernel
theorem dX12_bearsOf_12 : decode cX12_bearsOf 12 = .ok (.iaload, 1) := by decide +kernel
theorem dX12_bearsOf_13 : decode cX12_bearsOf 13 = .ok (.aload_n 1, 1) := by decide +kernel
theorem dX12_bearsOf_14 : decode cX12_bearsOf 14 = .ok (.iload_n 2, 1) := by decide +kernel
theorem dX12_bearsOf_15 : decode cX12_bearsOf 15 = .ok (.iaload, 1) := by decide +kernel
theorem dX12_bearsOf_16 : decode cX12_bearsOf 16 = .ok (.iconst 3, 1) := by decide +kernel
theorem dX12_bearsOf_17 : decode cX12_bearsOf 17 = .ok (.idiv, 1) := by decide +kernel
theorem dX12_bearsOf_18 : decode cX12_bearsOf 18 = .ok (.isub, 1) := by decide +kernel
theorem dX12_bearsOf_19 : decode cX12_bearsOf 19 = .ok (.iload 4, 2) := by decide +kernel
theorem dX12_bearsOf_21 : decode cX12_bearsOf 21 = .ok (.aload_n 0, 1) := by decide +kernel
theorem dX12_bearsOf_22 : decode cX12_bearsOf 22 = .ok (.getfield 23, 3) := by decide +kernel
theorem dX12_bearsOf_25 : decode cX12_bearsOf 25 = .ok (.iload_n 2, 1) := by decide +kernel
theorem dX12_bearsOf_26 : decode cX12_bearsOf 26 = .ok (.iaload, 1) := by decide +kernel
theorem dX12_bearsOf_27 : decode cX12_bearsOf 27 = .ok (.isub, 1) := by decide +kernel
theorem dX12_bearsOf_28 : decode cX12_bearsOf 28 = .ok (.isub, 1) := by decide +kernel
theorem dX12_bearsOf_29 : decode cX12_bearsOf 29 = .ok (.istore 5, 2) := by decide +kernel
theorem dX12_bearsOf_31 : decode cX12_bearsOf 31 = .ok (.aload_n 0, 1) := by decide +kernel
theorem dX12_bearsOf_32 : decode cX12_bearsOf 32 = .ok (.getfield 198, 3) := by decide +kernel
theorem dX12_bearsOf_35 : decode cX12_bearsOf 35 = .ok (.ifCond .le 104, 3) := by decide +kernel
theorem dX12_bearsOf_38 : decode cX12_bearsOf 38 = .ok (.aload_n 0, 1) := by decide +kernel
theorem dX12_bearsOf_39 : decode cX12_bearsOf 39 = .ok (.getfield 46, 3) := by decide +kernel
theorem dX12_bearsOf_42 : decode cX12_bearsOf 42 = .ok (.iconst 0, 1) := by decide +kernel
theorem dX12_bearsOf_43 : decode cX12_bearsOf 43 = .ok (.aload_n 0, 1) := by decide +kernel
theorem dX12_bearsOf_44 : decode cX12_bearsOf 44 = .ok (.getfield 20, 3) := by decide +kernel
theorem dX12_bearsOf_47 : decode cX12_bearsOf 47 = .ok (.iload_n 2, 1) := by decide +kernel
theorem dX12_bearsOf_48 : decode cX12_bearsOf 48 = .ok (.iaload, 1) := by decide +kernel
theorem dX12_bearsOf_49 : decode cX12_bearsOf 49 = .ok (.iastore, 1) := by decide +kernel
theorem dX12_bearsOf_50 : decode cX12_bearsOf 50 = .ok (.aload_n 0, 1) := by decide +kernel
theorem dX12_bearsOf_51 : decode cX12_bearsOf 51 = .ok (.getfield 46, 3) := by decide +kernel
theorem dX12_bearsOf_54 : decode cX12_bearsOf 54 = .ok (.iconst 1, 1) := by decide +kernel
theorem dX12_bearsOf_55 : decode cX12_bearsOf 55 = .ok (.aload_n 1, 1) := by decide +kernel
theorem dX12_bearsOf_56 : decode cX12_bearsOf 56 = .ok (.iload_n 2, 1) := by decide +kernel
theorem dX12_bearsOf_57 : decode cX12_bearsOf 57 = .ok (.iaload, 1) := by decide +kernel
theorem dX12_bearsOf_58 : decode cX12_bearsOf 58 = .ok (.iastore, 1) := by decide +kernel
theorem dX12_bearsOf_59 : decode cX12_bearsOf 59 = .ok (.aload_n 0, 1) := by decide +kernel
theorem dX12_bearsOf_60 : decode cX12_bearsOf 60 = .ok (.getfield 46, 3) := by decide +kernel
theorem dX12_bearsOf_63 : decode cX12_bearsOf 63 = .ok (.iconst 2, 1) := by decide +kernel
theorem dX12_bearsOf_64 : decode cX12_bearsOf 64 = .ok (.aload_n 0, 1) := by decide +kernel
theorem dX12_bearsOf_65 : decode cX12_bearsOf 65 = .ok (.getfield 23, 3) := by decide +kernel
theorem dX12_bearsOf_68 : decode cX12_bearsOf 68 = .ok (.iload_n 2, 1) := by decide +kernel
theorem dX12_bearsOf_69 : decode cX12_bearsOf 69 = .ok (.iaload, 1) := by decide +kernel
theorem dX12_bearsOf_70 : decode cX12_bearsOf 70 = .ok (.iastore, 1) := by decide +kernel
theorem dX12_bearsOf_71 : decode cX12_bearsOf 71 = .ok (.aload_n 0, 1) := by decide +kernel
theorem dX12_bearsOf_72 : decode cX12_bearsOf 72 = .ok (.getfield 46, 3) := by decide +kernel
theorem dX12_bearsOf_75 : decode cX12_bearsOf 75 = .ok (.iconst 3, 1) := by decide +kernel
theorem dX12_bearsOf_76 : decode cX12_bearsOf 76 = .ok (.iload 4, 2) := by decide +kernel
theorem dX12_bearsOf_78 : decode cX12_bearsOf 78 = .ok (.iastore, 1) := by decide +kernel
theorem dX12_bearsOf_79 : decode cX12_bearsOf 79 = .ok (.aload_n 0, 1) := by decide +kernel
theorem dX12_bearsOf_80 : decode cX12_bearsOf 80 = .ok (.getfield 46, 3) := by decide +kernel
theorem dX12_bearsOf_83 : decode cX12_bearsOf 83 = .ok (.iconst 4, 1) := by decide +kernel
theorem dX12_bearsOf_84 : decode cX12_bearsOf 84 = .ok (.iload_n 3, 1) := by decide +kernel
theorem dX12_bearsOf_85 : decode cX12_bearsOf 85 = .ok (.invokestatic 214, 3) := by decide +kernel
theorem dX12_bearsOf_88 : decode cX12_bearsOf 88 = .ok (.iastore, 1) := by decide +kernel
theorem dX12_bearsOf_89 : decode cX12_bearsOf 89 = .ok (.aload_n 0, 1) := by decide +kernel
theorem dX12_bearsOf_90 : decode cX12_bearsOf 90 = .ok (.getfield 46, 3) := by decide +kernel
theorem dX12_bearsOf_93 : decode cX12_bearsOf 93 = .ok (.iconst 5, 1) := by decide +kernel
theorem dX12_bearsOf_94 : decode cX12_bearsOf 94 = .ok (.aload_n 0, 1) := by decide +kernel
theorem dX12_bearsOf_95 : decode cX12_bearsOf 95 = .ok (.aload_n 1, 1) := by decide +kernel
theorem dX12_bearsOf_96 : decode cX12_bearsOf 96 = .ok (.invokevirtual 219, 3) := by decide +kernel
theorem dX12_bearsOf_99 : decode cX12_bearsOf 99 = .ok (.iastore, 1) := by decide +kernel
theorem dX12_bearsOf_100 : decode cX12_bearsOf 100 = .ok (.aload_n 0, 1) := by decide +kernel
theorem dX12_bearsOf_101 : decode cX12_bearsOf 101 = .ok (.getfield 46, 3) := by decide +kernel
theorem dX12_bearsOf_104 : decode cX12_bearsOf 104 = .ok (.bipush 6, 2) := by decide +kernel
theorem dX12_bearsOf_106 : decode cX12_bearsOf 106 = .ok (.iload_n 2, 1) := by decide +kernel
theorem dX12_bearsOf_107 : decode cX12_bearsOf 107 = .ok (.iastore, 1) := by decide +kernel
theorem dX12_bearsOf_108 : decode cX12_bearsOf 108 = .ok (.aload_n 0, 1) := by decide +kernel
theorem dX12_bearsOf_109 : decode cX12_bearsOf 109 = .ok (.aload_n 0, 1) := by decide +kernel
theorem dX12_bearsOf_110 : decode cX12_bearsOf 110 = .ok (.getfield 40, 3) := by decide +kernel
theorem dX12_bearsOf_113 : decode cX12_bearsOf 113 = .ok (.aload_n 0, 1) := by decide +kernel
theorem dX12_bearsOf_114 : decode cX12_bearsOf 114 = .ok (.getfield 198, 3) := by decide +kernel
theorem dX12_bearsOf_117 : decode cX12_bearsOf 117 = .ok (.bipush 40, 2) := by decide +kernel
theorem dX12_bearsOf_119 : decode cX12_bearsOf 119 = .ok (.invokevirtual 123, 3) := by decide +kernel
theorem dX12_bearsOf_122 : decode cX12_bearsOf 122 = .ok (.aload_n 0, 1) := by decide +kernel
theorem dX12_bearsOf_123 : decode cX12_bearsOf 123 = .ok (.iconst 1, 1) := by decide +kernel
theorem dX12_bearsOf_124 : decode cX12_bearsOf 124 = .ok (.putfield 191, 3) := by decide +kernel
theorem dX12_bearsOf_127 : decode cX12_bearsOf 127 = .ok (.aload_n 0, 1) := by decide +kernel
theorem dX12_bearsOf_128 : decode cX12_bearsOf 128 = .ok (.iconst 0, 1) := by decide +kernel
theorem dX12_bearsOf_129 : decode cX12_bearsOf 129 = .ok (.invokevirtual 185, 3) := by decide +kernel
theorem dX12_bearsOf_132 : decode cX12_bearsOf 132 = .ok (.istore 5, 2) := by decide +kernel
theorem dX12_bearsOf_134 : decode cX12_bearsOf 134 = .ok (.aload_n 0, 1) := by decide +kernel
theorem dX12_bearsOf_135 : decode cX12_bearsOf 135 = .ok (.iconst 0, 1) := by decide +kernel
theorem dX12_bearsOf_136 : decode cX12_bearsOf 136 = .ok (.putfield 191, 3) := by decide +kernel
theorem dX12_bearsOf_139 : decode cX12_bearsOf 139 = .ok (.iconst 0, 1) := by decide +kernel
theorem dX12_bearsOf_140 : decode cX12_bearsOf 140 = .ok (.bipush 99, 2) := by decide +kernel
theorem dX12_bearsOf_142 : decode cX12_bearsOf 142 = .ok (.iload 5, 2) := by decide +kernel
theorem dX12_bearsOf_144 : decode cX12_bearsOf 144 = .ok (.invokestatic 223, 3) := by decide +kernel
theorem dX12_bearsOf_147 : decode cX12_bearsOf 147 = .ok (.invokestatic 205, 3) := by decide +kernel
theorem dX12_bearsOf_150 : decode cX12_bearsOf 150 = .ok (.ireturn, 1) := by decide +kernel
theorem dX12_forceOf_0 : decode cX12_forceOf 0 = .ok (.iconst 0, 1) := by decide +kernel
theorem dX12_forceOf_1 : decode cX12_forceOf 1 = .ok (.istore_n 3, 1) := by decide +kernel
theorem dX12_forceOf_2 : decode cX12_forceOf 2 = .ok (.iconst 0, 1) := by decide +kernel
theorem dX12_forceOf_3 : decode cX12_forceOf 3 = .ok (.istore 4, 2) := by decide +kernel
theorem dX12_forceOf_5 : decode cX12_forceOf 5 = .ok (.iload 4, 2) := by decide +kernel
theorem dX12_forceOf_7 : decode cX12_forceOf 7 = .ok (.aload_n 0, 1) := by decide +kernel
theorem dX12_forceOf_8 : decode cX12_forceOf 8 = .ok (.getfield 95, 3) := by decide +kernel
theorem dX12_forceOf_11 : decode cX12_forceOf 11 = .ok (.if_icmp .ge 33, 3) := by decide +kernel
theorem dX12_forceOf_14 : decode cX12_forceOf 14 = .ok (.iload_n 3, 1) := by decide +kernel
theorem dX12_forceOf_15 : decode cX12_forceOf 15 = .ok (.iload_n 2, 1) := by decide +kernel
theorem dX12_forceOf_16 : decode cX12_forceOf 16 = .ok (.iload 4, 2) := by decide +kernel
theorem dX12_forceOf_18 : decode cX12_forceOf 18 = .ok (.invokestatic 201, 3) := by decide +kernel
theorem dX12_forceOf_21 : decode cX12_forceOf 21 = .ok (.ifCond .eq 14, 3) := by decide +kernel
theorem dX12_forceOf_24 : decode cX12_forceOf 24 = .ok (.aload_n 0, 1) := by decide +kernel
theorem dX12_forceOf_25 : decode cX12_forceOf 25 = .ok (.aload_n 1, 1) := by decide +kernel
theorem dX12_forceOf_26 : decode cX12_forceOf 26 = .ok (.iload 4, 2) := by decide +kernel
theorem dX12_forceOf_28 : decode cX12_forceOf 28 = .ok (.iload_n 2, 1) := by decide +kernel
theorem dX12_forceOf_29 : decode cX12_forceOf 29 = .ok (.invokevirtual 226, 3) := by decide +kernel
theorem dX12_forceOf_32 : decode cX12_forceOf 32 = .ok (.goto 4, 3) := by decide +kernel
theorem dX12_forceOf_35 : decode cX12_forceOf 35 = .ok (.iconst 0, 1) := by decide +kernel
theorem dX12_forceOf_36 : decode cX12_forceOf 36 = .ok (.iadd, 1) := by decide +kernel
theorem dX12_forceOf_37 : decode cX12_forceOf 37 = .ok (.istore_n 3, 1) := by decide +kernel
theorem dX12_forceOf_38 : decode cX12_forceOf 38 = .ok (.iinc 4 1, 3) := by decide +kernel
theorem dX12_forceOf_41 : decode cX12_forceOf 41 = .ok (.goto (-36), 3) := by decide +kernel
theorem dX12_forceOf_44 : decode cX12_forceOf 44 = .ok (.iload_n 3, 1) := by decide +kernel
theorem dX12_forceOf_45 : decode cX12_forceOf 45 = .ok (.ireturn, 1) := by decide +kernel
theorem dX12_carry_0 : decode cX12_carry 0 = .ok (.iconst 0, 1) := by decide +kernel
theorem dX12_carry_1 : decode cX12_carry 1 = .ok (.istore_n 2, 1) := by decide +kernel
theorem dX12_carry_2 : decode cX12_carry 2 = .ok (.iconst 0, 1) := by decide +kernel
theorem dX12_carry_3 : decode cX12_carry 3 = .ok (.istore_n 3, 1) := by decide +kernel
theorem dX12_carry_4 : decode cX12_carry 4 = .ok (.iload_n 3, 1) := by decide +kernel
theorem dX12_carry_5 : decode cX12_carry 5 = .ok (.aload_n 0, 1) := by decide +kernel
theorem dX12_carry_6 : decode cX12_carry 6 = .ok (.getfield 95, 3) := by decide +kernel
theorem dX12_carry_9 : decode cX12_carry 9 = .ok (.if_icmp .ge 20, 3) := by decide +kernel
theorem dX12_carry_12 : decode cX12_carry 12 = .ok (.iload_n 2, 1) := by decide +kernel
theorem dX12_carry_13 : decode cX12_carry 13 = .ok (.aload_n 1, 1) := by decide +kernel
theorem dX12_carry_14 : decode cX12_carry 14 = .ok (.bipush 8, 2) := by decide +kernel
theorem dX12_carry_16 : decode cX12_carry 16 = .ok (.iload_n 3, 1) := by decide +kernel
theorem dX12_carry_17 : decode cX12_carry 17 = .ok (.iadd, 1) := by decide +kernel
theorem dX12_carry_18 : decode cX12_carry 18 = .ok (.iaload, 1) := by decide +kernel
theorem dX12_carry_19 : decode cX12_carry 19 = .ok (.iload_n 3, 1) := by decide +kernel
theorem dX12_carry_20 : decode cX12_carry 20 = .ok (.ishl, 1) := by decide +kernel
theorem dX12_carry_21 : decode cX12_carry 21 = .ok (.ior, 1) := by decide +kernel
theorem dX12_carry_22 : decode cX12_carry 22 = .ok (.istore_n 2, 1) := by decide +kernel
theorem dX12_carry_23 : decode cX12_carry 23 = .ok (.iinc 3 1, 3) := by decide +kernel
theorem dX12_carry_26 : decode cX12_carry 26 = .ok (.goto (-22), 3) := by decide +kernel
theorem dX12_carry_29 : decode cX12_carry 29 = .ok (.iload_n 2, 1) := by decide +kernel
theorem dX12_carry_30 : decode cX12_carry 30 = .ok (.ireturn, 1) := by decide +kernel
theorem dX12_needed_0 : decode cX12_needed 0 = .ok (.aload_n 1, 1) := by decide +kernel
theorem dX12_needed_1 : decode cX12_needed 1 = .ok (.bipush 25, 2) := by decide +kernel
theorem dX12_needed_3 : decode cX12_needed 3 = .ok (.iaload, 1) := by decide +kernel
theorem dX12_needed_4 : decode cX12_needed 4 = .ok (.aload_n 0, 1) := by decide +kernel
theorem dX12_needed_5 : decode cX12_needed 5 = .ok (.aload_n 1, 1) := by decide +kernel
theorem dX12_needed_6 : decode cX12_needed 6 = .ok (.invokevirtual 219, 3) := by decide +kernel
theorem dX12_needed_9 : decode cX12_needed 9 = .ok (.iadd, 1) := by decide +kernel
theorem dX12_needed_10 : decode cX12_needed 10 = .ok (.ireturn, 1) := by decide +kernel
theorem dX12_isFirm_0 : decode cX12_isFirm 0 = .ok (.aload_n 0, 1) := by decide +kernel
theorem dX12_isFirm_1 : decode cX12_isFirm 1 = .ok (.aload_n 1, 1) := by decide +kernel
theorem dX12_isFirm_2 : decode cX12_isFirm 2 = .ok (.iload_n 2, 1) := by decide +kernel
theorem dX12_isFirm_3 : decode cX12_isFirm 3 = .ok (.invokevirtual 230, 3) := by decide +kernel
theorem dX12_isFirm_6 : decode cX12_isFirm 6 = .ok (.aload_n 0, 1) := by decide +kernel
theorem dX12_isFirm_7 : decode cX12_isFirm 7 = .ok (.aload_n 1, 1) := by decide +kernel
theorem dX12_isFirm_8 : decode cX12_isFirm 8 = .ok (.invokevirtual 234, 3) := by decide +kernel
theorem dX12_isFirm_11 : decode cX12_isFirm 11 = .ok (.if_icmp .lt 7, 3) := by decide +kernel
theorem dX12_isFirm_14 : decode cX12_isFirm 14 = .ok (.iconst 1, 1) := by decide +kernel
theorem dX12_isFirm_15 : decode cX12_isFirm 15 = .ok (.goto 4, 3) := by decide +kernel
theorem dX12_isFirm_18 : decode cX12_isFirm 18 = .ok (.iconst 0, 1) := by decide +kernel
theorem dX12_isFirm_19 : decode cX12_isFirm 19 = .ok (.ireturn, 1) := by decide +kernel
theorem dX12_bearer_0 : decode cX12_bearer 0 = .ok (.aload_n 0, 1) := by decide +kernel
theorem dX12_bearer_1 : decode cX12_bearer 1 = .ok (.iconst 0, 1) := by decide +kernel
theorem dX12_bearer_2 : decode cX12_bearer 2 = .ok (.putfield 89, 3) := by decide +kernel
theorem dX12_bearer_5 : decode cX12_bearer 5 = .ok (.aload_n 0, 1) := by decide +kernel
theorem dX12_bearer_6 : decode cX12_bearer 6 = .ok (.iload_n 1, 1) := by decide +kernel
theorem dX12_bearer_7 : decode cX12_bearer 7 = .ok (.invokevirtual 237, 3) := by decide +kernel
theorem dX12_bearer_10 : decode cX12_bearer 10 = .ok (.ifCond .eq 12, 3) := by decide +kernel
theorem dX12_bearer_13 : decode cX12_bearer 13 = .ok (.iload_n 2, 1) := by decide +kernel
theorem dX12_bearer_14 : decode cX12_bearer 14 = .ok (.iconst 0, 1) := by decide +kernel
theorem dX12_bearer_15 : decode cX12_bearer 15 = .ok (.iconst 4, 1) := by decide +kernel
theorem dX12_bearer_16 : decode cX12_bearer 16 = .ok (.invokestatic 98, 3) := by decide +kernel
theorem dX12_bearer_19 : decode cX12_bearer 19 = .ok (.ifCond .ne 8, 3) := by decide +kernel
theorem dX12_bearer_22 : decode cX12_bearer 22 = .ok (.aload_n 0, 1) := by decide +kernel
theorem dX12_bearer_23 : decode cX12_bearer 23 = .ok (.invokevirtual 241, 3) := by decide +kernel
theorem dX12_bearer_26 : decode cX12_bearer 26 = .ok (.ireturn, 1) := by decide +kernel
theorem dX12_bearer_27 : decode cX12_bearer 27 = .ok (.iload_n 2, 1) := by decide +kernel
theorem dX12_bearer_28 : decode cX12_bearer 28 = .ok (.tableswitch 63 0 3 #[32, 39, 46, 53], 32) := by decide +kernel
theorem dX12_bearer_60 : decode cX12_bearer 60 = .ok (.aload_n 0, 1) := by decide +kernel
theorem dX12_bearer_61 : decode cX12_bearer 61 = .ok (.getfield 20, 3) := by decide +kernel
theorem dX12_bearer_64 : decode cX12_bearer 64 = .ok (.iload_n 1, 1) := by decide +kernel
theorem dX12_bearer_65 : decode cX12_bearer 65 = .ok (.iaload, 1) := by decide +kernel
theorem dX12_bearer_66 : decode cX12_bearer 66 = .ok (.ireturn, 1) := by decide +kernel
theorem dX12_bearer_67 : decode cX12_bearer 67 = .ok (.aload_n 0, 1) := by decide +kernel
theorem dX12_bearer_68 : decode cX12_bearer 68 = .ok (.getfield 23, 3) := by decide +kernel
theorem dX12_bearer_71 : decode cX12_bearer 71 = .ok (.iload_n 1, 1) := by decide +kernel
theorem dX12_bearer_72 : decode cX12_bearer 72 = .ok (.iaload, 1) := by decide +kernel
theorem dX12_bearer_73 : decode cX12_bearer 73 = .ok (.ireturn, 1) := by decide +kernel
theorem dX12_bearer_74 : decode cX12_bearer 74 = .ok (.aload_n 0, 1) := by decide +kernel
theorem dX12_bearer_75 : decode cX12_bearer 75 = .ok (.getfield 9, 3) := by decide +kernel
theorem dX12_bearer_78 : decode cX12_bearer 78 = .ok (.iload_n 1, 1) := by decide +kernel
theorem dX12_bearer_79 : decode cX12_bearer 79 = .ok (.iaload, 1) := by decide +kernel
theorem dX12_bearer_80 : decode cX12_bearer 80 = .ok (.ireturn, 1) := by decide +kernel
theorem dX12_bearer_81 : decode cX12_bearer 81 = .ok (.aload_n 0, 1) := by decide +kernel
theorem dX12_bearer_82 : decode cX12_bearer 82 = .ok (.getfield 9, 3) := by decide +kernel
theorem dX12_bearer_85 : decode cX12_bearer 85 = .ok (.bipush 8, 2) := by decide +kernel
theorem dX12_bearer_87 : decode cX12_bearer 87 = .ok (.iload_n 1, 1) := by decide +kernel
theorem dX12_bearer_88 : decode cX12_bearer 88 = .ok (.iadd, 1) := by decide +kernel
theorem dX12_bearer_89 : decode cX12_bearer 89 = .ok (.iaload, 1) := by decide +kernel
theorem dX12_bearer_90 : decode cX12_bearer 90 = .ok (.ireturn, 1) := by decide +kernel
theorem dX12_bearer_91 : decode cX12_bearer 91 = .ok (.aload_n 0, 1) := by decide +kernel
theorem dX12_bearer_92 : decode cX12_bearer 92 = .ok (.aload_n 0, 1) := by decide +kernel
theorem dX12_bearer_93 : decode cX12_bearer 93 = .ok (.getfield 9, 3) := by decide +kernel
theorem dX12_bearer_96 : decode cX12_bearer 96 = .ok (.iload_n 1, 1) := by decide +kernel
theorem dX12_bearer_97 : decode cX12_bearer 97 = .ok (.aload_n 0, 1) := by decide +kernel
theorem dX12_bearer_98 : decode cX12_bearer 98 = .ok (.aload_n 0, 1) := by decide +kernel
theorem dX12_bearer_99 : decode cX12_bearer 99 = .ok (.getfield 9, 3) := by decide +kernel
theorem dX12_bearer_102 : decode cX12_bearer 102 = .ok (.invokevirtual 244, 3) := by decide +kernel
theorem dX12_bearer_105 : decode cX12_bearer 105 = .ok (.iconst 1, 1) := by decide +kernel
theorem dX12_bearer_106 : decode cX12_bearer 106 = .ok (.iload_n 1, 1) := by decide +kernel
theorem dX12_bearer_107 : decode cX12_bearer 107 = .ok (.ishl, 1) := by decide +kernel
theorem dX12_bearer_108 : decode cX12_bearer 108 = .ok (.ior, 1) := by decide +kernel
theorem dX12_bearer_109 : decode cX12_bearer 109 = .ok (.invokevirtual 226, 3) := by decide +kernel
theorem dX12_bearer_112 : decode cX12_bearer 112 = .ok (.ireturn, 1) := by decide +kernel
theorem dX12_saying_0 : decode cX12_saying 0 = .ok (.aload_n 0, 1) := by decide +kernel
theorem dX12_saying_1 : decode cX12_saying 1 = .ok (.iconst 0, 1) := by decide +kernel
theorem dX12_saying_2 : decode cX12_saying 2 = .ok (.putfield 89, 3) := by decide +kernel
theorem dX12_saying_5 : decode cX12_saying 5 = .ok (.aload_n 0, 1) := by decide +kernel
theorem dX12_saying_6 : decode cX12_saying 6 = .ok (.iload_n 1, 1) := by decide +kernel
theorem dX12_saying_7 : decode cX12_saying 7 = .ok (.invokevirtual 247, 3) := by decide +kernel
theorem dX12_saying_10 : decode cX12_saying 10 = .ok (.ifCond .eq 12, 3) := by decide +kernel
theorem dX12_saying_13 : decode cX12_saying 13 = .ok (.iload_n 2, 1) := by decide +kernel
theorem dX12_saying_14 : decode cX12_saying 14 = .ok (.iconst 0, 1) := by decide +kernel
theorem dX12_saying_15 : decode cX12_saying 15 = .ok (.iconst 5, 1) := by decide +kernel
theorem dX12_saying_16 : decode cX12_saying 16 = .ok (.invokestatic 98, 3) := by decide +kernel
theorem dX12_saying_19 : decode cX12_saying 19 = .ok (.ifCond .ne 8, 3) := by decide +kernel
theorem dX12_saying_22 : decode cX12_saying 22 = .ok (.aload_n 0, 1) := by decide +kernel
theorem dX12_saying_23 : decode cX12_saying 23 = .ok (.invokevirtual 241, 3) := by decide +kernel
theorem dX12_saying_26 : decode cX12_saying 26 = .ok (.ireturn, 1) := by decide +kernel
theorem dX12_saying_27 : decode cX12_saying 27 = .ok (.iload_n 2, 1) := by decide +kernel
theorem dX12_saying_28 : decode cX12_saying 28 = .ok (.iconst 4, 1) := by decide +kernel
theorem dX12_saying_29 : decode cX12_saying 29 = .ok (.if_icmp .ge 16, 3) := by decide +kernel
theorem dX12_saying_32 : decode cX12_saying 32 = .ok (.aload_n 0, 1) := by decide +kernel
theorem dX12_saying_33 : decode cX12_saying 33 = .ok (.getfield 26, 3) := by decide +kernel
theorem dX12_saying_36 : decode cX12_saying 36 = .ok (.iconst 4, 1) := by decide +kernel
theorem dX12_saying_37 : decode cX12_saying 37 = .ok (.iload_n 1, 1) := by decide +kernel
theorem dX12_saying_38 : decode cX12_saying 38 = .ok (.imul, 1) := by decide +kernel
theorem dX12_saying_39 : decode cX12_saying 39 = .ok (.iload_n 2, 1) := by decide +kernel
theorem dX12_saying_40 : decode cX12_saying 40 = .ok (.iadd, 1) := by decide +kernel
theorem dX12_saying_41 : decode cX12_saying 41 = .ok (.iaload, 1) := by decide +kernel
theorem dX12_saying_42 : decode cX12_saying 42 = .ok (.goto 40, 3) := by decide +kernel
theorem dX12_saying_45 : decode cX12_saying 45 = .ok (.iload_n 2, 1) := by decide +kernel
theorem dX12_saying_46 : decode cX12_saying 46 = .ok (.iconst 4, 1) := by decide +kernel
theorem dX12_saying_47 : decode cX12_saying 47 = .ok (.if_icmp .ne 15, 3) := by decide +kernel
theorem dX12_saying_50 : decode cX12_saying 50 = .ok (.aload_n 0, 1) := by decide +kernel
theorem dX12_saying_51 : decode cX12_saying 51 = .ok (.getfield 9, 3) := by decide +kernel
theorem dX12_saying_54 : decode cX12_saying 54 = .ok (.bipush 16, 2) := by decide +kernel
theorem dX12_saying_56 : decode cX12_saying 56 = .ok (.iload_n 1, 1) := by decide +kernel
theorem dX12_saying_57 : decode cX12_saying 57 = .ok (.iadd, 1) := by decide +kernel
theorem dX12_saying_58 : decode cX12_saying 58 = .ok (.iaload, 1) := by decide +kernel
theorem dX12_saying_59 : decode cX12_saying 59 = .ok (.goto 23, 3) := by decide +kernel
theorem dX12_saying_62 : decode cX12_saying 62 = .ok (.aload_n 0, 1) := by decide +kernel
theorem dX12_saying_63 : decode cX12_saying 63 = .ok (.aload_n 0, 1) := by decide +kernel
theorem dX12_saying_64 : decode cX12_saying 64 = .ok (.getfield 9, 3) := by decide +kernel
theorem dX12_saying_67 : decode cX12_saying 67 = .ok (.bipush 26, 2) := by decide +kernel
theorem dX12_saying_69 : decode cX12_saying 69 = .ok (.iaload, 1) := by decide +kernel
theorem dX12_saying_70 : decode cX12_saying 70 = .ok (.iload_n 1, 1) := by decide +kernel
theorem dX12_saying_71 : decode cX12_saying 71 = .ok (.invokevirtual 250, 3) := by decide +kernel
theorem dX12_saying_74 : decode cX12_saying 74 = .ok (.ifCond .eq 7, 3) := by decide +kernel
theorem dX12_saying_77 : decode cX12_saying 77 = .ok (.iconst 1, 1) := by decide +kernel
theorem dX12_saying_78 : decode cX12_saying 78 = .ok (.goto 4, 3) := by decide +kernel
theorem dX12_saying_81 : decode cX12_saying 81 = .ok (.iconst 0, 1) := by decide +kernel
theorem dX12_saying_82 : decode cX12_saying 82 = .ok (.ireturn, 1) := by decide +kernel
theorem dX12_force_0 : decode cX12_force 0 = .ok (.aload_n 0, 1) := by decide +kernel
theorem dX12_force_1 : decode cX12_force 1 = .ok (.iconst 0, 1) := by decide +kernel
theorem dX12_force_2 : decode cX12_force 2 = .ok (.putfield 89, 3) := by decide +kernel
theorem dX12_force_5 : decode cX12_force 5 = .ok (.aload_n 0, 1) := by decide +kernel
theorem dX12_force_6 : decode cX12_force 6 = .ok (.iconst 0, 1) := by decide +kernel
theorem dX12_force_7 : decode cX12_force 7 = .ok (.putfield 92, 3) := by decide +kernel
theorem dX12_force_10 : decode cX12_force 10 = .ok (.aload_n 0, 1) := by decide +kernel
theorem dX12_force_11 : decode cX12_force 11 = .ok (.aload_n 0, 1) := by decide +kernel
theorem dX12_force_12 : decode cX12_force 12 = .ok (.aload_n 0, 1) := by decide +kernel
theorem dX12_force_13 : decode cX12_force 13 = .ok (.getfield 9, 3) := by decide +kernel
theorem dX12_force_16 : decode cX12_force 16 = .ok (.invokevirtual 234, 3) := by decide +kernel
theorem dX12_force_19 : decode cX12_force 19 = .ok (.i2l, 1) := by decide +kernel
theorem dX12_force_20 : decode cX12_force 20 = .ok (.invokevirtual 253, 3) := by decide +kernel
theorem dX12_force_23 : decode cX12_force 23 = .ok (.aload_n 0, 1) := by decide +kernel
theorem dX12_force_24 : decode cX12_force 24 = .ok (.aload_n 0, 1) := by decide +kernel
theorem dX12_force_25 : decode cX12_force 25 = .ok (.aload_n 0, 1) := by decide +kernel
theorem dX12_force_26 : decode cX12_force 26 = .ok (.getfield 9, 3) := by decide +kernel
theorem dX12_force_29 : decode cX12_force 29 = .ok (.invokevirtual 244, 3) := by decide +kernel
theorem dX12_force_32 : decode cX12_force 32 = .ok (.invokestatic 214, 3) := by decide +kernel
theorem dX12_force_35 : decode cX12_force 35 = .ok (.i2l, 1) := by decide +kernel
theorem dX12_force_36 : decode cX12_force 36 = .ok (.invokevirtual 253, 3) := by decide +kernel
theorem dX12_force_39 : decode cX12_force 39 = .ok (.aload_n 0, 1) := by decide +kernel
theorem dX12_force_40 : decode cX12_force 40 = .ok (.aload_n 0, 1) := by decide +kernel
theorem dX12_force_41 : decode cX12_force 41 = .ok (.getfield 9, 3) := by decide +kernel
theorem dX12_force_44 : decode cX12_force 44 = .ok (.aload_n 0, 1) := by decide +kernel
theorem dX12_force_45 : decode cX12_force 45 = .ok (.aload_n 0, 1) := by decide +kernel
theorem dX12_force_46 : decode cX12_force 46 = .ok (.getfield 9, 3) := by decide +kernel
theorem dX12_force_49 : decode cX12_force 49 = .ok (.invokevirtual 244, 3) := by decide +kernel
theorem dX12_force_52 : decode cX12_force 52 = .ok (.invokevirtual 230, 3) := by decide +kernel
theorem dX12_force_55 : decode cX12_force 55 = .ok (.ireturn, 1) := by decide +kernel
theorem dX12_load_0 : decode cX12_load 0 = .ok (.aload_n 0, 1) := by decide +kernel
theorem dX12_load_1 : decode cX12_load 1 = .ok (.iconst 0, 1) := by decide +kernel
theorem dX12_load_2 : decode cX12_load 2 = .ok (.putfield 89, 3) := by decide +kernel
theorem dX12_load_5 : decode cX12_load 5 = .ok (.iload_n 1, 1) := by decide +kernel
theorem dX12_load_6 : decode cX12_load 6 = .ok (.iconst 0, 1) := by decide +kernel
theorem dX12_load_7 : decode cX12_load 7 = .ok (.sipush 999, 3) := by decide +kernel
theorem dX12_load_10 : decode cX12_load 10 = .ok (.invokestatic 98, 3) := by decide +kernel
theorem dX12_load_13 : decode cX12_load 13 = .ok (.ifCond .ne 5, 3) := by decide +kernel
theorem dX12_load_16 : decode cX12_load 16 = .ok (.iconst (-1), 1) := by decide +kernel
theorem dX12_load_17 : decode cX12_load 17 = .ok (.ireturn, 1) := by decide +kernel
theorem dX12_load_18 : decode cX12_load 18 = .ok (.aload_n 0, 1) := by decide +kernel
theorem dX12_load_19 : decode cX12_load 19 = .ok (.getfield 9, 3) := by decide +kernel
theorem dX12_load_22 : decode cX12_load 22 = .ok (.bipush 25, 2) := by decide +kernel
theorem dX12_load_24 : decode cX12_load 24 = .ok (.iaload, 1) := by decide +kernel
theorem dX12_load_25 : decode cX12_load 25 = .ok (.istore_n 2, 1) := by decide +kernel
theorem dX12_load_26 : decode cX12_load 26 = .ok (.aload_n 0, 1) := by decide +kernel
theorem dX12_load_27 : decode cX12_load 27 = .ok (.getfield 9, 3) := by decide +kernel
theorem dX12_load_30 : decode cX12_load 30 = .ok (.bipush 25, 2) := by decide +kernel
theorem dX12_load_32 : decode cX12_load 32 = .ok (.iload_n 1, 1) := by decide +kernel
theorem dX12_load_33 : decode cX12_load 33 = .ok (.iastore, 1) := by decide +kernel
theorem dX12_load_34 : decode cX12_load 34 = .ok (.iload_n 2, 1) := by decide +kernel
theorem dX12_load_35 : decode cX12_load 35 = .ok (.ireturn, 1) := by decide +kernel
theorem dX12_sheet_0 : decode cX12_sheet 0 = .ok (.aload_n 0, 1) := by decide +kernel
theorem dX12_sheet_1 : decode cX12_sheet 1 = .ok (.iconst 0, 1) := by decide +kernel
theorem dX12_sheet_2 : decode cX12_sheet 2 = .ok (.putfield 89, 3) := by decide +kernel
theorem dX12_sheet_5 : decode cX12_sheet 5 = .ok (.iload_n 1, 1) := by decide +kernel
theorem dX12_sheet_6 : decode cX12_sheet 6 = .ok (.iconst 0, 1) := by decide +kernel
theorem dX12_sheet_7 : decode cX12_sheet 7 = .ok (.iconst 3, 1) := by decide +kernel
theorem dX12_sheet_8 : decode cX12_sheet 8 = .ok (.invokestatic 98, 3) := by decide +kernel
theorem dX12_sheet_11 : decode cX12_sheet 11 = .ok (.ifCond .eq 9, 3) := by decide +kernel
theorem dX12_sheet_14 : decode cX12_sheet 14 = .ok (.iload_n 2, 1) := by decide +kernel
theorem dX12_sheet_15 : decode cX12_sheet 15 = .ok (.bipush 12, 2) := by decide +kernel
theorem dX12_sheet_17 : decode cX12_sheet 17 = .ok (.if_icmp .le 5, 3) := by decide +kernel
theorem dX12_sheet_20 : decode cX12_sheet 20 = .ok (.iconst (-1), 1) := by decide +kernel
theorem dX12_sheet_21 : decode cX12_sheet 21 = .ok (.ireturn, 1) := by decide +kernel
theorem dX12_sheet_22 : decode cX12_sheet 22 = .ok (.iload_n 1, 1) := by decide +kernel
theorem dX12_sheet_23 : decode cX12_sheet 23 = .ok (.iconst 3, 1) := by decide +kernel
theorem dX12_sheet_24 : decode cX12_sheet 24 = .ok (.if_icmp .ge 10, 3) := by decide +kernel
theorem dX12_sheet_27 : decode cX12_sheet 27 = .ok (.iload_n 2, 1) := by decide +kernel
theorem dX12_sheet_28 : decode cX12_sheet 28 = .ok (.ifCond .ge 6, 3) := by decide +kernel
theorem dX12_sheet_31 : decode cX12_sheet 31 = .ok (.bipush (-2), 2) := by decide +kernel
theorem dX12_sheet_33 : decode cX12_sheet 33 = .ok (.ireturn, 1) := by decide +kernel
theorem dX12_sheet_34 : decode cX12_sheet 34 = .ok (.iconst 0, 1) := by decide +kernel
theorem dX12_sheet_35 : decode cX12_sheet 35 = .ok (.istore 5, 2) := by decide +kernel
theorem dX12_sheet_37 : decode cX12_sheet 37 = .ok (.iload_n 3, 1) := by decide +kernel
theorem dX12_sheet_38 : decode cX12_sheet 38 = .ok (.istore 6, 2) := by decide +kernel
theorem dX12_sheet_40 : decode cX12_sheet 40 = .ok (.iconst 0, 1) := by decide +kernel
theorem dX12_sheet_41 : decode cX12_sheet 41 = .ok (.istore 7, 2) := by decide +kernel
theorem dX12_sheet_43 : decode cX12_sheet 43 = .ok (.iload 7, 2) := by decide +kernel
theorem dX12_sheet_45 : decode cX12_sheet 45 = .ok (.aload_n 0, 1) := by decide +kernel
theorem dX12_sheet_46 : decode cX12_sheet 46 = .ok (.getfield 13, 3) := by decide +kernel
theorem dX12_sheet_49 : decode cX12_sheet 49 = .ok (.if_icmp .ge 86, 3) := by decide +kernel
theorem dX12_sheet_52 : decode cX12_sheet 52 = .ok (.iload_n 1, 1) := by decide +kernel
theorem dX12_sheet_53 : decode cX12_sheet 53 = .ok (.ifCond .ne 9, 3) := by decide +kernel
theorem dX12_sheet_56 : decode cX12_sheet 56 = .ok (.iload 6, 2) := by decide +kernel
theorem dX12_sheet_58 : decode cX12_sheet 58 = .ok (.i2b, 1) := by decide +kernel
theorem dX12_sheet_59 : decode cX12_sheet 59 = .ok (.goto 16, 3) := by decide +kernel
theorem dX12_sheet_62 : decode cX12_sheet 62 = .ok (.iload_n 1, 1) := by decide +kernel
theorem dX12_sheet_63 : decode cX12_sheet 63 = .ok (.iconst 1, 1) := by decide +kernel
theorem dX12_sheet_64 : decode cX12_sheet 64 = .ok (.if_icmp .ne 9, 3) := by decide +kernel
theorem dX12_sheet_67 : decode cX12_sheet 67 = .ok (.iload 6, 2) := by decide +kernel
theorem dX12_sheet_69 : decode cX12_sheet 69 = .ok (.i2s, 1) := by decide +kernel
theorem dX12_sheet_70 : decode cX12_sheet 70 = .ok (.goto 5, 3) := by decide +kernel
theorem dX12_sheet_73 : decode cX12_sheet 73 = .ok (.iload 6, 2) := by decide +kernel
theorem dX12_sheet_75 : decode cX12_sheet 75 = .ok (.istore 8, 2) := by decide +kernel
theorem dX12_sheet_77 : decode cX12_sheet 77 = .ok (.aload_n 0, 1) := by decide +kernel
theorem dX12_sheet_78 : decode cX12_sheet 78 = .ok (.getfield 17, 3) := by decide +kernel
theorem dX12_sheet_81 : decode cX12_sheet 81 = .ok (.iload 7, 2) := by decide +kernel
theorem dX12_sheet_83 : decode cX12_sheet 83 = .ok (.iload_n 1, 1) := by decide +kernel
theorem dX12_sheet_84 : decode cX12_sheet 84 = .ok (.iconst 3, 1) := by decide +kernel
theorem dX12_sheet_85 : decode cX12_sheet 85 = .ok (.if_icmp .eq 9, 3) := by decide +kernel
theorem dX12_sheet_88 : decode cX12_sheet 88 = .ok (.iload 7, 2) := by decide +kernel
theorem dX12_sheet_90 : decode cX12_sheet 90 = .ok (.iload_n 2, 1) := by decide +kernel
theorem dX12_sheet_91 : decode cX12_sheet 91 = .ok (.if_icmp .lt 7, 3) := by decide +kernel
theorem dX12_sheet_94 : decode cX12_sheet 94 = .ok (.iconst 0, 1) := by decide +kernel
theorem dX12_sheet_95 : decode cX12_sheet 95 = .ok (.goto 14, 3) := by decide +kernel
theorem dX12_sheet_98 : decode cX12_sheet 98 = .ok (.iconst 0, 1) := by decide +kernel
theorem dX12_sheet_99 : decode cX12_sheet 99 = .ok (.bipush 9, 2) := by decide +kernel
theorem dX12_sheet_101 : decode cX12_sheet 101 = .ok (.iload 8, 2) := by decide +kernel
theorem dX12_sheet_103 : decode cX12_sheet 103 = .ok (.invokestatic 223, 3) := by decide +kernel
theorem dX12_sheet_106 : decode cX12_sheet 106 = .ok (.invokestatic 205, 3) := by decide +kernel
theorem dX12_sheet_109 : decode cX12_sheet 109 = .ok (.iastore, 1) := by decide +kernel
theorem dX12_sheet_110 : decode cX12_sheet 110 = .ok (.iload 5, 2) := by decide +kernel
theorem dX12_sheet_112 : decode cX12_sheet 112 = .ok (.aload_n 0, 1) := by decide +kernel
theorem dX12_sheet_113 : decode cX12_sheet 113 = .ok (.getfield 17, 3) := by decide +kernel
theorem dX12_sheet_116 : decode cX12_sheet 116 = .ok (.iload 7, 2) := by decide +kernel
theorem dX12_sheet_118 : decode cX12_sheet 118 = .ok (.iaload, 1) := by decide +kernel
theorem dX12_sheet_119 : decode cX12_sheet 119 = .ok (.iadd, 1) := by decide +kernel
theorem dX12_sheet_120 : decode cX12_sheet 120 = .ok (.istore 5, 2) := by decide +kernel
theorem dX12_sheet_122 : decode cX12_sheet 122 = .ok (.iload 6, 2) := by decide +kernel
theorem dX12_sheet_124 : decode cX12_sheet 124 = .ok (.iload 4, 2) := by decide +kernel
theorem dX12_sheet_126 : decode cX12_sheet 126 = .ok (.iadd, 1) := by decide +kernel
theorem dX12_sheet_127 : decode cX12_sheet 127 = .ok (.istore 6, 2) := by decide +kernel
theorem dX12_sheet_129 : decode cX12_sheet 129 = .ok (.iinc 7 1, 3) := by decide +kernel
theorem dX12_sheet_132 : decode cX12_sheet 132 = .ok (.goto (-89), 3) := by decide +kernel
theorem dX12_sheet_135 : decode cX12_sheet 135 = .ok (.iload_n 1, 1) := by decide +kernel
theorem dX12_sheet_136 : decode cX12_sheet 136 = .ok (.iconst 3, 1) := by decide +kernel
theorem dX12_sheet_137 : decode cX12_sheet 137 = .ok (.if_icmp .ne 8, 3) := by decide +kernel
theorem dX12_sheet_140 : decode cX12_sheet 140 = .ok (.bipush (-3), 2) := by decide +kernel
theorem dX12_sheet_142 : decode cX12_sheet 142 = .ok (.goto 5, 3) := by decide +kernel
theorem dX12_sheet_145 : decode cX12_sheet 145 = .ok (.iload 5, 2) := by decide +kernel
theorem dX12_sheet_147 : decode cX12_sheet 147 = .ok (.ireturn, 1) := by decide +kernel
theorem dX12_lay_0 : decode cX12_lay 0 = .ok (.iconst 0, 1) := by decide +kernel
theorem dX12_lay_1 : decode cX12_lay 1 = .ok (.istore_n 3, 1) := by decide +kernel
theorem dX12_lay_2 : decode cX12_lay 2 = .ok (.iload_n 3, 1) := by decide +kernel
theorem dX12_lay_3 : decode cX12_lay 3 = .ok (.bipush 29, 2) := by decide +kernel
theorem dX12_lay_5 : decode cX12_lay 5 = .ok (.if_icmp .ge 17, 3) := by decide +kernel
theorem dX12_lay_8 : decode cX12_lay 8 = .ok (.aload_n 1, 1) := by decide +kernel
theorem dX12_lay_9 : decode cX12_lay 9 = .ok (.iload_n 2, 1) := by decide +kernel
theorem dX12_lay_10 : decode cX12_lay 10 = .ok (.iload_n 3, 1) := by decide +kernel
theorem dX12_lay_11 : decode cX12_lay 11 = .ok (.iadd, 1) := by decide +kernel
theorem dX12_lay_12 : decode cX12_lay 12 = .ok (.aload_n 0, 1) := by decide +kernel
theorem dX12_lay_13 : decode cX12_lay 13 = .ok (.iload_n 3, 1) := by decide +kernel
theorem dX12_lay_14 : decode cX12_lay 14 = .ok (.iaload, 1) := by decide +kernel
theorem dX12_lay_15 : decode cX12_lay 15 = .ok (.iastore, 1) := by decide +kernel
theorem dX12_lay_16 : decode cX12_lay 16 = .ok (.iinc 3 1, 3) := by decide +kernel
theorem dX12_lay_19 : decode cX12_lay 19 = .ok (.goto (-17), 3) := by decide +kernel
theorem dX12_lay_22 : decode cX12_lay 22 = .ok (.return_, 1) := by decide +kernel
theorem dX12_remember_0 : decode cX12_remember 0 = .ok (.aload_n 0, 1) := by decide +kernel
theorem dX12_remember_1 : decode cX12_remember 1 = .ok (.getfield 147, 3) := by decide +kernel
theorem dX12_remember_4 : decode cX12_remember 4 = .ok (.bipush 12, 2) := by decide +kernel
theorem dX12_remember_6 : decode cX12_remember 6 = .ok (.if_icmp .ne 43, 3) := by decide +kernel
theorem dX12_remember_9 : decode cX12_remember 9 = .ok (.iconst 0, 1) := by decide +kernel
theorem dX12_remember_10 : decode cX12_remember 10 = .ok (.istore_n 2, 1) := by decide +kernel
theorem dX12_remember_11 : decode cX12_remember 11 = .ok (.iload_n 2, 1) := by decide +kernel
theorem dX12_remember_12 : decode cX12_remember 12 = .ok (.sipush 319, 3) := by decide +kernel
theorem dX12_remember_15 : decode cX12_remember 15 = .ok (.if_icmp .ge 24, 3) := by decide +kernel
theorem dX12_remember_18 : decode cX12_remember 18 = .ok (.aload_n 0, 1) := by decide +kernel
theorem dX12_remember_19 : decode cX12_remember 19 = .ok (.getfield 49, 3) := by decide +kernel
theorem dX12_remember_22 : decode cX12_remember 22 = .ok (.iload_n 2, 1) := by decide +kernel
theorem dX12_remember_23 : decode cX12_remember 23 = .ok (.aload_n 0, 1) := by decide +kernel
theorem dX12_remember_24 : decode cX12_remember 24 = .ok (.getfield 49, 3) := by decide +kernel
theorem dX12_remember_27 : decode cX12_remember 27 = .ok (.iload_n 2, 1) := by decide +kernel
theorem dX12_remember_28 : decode cX12_remember 28 = .ok (.bipush 29, 2) := by decide +kernel
theorem dX12_remember_30 : decode cX12_remember 30 = .ok (.iadd, 1) := by decide +kernel
theorem dX12_remember_31 : decode cX12_remember 31 = .ok (.iaload, 1) := by decide +kernel
theorem dX12_remember_32 : decode cX12_remember 32 = .ok (.iastore, 1) := by decide +kernel
theorem dX12_remember_33 : decode cX12_remember 33 = .ok (.iinc 2 1, 3) := by decide +kernel
theorem dX12_remember_36 : decode cX12_remember 36 = .ok (.goto (-25), 3) := by decide +kernel
theorem dX12_remember_39 : decode cX12_remember 39 = .ok (.aload_n 0, 1) := by decide +kernel
theorem dX12_remember_40 : decode cX12_remember 40 = .ok (.dup, 1) := by decide +kernel
theorem dX12_remember_41 : decode cX12_remember 41 = .ok (.getfield 147, 3) := by decide +kernel
theorem dX12_remember_44 : decode cX12_remember 44 = .ok (.iconst 1, 1) := by decide +kernel
theorem dX12_remember_45 : decode cX12_remember 45 = .ok (.isub, 1) := by decide +kernel
theorem dX12_remember_46 : decode cX12_remember 46 = .ok (.putfield 147, 3) := by decide +kernel
theorem dX12_remember_49 : decode cX12_remember 49 = .ok (.aload_n 1, 1) := by decide +kernel
theorem dX12_remember_50 : decode cX12_remember 50 = .ok (.aload_n 0, 1) := by decide +kernel
theorem dX12_remember_51 : decode cX12_remember 51 = .ok (.getfield 49, 3) := by decide +kernel
theorem dX12_remember_54 : decode cX12_remember 54 = .ok (.bipush 29, 2) := by decide +kernel
theorem dX12_remember_56 : decode cX12_remember 56 = .ok (.aload_n 0, 1) := by decide +kernel
theorem dX12_remember_57 : decode cX12_remember 57 = .ok (.getfield 147, 3) := by decide +kernel
theorem dX12_remember_60 : decode cX12_remember 60 = .ok (.imul, 1) := by decide +kernel
theorem dX12_remember_61 : decode cX12_remember 61 = .ok (.invokestatic 257, 3) := by decide +kernel
theorem dX12_remember_64 : decode cX12_remember 64 = .ok (.aload_n 0, 1) := by decide +kernel
theorem dX12_remember_65 : decode cX12_remember 65 = .ok (.dup, 1) := by decide +kernel
theorem dX12_remember_66 : decode cX12_remember 66 = .ok (.getfield 147, 3) := by decide +kernel
theorem dX12_remember_69 : decode cX12_remember 69 = .ok (.iconst 1, 1) := by decide +kernel
theorem dX12_remember_70 : decode cX12_remember 70 = .ok (.iadd, 1) := by decide +kernel
theorem dX12_remember_71 : decode cX12_remember 71 = .ok (.putfield 147, 3) := by decide +kernel
theorem dX12_remember_74 : decode cX12_remember 74 = .ok (.return_, 1) := by decide +kernel
theorem dX12_isOnHill_0 : decode cX12_isOnHill 0 = .ok (.aload_n 1, 1) := by decide +kernel
theorem dX12_isOnHill_1 : decode cX12_isOnHill 1 = .ok (.bipush 24, 2) := by decide +kernel
theorem dX12_isOnHill_3 : decode cX12_isOnHill 3 = .ok (.iaload, 1) := by decide +kernel
theorem dX12_isOnHill_4 : decode cX12_isOnHill 4 = .ok (.aload_n 0, 1) := by decide +kernel
theorem dX12_isOnHill_5 : decode cX12_isOnHill 5 = .ok (.getfield 13, 3) := by decide +kernel
theorem dX12_isOnHill_8 : decode cX12_isOnHill 8 = .ok (.if_icmp .lt 7, 3) := by decide +kernel
theorem dX12_isOnHill_11 : decode cX12_isOnHill 11 = .ok (.iconst 1, 1) := by decide +kernel
theorem dX12_isOnHill_12 : decode cX12_isOnHill 12 = .ok (.goto 4, 3) := by decide +kernel
theorem dX12_isOnHill_15 : decode cX12_isOnHill 15 = .ok (.iconst 0, 1) := by decide +kernel
theorem dX12_isOnHill_16 : decode cX12_isOnHill 16 = .ok (.ireturn, 1) := by decide +kernel
theorem dX12_refusesStep_0 : decode cX12_refusesStep 0 = .ok (.aload_n 0, 1) := by decide +kernel
theorem dX12_refusesStep_1 : decode cX12_refusesStep 1 = .ok (.aload_n 1, 1) := by decide +kernel
theorem dX12_refusesStep_2 : decode cX12_refusesStep 2 = .ok (.invokevirtual 261, 3) := by decide +kernel
theorem dX12_refusesStep_5 : decode cX12_refusesStep 5 = .ok (.ifCond .eq 8, 3) := by decide +kernel
theorem dX12_refusesStep_8 : decode cX12_refusesStep 8 = .ok (.bipush (-2), 2) := by decide +kernel
theorem dX12_refusesStep_10 : decode cX12_refusesStep 10 = .ok (.goto 17, 3) := by decide +kernel
theorem dX12_refusesStep_13 : decode cX12_refusesStep 13 = .ok (.aload_n 0, 1) := by decide +kernel
theorem dX12_refusesStep_14 : decode cX12_refusesStep 14 = .ok (.aload_n 1, 1) := by decide +kernel
theorem dX12_refusesStep_15 : decode cX12_refusesStep 15 = .ok (.invokevirtual 244, 3) := by decide +kernel
theorem dX12_refusesStep_18 : decode cX12_refusesStep 18 = .ok (.ifCond .ne 8, 3) := by decide +kernel
theorem dX12_refusesStep_21 : decode cX12_refusesStep 21 = .ok (.bipush (-3), 2) := by decide +kernel
theorem dX12_refusesStep_23 : decode cX12_refusesStep 23 = .ok (.goto 4, 3) := by decide +kernel
theorem dX12_refusesStep_26 : decode cX12_refusesStep 26 = .ok (.iconst 0, 1) := by decide +kernel
theorem dX12_refusesStep_27 : decode cX12_refusesStep 27 = .ok (.ireturn, 1) := by decide +kernel
theorem dX12_goStep_0 : decode cX12_goStep 0 = .ok (.aload_n 0, 1) := by decide +kernel
theorem dX12_goStep_1 : decode cX12_goStep 1 = .ok (.aload_n 1, 1) := by decide +kernel
theorem dX12_goStep_2 : decode cX12_goStep 2 = .ok (.aload_n 0, 1) := by decide +kernel
theorem dX12_goStep_3 : decode cX12_goStep 3 = .ok (.aload_n 1, 1) := by decide +kernel
theorem dX12_goStep_4 : decode cX12_goStep 4 = .ok (.invokevirtual 244, 3) := by decide +kernel
theorem dX12_goStep_7 : decode cX12_goStep 7 = .ok (.invokevirtual 265, 3) := by decide +kernel
theorem dX12_goStep_10 : decode cX12_goStep 10 = .ok (.ifCond .eq 7, 3) := by decide +kernel
theorem dX12_goStep_13 : decode cX12_goStep 13 = .ok (.iconst 0, 1) := by decide +kernel
theorem dX12_goStep_14 : decode cX12_goStep 14 = .ok (.goto 4, 3) := by decide +kernel
theorem dX12_goStep_17 : decode cX12_goStep 17 = .ok (.iconst 1, 1) := by decide +kernel
theorem dX12_goStep_18 : decode cX12_goStep 18 = .ok (.istore_n 2, 1) := by decide +kernel
theorem dX12_goStep_19 : decode cX12_goStep 19 = .ok (.iconst 0, 1) := by decide +kernel
theorem dX12_goStep_20 : decode cX12_goStep 20 = .ok (.istore_n 3, 1) := by decide +kernel
theorem dX12_goStep_21 : decode cX12_goStep 21 = .ok (.iload_n 3, 1) := by decide +kernel
theorem dX12_goStep_22 : decode cX12_goStep 22 = .ok (.aload_n 0, 1) := by decide +kernel
theorem dX12_goStep_23 : decode cX12_goStep 23 = .ok (.getfield 95, 3) := by decide +kernel
theorem dX12_goStep_26 : decode cX12_goStep 26 = .ok (.if_icmp .ge 48, 3) := by decide +kernel
theorem dX12_goStep_29 : decode cX12_goStep 29 = .ok (.aload_n 1, 1) := by decide +kernel
theorem dX12_goStep_30 : decode cX12_goStep 30 = .ok (.iload_n 3, 1) := by decide +kernel
theorem dX12_goStep_31 : decode cX12_goStep 31 = .ok (.aload_n 1, 1) := by decide +kernel
theorem dX12_goStep_32 : decode cX12_goStep 32 = .ok (.bipush 8, 2) := by decide +kernel
theorem dX12_goStep_34 : decode cX12_goStep 34 = .ok (.iload_n 3, 1) := by decide +kernel
theorem dX12_goStep_35 : decode cX12_goStep 35 = .ok (.iadd, 1) := by decide +kernel
theorem dX12_goStep_36 : decode cX12_goStep 36 = .ok (.iaload, 1) := by decide +kernel
theorem dX12_goStep_37 : decode cX12_goStep 37 = .ok (.iconst 1, 1) := by decide +kernel
theorem dX12_goStep_38 : decode cX12_goStep 38 = .ok (.if_icmp .ne 20, 3) := by decide +kernel
theorem dX12_goStep_41 : decode cX12_goStep 41 = .ok (.bipush 99, 2) := by decide +kernel
theorem dX12_goStep_43 : decode cX12_goStep 43 = .ok (.aload_n 1, 1) := by decide +kernel
theorem dX12_goStep_44 : decode cX12_goStep 44 = .ok (.iload_n 3, 1) := by decide +kernel
theorem dX12_goStep_45 : decode cX12_goStep 45 = .ok (.iaload, 1) := by decide +kernel
theorem dX12_goStep_46 : decode cX12_goStep 46 = .ok (.iconst 1, 1) := by decide +kernel
theorem dX12_goStep_47 : decode cX12_goStep 47 = .ok (.iadd, 1) := by decide +kernel
theorem dX12_goStep_48 : decode cX12_goStep 48 = .ok (.iconst 2, 1) := by decide +kernel
theorem dX12_goStep_49 : decode cX12_goStep 49 = .ok (.iload_n 2, 1) := by decide +kernel
theorem dX12_goStep_50 : decode cX12_goStep 50 = .ok (.imul, 1) := by decide +kernel
theorem dX12_goStep_51 : decode cX12_goStep 51 = .ok (.iadd, 1) := by decide +kernel
theorem dX12_goStep_52 : decode cX12_goStep 52 = .ok (.invokestatic 223, 3) := by decide +kernel
theorem dX12_goStep_55 : decode cX12_goStep 55 = .ok (.goto 12, 3) := by decide +kernel
theorem dX12_goStep_58 : decode cX12_goStep 58 = .ok (.iconst 0, 1) := by decide +kernel
theorem dX12_goStep_59 : decode cX12_goStep 59 = .ok (.aload_n 1, 1) := by decide +kernel
theorem dX12_goStep_60 : decode cX12_goStep 60 = .ok (.iload_n 3, 1) := by decide +kernel
theorem dX12_goStep_61 : decode cX12_goStep 61 = .ok (.iaload, 1) := by decide +kernel
theorem dX12_goStep_62 : decode cX12_goStep 62 = .ok (.iconst 2, 1) := by decide +kernel
theorem dX12_goStep_63 : decode cX12_goStep 63 = .ok (.isub, 1) := by decide +kernel
theorem dX12_goStep_64 : decode cX12_goStep 64 = .ok (.invokestatic 205, 3) := by decide +kernel
theorem dX12_goStep_67 : decode cX12_goStep 67 = .ok (.iastore, 1) := by decide +kernel
theorem dX12_goStep_68 : decode cX12_goStep 68 = .ok (.iinc 3 1, 3) := by decide +kernel
theorem dX12_goStep_71 : decode cX12_goStep 71 = .ok (.goto (-50), 3) := by decide +kernel
theorem dX12_goStep_74 : decode cX12_goStep 74 = .ok (.aload_n 1, 1) := by decide +kernel
theorem dX12_goStep_75 : decode cX12_goStep 75 = .ok (.bipush 24, 2) := by decide +kernel
theorem dX12_goStep_77 : decode cX12_goStep 77 = .ok (.dup2, 1) := by decide +kernel
theorem dX12_goStep_78 : decode cX12_goStep 78 = .ok (.iaload, 1) := by decide +kernel
theorem dX12_goStep_79 : decode cX12_goStep 79 = .ok (.iconst 1, 1) := by decide +kernel
theorem dX12_goStep_80 : decode cX12_goStep 80 = .ok (.iadd, 1) := by decide +kernel
theorem dX12_goStep_81 : decode cX12_goStep 81 = .ok (.iastore, 1) := by decide +kernel
theorem dX12_goStep_82 : decode cX12_goStep 82 = .ok (.aload_n 1, 1) := by decide +kernel
theorem dX12_goStep_83 : decode cX12_goStep 83 = .ok (.bipush 27, 2) := by decide +kernel
theorem dX12_goStep_85 : decode cX12_goStep 85 = .ok (.iconst 0, 1) := by decide +kernel
theorem dX12_goStep_86 : decode cX12_goStep 86 = .ok (.iastore, 1) := by decide +kernel
theorem dX12_goStep_87 : decode cX12_goStep 87 = .ok (.aload_n 1, 1) := by decide +kernel
theorem dX12_goStep_88 : decode cX12_goStep 88 = .ok (.bipush 28, 2) := by decide +kernel
theorem dX12_goStep_90 : decode cX12_goStep 90 = .ok (.dup2, 1) := by decide +kernel
theorem dX12_goStep_91 : decode cX12_goStep 91 = .ok (.iaload, 1) := by decide +kernel
theorem dX12_goStep_92 : decode cX12_goStep 92 = .ok (.iload_n 2, 1) := by decide +kernel
theorem dX12_goStep_93 : decode cX12_goStep 93 = .ok (.iadd, 1) := by decide +kernel
theorem dX12_goStep_94 : decode cX12_goStep 94 = .ok (.iastore, 1) := by decide +kernel
theorem dX12_goStep_95 : decode cX12_goStep 95 = .ok (.iload_n 2, 1) := by decide +kernel
theorem dX12_goStep_96 : decode cX12_goStep 96 = .ok (.ireturn, 1) := by decide +kernel
theorem dX12_step_0 : decode cX12_step 0 = .ok (.aload_n 0, 1) := by decide +kernel
theorem dX12_step_1 : decode cX12_step 1 = .ok (.iconst 0, 1) := by decide +kernel
theorem dX12_step_2 : decode cX12_step 2 = .ok (.putfield 89, 3) := by decide +kernel
theorem dX12_step_5 : decode cX12_step 5 = .ok (.aload_n 0, 1) := by decide +kernel
theorem dX12_step_6 : decode cX12_step 6 = .ok (.aload_n 0, 1) := by decide +kernel
theorem dX12_step_7 : decode cX12_step 7 = .ok (.getfield 9, 3) := by decide +kernel
theorem dX12_step_10 : decode cX12_step 10 = .ok (.invokevirtual 269, 3) := by decide +kernel
theorem dX12_step_13 : decode cX12_step 13 = .ok (.istore_n 1, 1) := by decide +kernel
theorem dX12_step_14 : decode cX12_step 14 = .ok (.iload_n 1, 1) := by decide +kernel
theorem dX12_step_15 : decode cX12_step 15 = .ok (.ifCond .ge 5, 3) := by decide +kernel
theorem dX12_step_18 : decode cX12_step 18 = .ok (.iload_n 1, 1) := by decide +kernel
theorem dX12_step_19 : decode cX12_step 19 = .ok (.ireturn, 1) := by decide +kernel
theorem dX12_step_20 : decode cX12_step 20 = .ok (.aload_n 0, 1) := by decide +kernel
theorem dX12_step_21 : decode cX12_step 21 = .ok (.aload_n 0, 1) := by decide +kernel
theorem dX12_step_22 : decode cX12_step 22 = .ok (.getfield 9, 3) := by decide +kernel
theorem dX12_step_25 : decode cX12_step 25 = .ok (.invokevirtual 272, 3) := by decide +kernel
theorem dX12_step_28 : decode cX12_step 28 = .ok (.aload_n 0, 1) := by decide +kernel
theorem dX12_step_29 : decode cX12_step 29 = .ok (.aload_n 0, 1) := by decide +kernel
theorem dX12_step_30 : decode cX12_step 30 = .ok (.getfield 9, 3) := by decide +kernel
theorem dX12_step_33 : decode cX12_step 33 = .ok (.invokevirtual 276, 3) := by decide +kernel
theorem dX12_step_36 : decode cX12_step 36 = .ok (.istore_n 2, 1) := by decide +kernel
theorem dX12_step_37 : decode cX12_step 37 = .ok (.aload_n 0, 1) := by decide +kernel
theorem dX12_step_38 : decode cX12_step 38 = .ok (.iconst 0, 1) := by decide +kernel
theorem dX12_step_39 : decode cX12_step 39 = .ok (.putfield 92, 3) := by decide +kernel
theorem dX12_step_42 : decode cX12_step 42 = .ok (.aload_n 0, 1) := by decide +kernel
theorem dX12_step_43 : decode cX12_step 43 = .ok (.aload_n 0, 1) := by decide +kernel
theorem dX12_step_44 : decode cX12_step 44 = .ok (.getfield 9, 3) := by decide +kernel
theorem dX12_step_47 : decode cX12_step 47 = .ok (.bipush 24, 2) := by decide +kernel
theorem dX12_step_49 : decode cX12_step 49 = .ok (.iaload, 1) := by decide +kernel
theorem dX12_step_50 : decode cX12_step 50 = .ok (.i2l, 1) := by decide +kernel
theorem dX12_step_51 : decode cX12_step 51 = .ok (.invokevirtual 253, 3) := by decide +kernel
theorem dX12_step_54 : decode cX12_step 54 = .ok (.aload_n 0, 1) := by decide +kernel
theorem dX12_step_55 : decode cX12_step 55 = .ok (.aload_n 0, 1) := by decide +kernel
theorem dX12_step_56 : decode cX12_step 56 = .ok (.getfield 9, 3) := by decide +kernel
theorem dX12_step_59 : decode cX12_step 59 = .ok (.bipush 28, 2) := by decide +kernel
theorem dX12_step_61 : decode cX12_step 61 = .ok (.iaload, 1) := by decide +kernel
theorem dX12_step_62 : decode cX12_step 62 = .ok (.i2l, 1) := by decide +kernel
theorem dX12_step_63 : decode cX12_step 63 = .ok (.invokevirtual 253, 3) := by decide +kernel
theorem dX12_step_66 : decode cX12_step 66 = .ok (.iload_n 2, 1) := by decide +kernel
theorem dX12_step_67 : decode cX12_step 67 = .ok (.ireturn, 1) := by decide +kernel
theorem dX12_refusesTake_0 : decode cX12_refusesTake 0 = .ok (.aload_n 0, 1) := by decide +kernel
theorem dX12_refusesTake_1 : decode cX12_refusesTake 1 = .ok (.iload_n 2, 1) := by decide +kernel
theorem dX12_refusesTake_2 : decode cX12_refusesTake 2 = .ok (.invokevirtual 237, 3) := by decide +kernel
theorem dX12_refusesTake_5 : decode cX12_refusesTake 5 = .ok (.ifCond .ne 5, 3) := by decide +kernel
theorem dX12_refusesTake_8 : decode cX12_refusesTake 8 = .ok (.iconst (-1), 1) := by decide +kernel
theorem dX12_refusesTake_9 : decode cX12_refusesTake 9 = .ok (.ireturn, 1) := by decide +kernel
theorem dX12_refusesTake_10 : decode cX12_refusesTake 10 = .ok (.aload_n 1, 1) := by decide +kernel
theorem dX12_refusesTake_11 : decode cX12_refusesTake 11 = .ok (.bipush 8, 2) := by decide +kernel
theorem dX12_refusesTake_13 : decode cX12_refusesTake 13 = .ok (.iload_n 2, 1) := by decide +kernel
theorem dX12_refusesTake_14 : decode cX12_refusesTake 14 = .ok (.iadd, 1) := by decide +kernel
theorem dX12_refusesTake_15 : decode cX12_refusesTake 15 = .ok (.iaload, 1) := by decide +kernel
theorem dX12_refusesTake_16 : decode cX12_refusesTake 16 = .ok (.iconst 1, 1) := by decide +kernel
theorem dX12_refusesTake_17 : decode cX12_refusesTake 17 = .ok (.if_icmp .ne 6, 3) := by decide +kernel
theorem dX12_refusesTake_20 : decode cX12_refusesTake 20 = .ok (.bipush (-2), 2) := by decide +kernel
theorem dX12_refusesTake_22 : decode cX12_refusesTake 22 = .ok (.ireturn, 1) := by decide +kernel
theorem dX12_refusesTake_23 : decode cX12_refusesTake 23 = .ok (.aload_n 0, 1) := by decide +kernel
theorem dX12_refusesTake_24 : decode cX12_refusesTake 24 = .ok (.aload_n 1, 1) := by decide +kernel
theorem dX12_refusesTake_25 : decode cX12_refusesTake 25 = .ok (.invokevirtual 244, 3) := by decide +kernel
theorem dX12_refusesTake_28 : decode cX12_refusesTake 28 = .ok (.invokestatic 214, 3) := by decide +kernel
theorem dX12_refusesTake_31 : decode cX12_refusesTake 31 = .ok (.bipush 6, 2) := by decide +kernel
theorem dX12_refusesTake_33 : decode cX12_refusesTake 33 = .ok (.if_icmp .ne 8, 3) := by decide +kernel
theorem dX12_refusesTake_36 : decode cX12_refusesTake 36 = .ok (.bipush (-3), 2) := by decide +kernel
theorem dX12_refusesTake_38 : decode cX12_refusesTake 38 = .ok (.goto 4, 3) := by decide +kernel
theorem dX12_refusesTake_41 : decode cX12_refusesTake 41 = .ok (.iconst 0, 1) := by decide +kernel
theorem dX12_refusesTake_42 : decode cX12_refusesTake 42 = .ok (.ireturn, 1) := by decide +kernel
theorem dX12_take_0 : decode cX12_take 0 = .ok (.aload_n 0, 1) := by decide +kernel
theorem dX12_take_1 : decode cX12_take 1 = .ok (.iconst 0, 1) := by decide +kernel
theorem dX12_take_2 : decode cX12_take 2 = .ok (.putfield 89, 3) := by decide +kernel
theorem dX12_take_5 : decode cX12_take 5 = .ok (.aload_n 0, 1) := by decide +kernel
theorem dX12_take_6 : decode cX12_take 6 = .ok (.aload_n 0, 1) := by decide +kernel
theorem dX12_take_7 : decode cX12_take 7 = .ok (.getfield 9, 3) := by decide +kernel
theorem dX12_take_10 : decode cX12_take 10 = .ok (.iload_n 1, 1) := by decide +kernel
theorem dX12_take_11 : decode cX12_take 11 = .ok (.invokevirtual 279, 3) := by decide +kernel
theorem dX12_take_14 : decode cX12_take 14 = .ok (.istore_n 2, 1) := by decide +kernel
theorem dX12_take_15 : decode cX12_take 15 = .ok (.iload_n 2, 1) := by decide +kernel
theorem dX12_take_16 : decode cX12_take 16 = .ok (.ifCond .ge 5, 3) := by decide +kernel
theorem dX12_take_19 : decode cX12_take 19 = .ok (.iload_n 2, 1) := by decide +kernel
theorem dX12_take_20 : decode cX12_take 20 = .ok (.ireturn, 1) := by decide +kernel
theorem dX12_take_21 : decode cX12_take 21 = .ok (.aload_n 0, 1) := by decide +kernel
theorem dX12_take_22 : decode cX12_take 22 = .ok (.aload_n 0, 1) := by decide +kernel
theorem dX12_take_23 : decode cX12_take 23 = .ok (.getfield 9, 3) := by decide +kernel
theorem dX12_take_26 : decode cX12_take 26 = .ok (.invokevirtual 272, 3) := by decide +kernel
theorem dX12_take_29 : decode cX12_take 29 = .ok (.aload_n 0, 1) := by decide +kernel
theorem dX12_take_30 : decode cX12_take 30 = .ok (.getfield 9, 3) := by decide +kernel
theorem dX12_take_33 : decode cX12_take 33 = .ok (.bipush 8, 2) := by decide +kernel
theorem dX12_take_35 : decode cX12_take 35 = .ok (.iload_n 1, 1) := by decide +kernel
theorem dX12_take_36 : decode cX12_take 36 = .ok (.iadd, 1) := by decide +kernel
theorem dX12_take_37 : decode cX12_take 37 = .ok (.iconst 1, 1) := by decide +kernel
theorem dX12_take_38 : decode cX12_take 38 = .ok (.iastore, 1) := by decide +kernel
theorem dX12_take_39 : decode cX12_take 39 = .ok (.aload_n 0, 1) := by decide +kernel
theorem dX12_take_40 : decode cX12_take 40 = .ok (.aload_n 0, 1) := by decide +kernel
theorem dX12_take_41 : decode cX12_take 41 = .ok (.getfield 9, 3) := by decide +kernel
theorem dX12_take_44 : decode cX12_take 44 = .ok (.invokevirtual 244, 3) := by decide +kernel
theorem dX12_take_47 : decode cX12_take 47 = .ok (.invokestatic 214, 3) := by decide +kernel
theorem dX12_take_50 : decode cX12_take 50 = .ok (.ireturn, 1) := by decide +kernel
theorem dX12_refusesLeave_0 : decode cX12_refusesLeave 0 = .ok (.aload_n 0, 1) := by decide +kernel
theorem dX12_refusesLeave_1 : decode cX12_refusesLeave 1 = .ok (.iload_n 1, 1) := by decide +kernel
theorem dX12_refusesLeave_2 : decode cX12_refusesLeave 2 = .ok (.invokevirtual 237, 3) := by decide +kernel
theorem dX12_refusesLeave_5 : decode cX12_refusesLeave 5 = .ok (.ifCond .ne 5, 3) := by decide +kernel
theorem dX12_refusesLeave_8 : decode cX12_refusesLeave 8 = .ok (.iconst (-1), 1) := by decide +kernel
theorem dX12_refusesLeave_9 : decode cX12_refusesLeave 9 = .ok (.ireturn, 1) := by decide +kernel
theorem dX12_refusesLeave_10 : decode cX12_refusesLeave 10 = .ok (.aload_n 0, 1) := by decide +kernel
theorem dX12_refusesLeave_11 : decode cX12_refusesLeave 11 = .ok (.getfield 9, 3) := by decide +kernel
theorem dX12_refusesLeave_14 : decode cX12_refusesLeave 14 = .ok (.bipush 8, 2) := by decide +kernel
theorem dX12_refusesLeave_16 : decode cX12_refusesLeave 16 = .ok (.iload_n 1, 1) := by decide +kernel
theorem dX12_refusesLeave_17 : decode cX12_refusesLeave 17 = .ok (.iadd, 1) := by decide +kernel
theorem dX12_refusesLeave_18 : decode cX12_refusesLeave 18 = .ok (.iaload, 1) := by decide +kernel
theorem dX12_refusesLeave_19 : decode cX12_refusesLeave 19 = .ok (.ifCond .ne 8, 3) := by decide +kernel
theorem dX12_refusesLeave_22 : decode cX12_refusesLeave 22 = .ok (.bipush (-2), 2) := by decide +kernel
theorem dX12_refusesLeave_24 : decode cX12_refusesLeave 24 = .ok (.goto 4, 3) := by decide +kernel
theorem dX12_refusesLeave_27 : decode cX12_refusesLeave 27 = .ok (.iconst 0, 1) := by decide +kernel
theorem dX12_refusesLeave_28 : decode cX12_refusesLeave 28 = .ok (.ireturn, 1) := by decide +kernel
theorem dX12_leave_0 : decode cX12_leave 0 = .ok (.aload_n 0, 1) := by decide +kernel
theorem dX12_leave_1 : decode cX12_leave 1 = .ok (.iconst 0, 1) := by decide +kernel
theorem dX12_leave_2 : decode cX12_leave 2 = .ok (.putfield 89, 3) := by decide +kernel
theorem dX12_leave_5 : decode cX12_leave 5 = .ok (.aload_n 0, 1) := by decide +kernel
theorem dX12_leave_6 : decode cX12_leave 6 = .ok (.iload_n 1, 1) := by decide +kernel
theorem dX12_leave_7 : decode cX12_leave 7 = .ok (.invokevirtual 282, 3) := by decide +kernel
theorem dX12_leave_10 : decode cX12_leave 10 = .ok (.istore_n 2, 1) := by decide +kernel
theorem dX12_leave_11 : decode cX12_leave 11 = .ok (.iload_n 2, 1) := by decide +kernel
theorem dX12_leave_12 : decode cX12_leave 12 = .ok (.ifCond .ge 5, 3) := by decide +kernel
theorem dX12_leave_15 : decode cX12_leave 15 = .ok (.iload_n 2, 1) := by decide +kernel
theorem dX12_leave_16 : decode cX12_leave 16 = .ok (.ireturn, 1) := by decide +kernel
theorem dX12_leave_17 : decode cX12_leave 17 = .ok (.aload_n 0, 1) := by decide +kernel
theorem dX12_leave_18 : decode cX12_leave 18 = .ok (.aload_n 0, 1) := by decide +kernel
theorem dX12_leave_19 : decode cX12_leave 19 = .ok (.getfield 9, 3) := by decide +kernel
theorem dX12_leave_22 : decode cX12_leave 22 = .ok (.invokevirtual 272, 3) := by decide +kernel
theorem dX12_leave_25 : decode cX12_leave 25 = .ok (.aload_n 0, 1) := by decide +kernel
theorem dX12_leave_26 : decode cX12_leave 26 = .ok (.getfield 9, 3) := by decide +kernel
theorem dX12_leave_29 : decode cX12_leave 29 = .ok (.bipush 8, 2) := by decide +kernel
theorem dX12_leave_31 : decode cX12_leave 31 = .ok (.iload_n 1, 1) := by decide +kernel
theorem dX12_leave_32 : decode cX12_leave 32 = .ok (.iadd, 1) := by decide +kernel
theorem dX12_leave_33 : decode cX12_leave 33 = .ok (.iconst 0, 1) := by decide +kernel
theorem dX12_leave_34 : decode cX12_leave 34 = .ok (.iastore, 1) := by decide +kernel
theorem dX12_leave_35 : decode cX12_leave 35 = .ok (.aload_n 0, 1) := by decide +kernel
theorem dX12_leave_36 : decode cX12_leave 36 = .ok (.aload_n 0, 1) := by decide +kernel
theorem dX12_leave_37 : decode cX12_leave 37 = .ok (.getfield 9, 3) := by decide +kernel
theorem dX12_leave_40 : decode cX12_leave 40 = .ok (.invokevirtual 244, 3) := by decide +kernel
theorem dX12_leave_43 : decode cX12_leave 43 = .ok (.invokestatic 214, 3) := by decide +kernel
theorem dX12_leave_46 : decode cX12_leave 46 = .ok (.ireturn, 1) := by decide +kernel
theorem dX12_refusesSeventh_0 : decode cX12_refusesSeventh 0 = .ok (.iload_n 1, 1) := by decide +kernel
theorem dX12_refusesSeventh_1 : decode cX12_refusesSeventh 1 = .ok (.invokestatic 285, 3) := by decide +kernel
theorem dX12_refusesSeventh_4 : decode cX12_refusesSeventh 4 = .ok (.ifCond .ne 5, 3) := by decide +kernel
theorem dX12_refusesSeventh_7 : decode cX12_refusesSeventh 7 = .ok (.iconst (-1), 1) := by decide +kernel
theorem dX12_refusesSeventh_8 : decode cX12_refusesSeventh 8 = .ok (.ireturn, 1) := by decide +kernel
theorem dX12_refusesSeventh_9 : decode cX12_refusesSeventh 9 = .ok (.aload_n 0, 1) := by decide +kernel
theorem dX12_refusesSeventh_10 : decode cX12_refusesSeventh 10 = .ok (.getfield 9, 3) := by decide +kernel
theorem dX12_refusesSeventh_13 : decode cX12_refusesSeventh 13 = .ok (.bipush 26, 2) := by decide +kernel
theorem dX12_refusesSeventh_15 : decode cX12_refusesSeventh 15 = .ok (.iaload, 1) := by decide +kernel
theorem dX12_refusesSeventh_16 : decode cX12_refusesSeventh 16 = .ok (.iload_n 1, 1) := by decide +kernel
theorem dX12_refusesSeventh_17 : decode cX12_refusesSeventh 17 = .ok (.if_icmp .ne 8, 3) := by decide +kernel
theorem dX12_refusesSeventh_20 : decode cX12_refusesSeventh 20 = .ok (.bipush (-2), 2) := by decide +kernel
theorem dX12_refusesSeventh_22 : decode cX12_refusesSeventh 22 = .ok (.goto 4, 3) := by decide +kernel
theorem dX12_refusesSeventh_25 : decode cX12_refusesSeventh 25 = .ok (.iconst 0, 1) := by decide +kernel
theorem dX12_refusesSeventh_26 : decode cX12_refusesSeventh 26 = .ok (.ireturn, 1) := by decide +kernel
theorem dX12_seventh_0 : decode cX12_seventh 0 = .ok (.aload_n 0, 1) := by decide +kernel
theorem dX12_seventh_1 : decode cX12_seventh 1 = .ok (.iconst 0, 1) := by decide +kernel
theorem dX12_seventh_2 : decode cX12_seventh 2 = .ok (.putfield 89, 3) := by decide +kernel
theorem dX12_seventh_5 : decode cX12_seventh 5 = .ok (.aload_n 0, 1) := by decide +kernel
theorem dX12_seventh_6 : decode cX12_seventh 6 = .ok (.iload_n 1, 1) := by decide +kernel
theorem dX12_seventh_7 : decode cX12_seventh 7 = .ok (.invokevirtual 288, 3) := by decide +kernel
theorem dX12_seventh_10 : decode cX12_seventh 10 = .ok (.istore_n 2, 1) := by decide +kernel
theorem dX12_seventh_11 : decode cX12_seventh 11 = .ok (.iload_n 2, 1) := by decide +kernel
theorem dX12_seventh_12 : decode cX12_seventh 12 = .ok (.ifCond .ge 5, 3) := by decide +kernel
theorem dX12_seventh_15 : decode cX12_seventh 15 = .ok (.iload_n 2, 1) := by decide +kernel
theorem dX12_seventh_16 : decode cX12_seventh 16 = .ok (.ireturn, 1) := by decide +kernel
theorem dX12_seventh_17 : decode cX12_seventh 17 = .ok (.aload_n 0, 1) := by decide +kernel
theorem dX12_seventh_18 : decode cX12_seventh 18 = .ok (.aload_n 0, 1) := by decide +kernel
theorem dX12_seventh_19 : decode cX12_seventh 19 = .ok (.getfield 9, 3) := by decide +kernel
theorem dX12_seventh_22 : decode cX12_seventh 22 = .ok (.invokevirtual 272, 3) := by decide +kernel
theorem dX12_seventh_25 : decode cX12_seventh 25 = .ok (.aload_n 0, 1) := by decide +kernel
theorem dX12_seventh_26 : decode cX12_seventh 26 = .ok (.getfield 9, 3) := by decide +kernel
theorem dX12_seventh_29 : decode cX12_seventh 29 = .ok (.bipush 26, 2) := by decide +kernel
theorem dX12_seventh_31 : decode cX12_seventh 31 = .ok (.iaload, 1) := by decide +kernel
theorem dX12_seventh_32 : decode cX12_seventh 32 = .ok (.istore_n 3, 1) := by decide +kernel
theorem dX12_seventh_33 : decode cX12_seventh 33 = .ok (.aload_n 0, 1) := by decide +kernel
theorem dX12_seventh_34 : decode cX12_seventh 34 = .ok (.getfield 9, 3) := by decide +kernel
theorem dX12_seventh_37 : decode cX12_seventh 37 = .ok (.bipush 26, 2) := by decide +kernel
theorem dX12_seventh_39 : decode cX12_seventh 39 = .ok (.iload_n 1, 1) := by decide +kernel
theorem dX12_seventh_40 : decode cX12_seventh 40 = .ok (.iastore, 1) := by decide +kernel
theorem dX12_seventh_41 : decode cX12_seventh 41 = .ok (.iload_n 3, 1) := by decide +kernel
theorem dX12_seventh_42 : decode cX12_seventh 42 = .ok (.ireturn, 1) := by decide +kernel
theorem dX12_heavy_0 : decode cX12_heavy 0 = .ok (.aload_n 0, 1) := by decide +kernel
theorem dX12_heavy_1 : decode cX12_heavy 1 = .ok (.getfield 26, 3) := by decide +kernel
theorem dX12_heavy_4 : decode cX12_heavy 4 = .ok (.iconst 4, 1) := by decide +kernel
theorem dX12_heavy_5 : decode cX12_heavy 5 = .ok (.iload_n 1, 1) := by decide +kernel
theorem dX12_heavy_6 : decode cX12_heavy 6 = .ok (.imul, 1) := by decide +kernel
theorem dX12_heavy_7 : decode cX12_heavy 7 = .ok (.iaload, 1) := by decide +kernel
theorem dX12_heavy_8 : decode cX12_heavy 8 = .ok (.ireturn, 1) := by decide +kernel
theorem dX12_isTrue_0 : decode cX12_isTrue 0 = .ok (.aload_n 0, 1) := by decide +kernel
theorem dX12_isTrue_1 : decode cX12_isTrue 1 = .ok (.getfield 26, 3) := by decide +kernel
theorem dX12_isTrue_4 : decode cX12_isTrue 4 = .ok (.iconst 4, 1) := by decide +kernel
theorem dX12_isTrue_5 : decode cX12_isTrue 5 = .ok (.iload_n 1, 1) := by decide +kernel
theorem dX12_isTrue_6 : decode cX12_isTrue 6 = .ok (.imul, 1) := by decide +kernel
theorem dX12_isTrue_7 : decode cX12_isTrue 7 = .ok (.iconst 1, 1) := by decide +kernel
theorem dX12_isTrue_8 : decode cX12_isTrue 8 = .ok (.iadd, 1) := by decide +kernel
theorem dX12_isTrue_9 : decode cX12_isTrue 9 = .ok (.iaload, 1) := by decide +kernel
theorem dX12_isTrue_10 : decode cX12_isTrue 10 = .ok (.iconst 1, 1) := by decide +kernel
theorem dX12_isTrue_11 : decode cX12_isTrue 11 = .ok (.if_icmp .ne 7, 3) := by decide +kernel
theorem dX12_isTrue_14 : decode cX12_isTrue 14 = .ok (.iconst 1, 1) := by decide +kernel
theorem dX12_isTrue_15 : decode cX12_isTrue 15 = .ok (.goto 4, 3) := by decide +kernel
theorem dX12_isTrue_18 : decode cX12_isTrue 18 = .ok (.iconst 0, 1) := by decide +kernel
theorem dX12_isTrue_19 : decode cX12_isTrue 19 = .ok (.ireturn, 1) := by decide +kernel
theorem dX12_doesKnow_0 : decode cX12_doesKnow 0 = .ok (.aload_n 0, 1) := by decide +kernel
theorem dX12_doesKnow_1 : decode cX12_doesKnow 1 = .ok (.getfield 26, 3) := by decide +kernel
theorem dX12_doesKnow_4 : decode cX12_doesKnow 4 = .ok (.iconst 4, 1) := by decide +kernel
theorem dX12_doesKnow_5 : decode cX12_doesKnow 5 = .ok (.iload_n 2, 1) := by decide +kernel
theorem dX12_doesKnow_6 : decode cX12_doesKnow 6 = .ok (.imul, 1) := by decide +kernel
theorem dX12_doesKnow_7 : decode cX12_doesKnow 7 = .ok (.iconst 3, 1) := by decide +kernel
theorem dX12_doesKnow_8 : decode cX12_doesKnow 8 = .ok (.iadd, 1) := by decide +kernel
theorem dX12_doesKnow_9 : decode cX12_doesKnow 9 = .ok (.iaload, 1) := by decide +kernel
theorem dX12_doesKnow_10 : decode cX12_doesKnow 10 = .ok (.iload_n 1, 1) := by decide +kernel
theorem dX12_doesKnow_11 : decode cX12_doesKnow 11 = .ok (.invokestatic 201, 3) := by decide +kernel
theorem dX12_doesKnow_14 : decode cX12_doesKnow 14 = .ok (.ireturn, 1) := by decide +kernel
theorem dX12_refusesSay_0 : decode cX12_refusesSay 0 = .ok (.aload_n 0, 1) := by decide +kernel
theorem dX12_refusesSay_1 : decode cX12_refusesSay 1 = .ok (.iload_n 2, 1) := by decide +kernel
theorem dX12_refusesSay_2 : decode cX12_refusesSay 2 = .ok (.invokevirtual 247, 3) := by decide +kernel
theorem dX12_refusesSay_5 : decode cX12_refusesSay 5 = .ok (.ifCond .ne 5, 3) := by decide +kernel
theorem dX12_refusesSay_8 : decode cX12_refusesSay 8 = .ok (.iconst (-1), 1) := by decide +kernel
theorem dX12_refusesSay_9 : decode cX12_refusesSay 9 = .ok (.ireturn, 1) := by decide +kernel
theorem dX12_refusesSay_10 : decode cX12_refusesSay 10 = .ok (.aload_n 1, 1) := by decide +kernel
theorem dX12_refusesSay_11 : decode cX12_refusesSay 11 = .ok (.bipush 16, 2) := by decide +kernel
theorem dX12_refusesSay_13 : decode cX12_refusesSay 13 = .ok (.iload_n 2, 1) := by decide +kernel
theorem dX12_refusesSay_14 : decode cX12_refusesSay 14 = .ok (.iadd, 1) := by decide +kernel
theorem dX12_refusesSay_15 : decode cX12_refusesSay 15 = .ok (.iaload, 1) := by decide +kernel
theorem dX12_refusesSay_16 : decode cX12_refusesSay 16 = .ok (.iconst 1, 1) := by decide +kernel
theorem dX12_refusesSay_17 : decode cX12_refusesSay 17 = .ok (.if_icmp .ne 6, 3) := by decide +kernel
theorem dX12_refusesSay_20 : decode cX12_refusesSay 20 = .ok (.bipush (-2), 2) := by decide +kernel
theorem dX12_refusesSay_22 : decode cX12_refusesSay 22 = .ok (.ireturn, 1) := by decide +kernel
theorem dX12_refusesSay_23 : decode cX12_refusesSay 23 = .ok (.aload_n 0, 1) := by decide +kernel
theorem dX12_refusesSay_24 : decode cX12_refusesSay 24 = .ok (.aload_n 1, 1) := by decide +kernel
theorem dX12_refusesSay_25 : decode cX12_refusesSay 25 = .ok (.bipush 26, 2) := by decide +kernel
theorem dX12_refusesSay_27 : decode cX12_refusesSay 27 = .ok (.iaload, 1) := by decide +kernel
theorem dX12_refusesSay_28 : decode cX12_refusesSay 28 = .ok (.iload_n 2, 1) := by decide +kernel
theorem dX12_refusesSay_29 : decode cX12_refusesSay 29 = .ok (.invokevirtual 250, 3) := by decide +kernel
theorem dX12_refusesSay_32 : decode cX12_refusesSay 32 = .ok (.ifCond .ne 6, 3) := by decide +kernel
theorem dX12_refusesSay_35 : decode cX12_refusesSay 35 = .ok (.bipush (-3), 2) := by decide +kernel
theorem dX12_refusesSay_37 : decode cX12_refusesSay 37 = .ok (.ireturn, 1) := by decide +kernel
theorem dX12_refusesSay_38 : decode cX12_refusesSay 38 = .ok (.aload_n 1, 1) := by decide +kernel
theorem dX12_refusesSay_39 : decode cX12_refusesSay 39 = .ok (.bipush 27, 2) := by decide +kernel
theorem dX12_refusesSay_41 : decode cX12_refusesSay 41 = .ok (.iaload, 1) := by decide +kernel
theorem dX12_refusesSay_42 : decode cX12_refusesSay 42 = .ok (.iconst 1, 1) := by decide +kernel
theorem dX12_refusesSay_43 : decode cX12_refusesSay 43 = .ok (.if_icmp .ne 6, 3) := by decide +kernel
theorem dX12_refusesSay_46 : decode cX12_refusesSay 46 = .ok (.bipush (-4), 2) := by decide +kernel
theorem dX12_refusesSay_48 : decode cX12_refusesSay 48 = .ok (.ireturn, 1) := by decide +kernel
theorem dX12_refusesSay_49 : decode cX12_refusesSay 49 = .ok (.aload_n 0, 1) := by decide +kernel
theorem dX12_refusesSay_50 : decode cX12_refusesSay 50 = .ok (.aload_n 1, 1) := by decide +kernel
theorem dX12_refusesSay_51 : decode cX12_refusesSay 51 = .ok (.invokevirtual 261, 3) := by decide +kernel
theorem dX12_refusesSay_54 : decode cX12_refusesSay 54 = .ok (.ifCond .eq 8, 3) := by decide +kernel
theorem dX12_refusesSay_57 : decode cX12_refusesSay 57 = .ok (.bipush (-5), 2) := by decide +kernel
theorem dX12_refusesSay_59 : decode cX12_refusesSay 59 = .ok (.goto 4, 3) := by decide +kernel
theorem dX12_refusesSay_62 : decode cX12_refusesSay 62 = .ok (.iconst 0, 1) := by decide +kernel
theorem dX12_refusesSay_63 : decode cX12_refusesSay 63 = .ok (.ireturn, 1) := by decide +kernel
theorem dX12_loadBy_0 : decode cX12_loadBy 0 = .ok (.iconst 0, 1) := by decide +kernel
theorem dX12_loadBy_1 : decode cX12_loadBy 1 = .ok (.sipush 999, 3) := by decide +kernel
theorem dX12_loadBy_4 : decode cX12_loadBy 4 = .ok (.aload_n 0, 1) := by decide +kernel
theorem dX12_loadBy_5 : decode cX12_loadBy 5 = .ok (.iload_n 2, 1) := by decide +kernel
theorem dX12_loadBy_6 : decode cX12_loadBy 6 = .ok (.invokevirtual 291, 3) := by decide +kernel
theorem dX12_loadBy_9 : decode cX12_loadBy 9 = .ok (.ifCond .eq 13, 3) := by decide +kernel
theorem dX12_loadBy_12 : decode cX12_loadBy 12 = .ok (.iload_n 1, 1) := by decide +kernel
theorem dX12_loadBy_13 : decode cX12_loadBy 13 = .ok (.aload_n 0, 1) := by decide +kernel
theorem dX12_loadBy_14 : decode cX12_loadBy 14 = .ok (.iload_n 2, 1) := by decide +kernel
theorem dX12_loadBy_15 : decode cX12_loadBy 15 = .ok (.invokevirtual 294, 3) := by decide +kernel
theorem dX12_loadBy_18 : decode cX12_loadBy 18 = .ok (.isub, 1) := by decide +kernel
theorem dX12_loadBy_19 : decode cX12_loadBy 19 = .ok (.goto 10, 3) := by decide +kernel
theorem dX12_loadBy_22 : decode cX12_loadBy 22 = .ok (.iload_n 1, 1) := by decide +kernel
theorem dX12_loadBy_23 : decode cX12_loadBy 23 = .ok (.aload_n 0, 1) := by decide +kernel
theorem dX12_loadBy_24 : decode cX12_loadBy 24 = .ok (.iload_n 2, 1) := by decide +kernel
theorem dX12_loadBy_25 : decode cX12_loadBy 25 = .ok (.invokevirtual 294, 3) := by decide +kernel
theorem dX12_loadBy_28 : decode cX12_loadBy 28 = .ok (.iadd, 1) := by decide +kernel
theorem dX12_loadBy_29 : decode cX12_loadBy 29 = .ok (.invokestatic 223, 3) := by decide +kernel
theorem dX12_loadBy_32 : decode cX12_loadBy 32 = .ok (.invokestatic 205, 3) := by decide +kernel
theorem dX12_loadBy_35 : decode cX12_loadBy 35 = .ok (.ireturn, 1) := by decide +kernel
theorem dX12_goSay_0 : decode cX12_goSay 0 = .ok (.aload_n 1, 1) := by decide +kernel
theorem dX12_goSay_1 : decode cX12_goSay 1 = .ok (.bipush 25, 2) := by decide +kernel
theorem dX12_goSay_3 : decode cX12_goSay 3 = .ok (.aload_n 0, 1) := by decide +kernel
theorem dX12_goSay_4 : decode cX12_goSay 4 = .ok (.aload_n 1, 1) := by decide +kernel
theorem dX12_goSay_5 : decode cX12_goSay 5 = .ok (.bipush 25, 2) := by decide +kernel
theorem dX12_goSay_7 : decode cX12_goSay 7 = .ok (.iaload, 1) := by decide +kernel
theorem dX12_goSay_8 : decode cX12_goSay 8 = .ok (.iload_n 2, 1) := by decide +kernel
theorem dX12_goSay_9 : decode cX12_goSay 9 = .ok (.invokevirtual 297, 3) := by decide +kernel
theorem dX12_goSay_12 : decode cX12_goSay 12 = .ok (.iastore, 1) := by decide +kernel
theorem dX12_goSay_13 : decode cX12_goSay 13 = .ok (.aload_n 1, 1) := by decide +kernel
theorem dX12_goSay_14 : decode cX12_goSay 14 = .ok (.bipush 16, 2) := by decide +kernel
theorem dX12_goSay_16 : decode cX12_goSay 16 = .ok (.iload_n 2, 1) := by decide +kernel
theorem dX12_goSay_17 : decode cX12_goSay 17 = .ok (.iadd, 1) := by decide +kernel
theorem dX12_goSay_18 : decode cX12_goSay 18 = .ok (.iconst 1, 1) := by decide +kernel
theorem dX12_goSay_19 : decode cX12_goSay 19 = .ok (.iastore, 1) := by decide +kernel
theorem dX12_goSay_20 : decode cX12_goSay 20 = .ok (.aload_n 1, 1) := by decide +kernel
theorem dX12_goSay_21 : decode cX12_goSay 21 = .ok (.bipush 27, 2) := by decide +kernel
theorem dX12_goSay_23 : decode cX12_goSay 23 = .ok (.iconst 1, 1) := by decide +kernel
theorem dX12_goSay_24 : decode cX12_goSay 24 = .ok (.iastore, 1) := by decide +kernel
theorem dX12_goSay_25 : decode cX12_goSay 25 = .ok (.return_, 1) := by decide +kernel
theorem dX12_say_0 : decode cX12_say 0 = .ok (.aload_n 0, 1) := by decide +kernel
theorem dX12_say_1 : decode cX12_say 1 = .ok (.iconst 0, 1) := by decide +kernel
theorem dX12_say_2 : decode cX12_say 2 = .ok (.putfield 89, 3) := by decide +kernel
theorem dX12_say_5 : decode cX12_say 5 = .ok (.aload_n 0, 1) := by decide +kernel
theorem dX12_say_6 : decode cX12_say 6 = .ok (.aload_n 0, 1) := by decide +kernel
theorem dX12_say_7 : decode cX12_say 7 = .ok (.getfield 9, 3) := by decide +kernel
theorem dX12_say_10 : decode cX12_say 10 = .ok (.iload_n 1, 1) := by decide +kernel
theorem dX12_say_11 : decode cX12_say 11 = .ok (.invokevirtual 300, 3) := by decide +kernel
theorem dX12_say_14 : decode cX12_say 14 = .ok (.istore_n 2, 1) := by decide +kernel
theorem dX12_say_15 : decode cX12_say 15 = .ok (.iload_n 2, 1) := by decide +kernel
theorem dX12_say_16 : decode cX12_say 16 = .ok (.ifCond .ge 5, 3) := by decide +kernel
theorem dX12_say_19 : decode cX12_say 19 = .ok (.iload_n 2, 1) := by decide +kernel
theorem dX12_say_20 : decode cX12_say 20 = .ok (.ireturn, 1) := by decide +kernel
theorem dX12_say_21 : decode cX12_say 21 = .ok (.aload_n 0, 1) := by decide +kernel
theorem dX12_say_22 : decode cX12_say 22 = .ok (.aload_n 0, 1) := by decide +kernel
theorem dX12_say_23 : decode cX12_say 23 = .ok (.getfield 9, 3) := by decide +kernel
theorem dX12_say_26 : decode cX12_say 26 = .ok (.invokevirtual 272, 3) := by decide +kernel
theorem dX12_say_29 : decode cX12_say 29 = .ok (.aload_n 0, 1) := by decide +kernel
theorem dX12_say_30 : decode cX12_say 30 = .ok (.aload_n 0, 1) := by decide +kernel
theorem dX12_say_31 : decode cX12_say 31 = .ok (.getfield 9, 3) := by decide +kernel
theorem dX12_say_34 : decode cX12_say 34 = .ok (.iload_n 1, 1) := by decide +kernel
theorem dX12_say_35 : decode cX12_say 35 = .ok (.invokevirtual 303, 3) := by decide +kernel
theorem dX12_say_38 : decode cX12_say 38 = .ok (.aload_n 0, 1) := by decide +kernel
theorem dX12_say_39 : decode cX12_say 39 = .ok (.getfield 9, 3) := by decide +kernel
theorem dX12_say_42 : decode cX12_say 42 = .ok (.bipush 25, 2) := by decide +kernel
theorem dX12_say_44 : decode cX12_say 44 = .ok (.iaload, 1) := by decide +kernel
theorem dX12_say_45 : decode cX12_say 45 = .ok (.ireturn, 1) := by decide +kernel
theorem dX12_walk_0 : decode cX12_walk 0 = .ok (.aload_n 0, 1) := by decide +kernel
theorem dX12_walk_1 : decode cX12_walk 1 = .ok (.iconst 0, 1) := by decide +kernel
theorem dX12_walk_2 : decode cX12_walk 2 = .ok (.putfield 89, 3) := by decide +kernel
theorem dX12_walk_5 : decode cX12_walk 5 = .ok (.aload_n 0, 1) := by decide +kernel
theorem dX12_walk_6 : decode cX12_walk 6 = .ok (.bipush 60, 2) := by decide +kernel
theorem dX12_walk_8 : decode cX12_walk 8 = .ok (.invokevirtual 153, 3) := by decide +kernel
theorem dX12_walk_11 : decode cX12_walk 11 = .ok (.iconst 0, 1) := by decide +kernel
theorem dX12_walk_12 : decode cX12_walk 12 = .ok (.istore_n 1, 1) := by decide +kernel
theorem dX12_walk_13 : decode cX12_walk 13 = .ok (.aload_n 0, 1) := by decide +kernel
theorem dX12_walk_14 : decode cX12_walk 14 = .ok (.invokevirtual 127, 3) := by decide +kernel
theorem dX12_walk_17 : decode cX12_walk 17 = .ok (.ifCond .eq 27, 3) := by decide +kernel
theorem dX12_walk_20 : decode cX12_walk 20 = .ok (.aload_n 0, 1) := by decide +kernel
theorem dX12_walk_21 : decode cX12_walk 21 = .ok (.getfield 117, 3) := by decide +kernel
theorem dX12_walk_24 : decode cX12_walk 24 = .ok (.aload_n 0, 1) := by decide +kernel
theorem dX12_walk_25 : decode cX12_walk 25 = .ok (.getfield 111, 3) := by decide +kernel
theorem dX12_walk_28 : decode cX12_walk 28 = .ok (.if_icmp .ge 16, 3) := by decide +kernel
theorem dX12_walk_31 : decode cX12_walk 31 = .ok (.aload_n 0, 1) := by decide +kernel
theorem dX12_walk_32 : decode cX12_walk 32 = .ok (.iconst 2, 1) := by decide +kernel
theorem dX12_walk_33 : decode cX12_walk 33 = .ok (.iload_n 1, 1) := by decide +kernel
theorem dX12_walk_34 : decode cX12_walk 34 = .ok (.imul, 1) := by decide +kernel
theorem dX12_walk_35 : decode cX12_walk 35 = .ok (.invokevirtual 307, 3) := by decide +kernel
theorem dX12_walk_38 : decode cX12_walk 38 = .ok (.iinc 1 1, 3) := by decide +kernel
theorem dX12_walk_41 : decode cX12_walk 41 = .ok (.goto (-28), 3) := by decide +kernel
theorem dX12_walk_44 : decode cX12_walk 44 = .ok (.aload_n 0, 1) := by decide +kernel
theorem dX12_walk_45 : decode cX12_walk 45 = .ok (.invokevirtual 156, 3) := by decide +kernel
theorem dX12_walk_48 : decode cX12_walk 48 = .ok (.ifCond .ne 10, 3) := by decide +kernel
theorem dX12_walk_51 : decode cX12_walk 51 = .ok (.iconst (-1), 1) := by decide +kernel
theorem dX12_walk_52 : decode cX12_walk 52 = .ok (.aload_n 0, 1) := by decide +kernel
theorem dX12_walk_53 : decode cX12_walk 53 = .ok (.getfield 120, 3) := by decide +kernel
theorem dX12_walk_56 : decode cX12_walk 56 = .ok (.isub, 1) := by decide +kernel
theorem dX12_walk_57 : decode cX12_walk 57 = .ok (.ireturn, 1) := by decide +kernel
theorem dX12_walk_58 : decode cX12_walk 58 = .ok (.aload_n 0, 1) := by decide +kernel
theorem dX12_walk_59 : decode cX12_walk 59 = .ok (.getfield 9, 3) := by decide +kernel
theorem dX12_walk_62 : decode cX12_walk 62 = .ok (.aload_n 0, 1) := by decide +kernel
theorem dX12_walk_63 : decode cX12_walk 63 = .ok (.getfield 52, 3) := by decide +kernel
theorem dX12_walk_66 : decode cX12_walk 66 = .ok (.iconst 0, 1) := by decide +kernel
theorem dX12_walk_67 : decode cX12_walk 67 = .ok (.invokestatic 257, 3) := by decide +kernel
theorem dX12_walk_70 : decode cX12_walk 70 = .ok (.iconst 0, 1) := by decide +kernel
theorem dX12_walk_71 : decode cX12_walk 71 = .ok (.istore_n 2, 1) := by decide +kernel
theorem dX12_walk_72 : decode cX12_walk 72 = .ok (.iload_n 2, 1) := by decide +kernel
theorem dX12_walk_73 : decode cX12_walk 73 = .ok (.iload_n 1, 1) := by decide +kernel
theorem dX12_walk_74 : decode cX12_walk 74 = .ok (.if_icmp .ge 34, 3) := by decide +kernel
theorem dX12_walk_77 : decode cX12_walk 77 = .ok (.aload_n 0, 1) := by decide +kernel
theorem dX12_walk_78 : decode cX12_walk 78 = .ok (.aload_n 0, 1) := by decide +kernel
theorem dX12_walk_79 : decode cX12_walk 79 = .ok (.getfield 58, 3) := by decide +kernel
theorem dX12_walk_82 : decode cX12_walk 82 = .ok (.iconst 2, 1) := by decide +kernel
theorem dX12_walk_83 : decode cX12_walk 83 = .ok (.iload_n 2, 1) := by decide +kernel
theorem dX12_walk_84 : decode cX12_walk 84 = .ok (.imul, 1) := by decide +kernel
theorem dX12_walk_85 : decode cX12_walk 85 = .ok (.iaload, 1) := by decide +kernel
theorem dX12_walk_86 : decode cX12_walk 86 = .ok (.aload_n 0, 1) := by decide +kernel
theorem dX12_walk_87 : decode cX12_walk 87 = .ok (.getfield 58, 3) := by decide +kernel
theorem dX12_walk_90 : decode cX12_walk 90 = .ok (.iconst 2, 1) := by decide +kernel
theorem dX12_walk_91 : decode cX12_walk 91 = .ok (.iload_n 2, 1) := by decide +kernel
theorem dX12_walk_92 : decode cX12_walk 92 = .ok (.imul, 1) := by decide +kernel
theorem dX12_walk_93 : decode cX12_walk 93 = .ok (.iconst 1, 1) := by decide +kernel
theorem dX12_walk_94 : decode cX12_walk 94 = .ok (.iadd, 1) := by decide +kernel
theorem dX12_walk_95 : decode cX12_walk 95 = .ok (.iaload, 1) := by decide +kernel
theorem dX12_walk_96 : decode cX12_walk 96 = .ok (.invokevirtual 310, 3) := by decide +kernel
theorem dX12_walk_99 : decode cX12_walk 99 = .ok (.ifCond .eq 9, 3) := by decide +kernel
theorem dX12_walk_102 : decode cX12_walk 102 = .ok (.iinc 2 1, 3) := by decide +kernel
theorem dX12_walk_105 : decode cX12_walk 105 = .ok (.goto (-33), 3) := by decide +kernel
theorem dX12_walk_108 : decode cX12_walk 108 = .ok (.iload_n 2, 1) := by decide +kernel
theorem dX12_walk_109 : decode cX12_walk 109 = .ok (.ifCond .le 11, 3) := by decide +kernel
theorem dX12_walk_112 : decode cX12_walk 112 = .ok (.aload_n 0, 1) := by decide +kernel
theorem dX12_walk_113 : decode cX12_walk 113 = .ok (.aload_n 0, 1) := by decide +kernel
theorem dX12_walk_114 : decode cX12_walk 114 = .ok (.getfield 52, 3) := by decide +kernel
theorem dX12_walk_117 : decode cX12_walk 117 = .ok (.invokevirtual 272, 3) := by decide +kernel
theorem dX12_walk_120 : decode cX12_walk 120 = .ok (.aload_n 0, 1) := by decide +kernel
theorem dX12_walk_121 : decode cX12_walk 121 = .ok (.iconst 0, 1) := by decide +kernel
theorem dX12_walk_122 : decode cX12_walk 122 = .ok (.putfield 92, 3) := by decide +kernel
theorem dX12_walk_125 : decode cX12_walk 125 = .ok (.aload_n 0, 1) := by decide +kernel
theorem dX12_walk_126 : decode cX12_walk 126 = .ok (.iload_n 2, 1) := by decide +kernel
theorem dX12_walk_127 : decode cX12_walk 127 = .ok (.iload_n 1, 1) := by decide +kernel
theorem dX12_walk_128 : decode cX12_walk 128 = .ok (.if_icmp .ge 7, 3) := by decide +kernel
theorem dX12_walk_131 : decode cX12_walk 131 = .ok (.lconst 1, 1) := by decide +kernel
theorem dX12_walk_132 : decode cX12_walk 132 = .ok (.goto 4, 3) := by decide +kernel
theorem dX12_walk_135 : decode cX12_walk 135 = .ok (.lconst 0, 1) := by decide +kernel
theorem dX12_walk_136 : decode cX12_walk 136 = .ok (.invokevirtual 253, 3) := by decide +kernel
theorem dX12_walk_139 : decode cX12_walk 139 = .ok (.aload_n 0, 1) := by decide +kernel
theorem dX12_walk_140 : decode cX12_walk 140 = .ok (.aload_n 0, 1) := by decide +kernel
theorem dX12_walk_141 : decode cX12_walk 141 = .ok (.getfield 9, 3) := by decide +kernel
theorem dX12_walk_144 : decode cX12_walk 144 = .ok (.bipush 28, 2) := by decide +kernel
theorem dX12_walk_146 : decode cX12_walk 146 = .ok (.iaload, 1) := by decide +kernel
theorem dX12_walk_147 : decode cX12_walk 147 = .ok (.aload_n 0, 1) := by decide +kernel
theorem dX12_walk_148 : decode cX12_walk 148 = .ok (.getfield 52, 3) := by decide +kernel
theorem dX12_walk_151 : decode cX12_walk 151 = .ok (.bipush 28, 2) := by decide +kernel
theorem dX12_walk_153 : decode cX12_walk 153 = .ok (.iaload, 1) := by decide +kernel
theorem dX12_walk_154 : decode cX12_walk 154 = .ok (.isub, 1) := by decide +kernel
theorem dX12_walk_155 : decode cX12_walk 155 = .ok (.i2l, 1) := by decide +kernel
theorem dX12_walk_156 : decode cX12_walk 156 = .ok (.invokevirtual 253, 3) := by decide +kernel
theorem dX12_walk_159 : decode cX12_walk 159 = .ok (.iload_n 2, 1) := by decide +kernel
theorem dX12_walk_160 : decode cX12_walk 160 = .ok (.ireturn, 1) := by decide +kernel
theorem dX12_readAct_0 : decode cX12_readAct 0 = .ok (.aload_n 0, 1) := by decide +kernel
theorem dX12_readAct_1 : decode cX12_readAct 1 = .ok (.invokevirtual 131, 3) := by decide +kernel
theorem dX12_readAct_4 : decode cX12_readAct 4 = .ok (.istore_n 2, 1) := by decide +kernel
theorem dX12_readAct_5 : decode cX12_readAct 5 = .ok (.iload_n 2, 1) := by decide +kernel
theorem dX12_readAct_6 : decode cX12_readAct 6 = .ok (.bipush 62, 2) := by decide +kernel
theorem dX12_readAct_8 : decode cX12_readAct 8 = .ok (.if_icmp .eq 36, 3) := by decide +kernel
theorem dX12_readAct_11 : decode cX12_readAct 11 = .ok (.iload_n 2, 1) := by decide +kernel
theorem dX12_readAct_12 : decode cX12_readAct 12 = .ok (.bipush 116, 2) := by decide +kernel
theorem dX12_readAct_14 : decode cX12_readAct 14 = .ok (.if_icmp .eq 30, 3) := by decide +kernel
theorem dX12_readAct_17 : decode cX12_readAct 17 = .ok (.iload_n 2, 1) := by decide +kernel
theorem dX12_readAct_18 : decode cX12_readAct 18 = .ok (.bipush 108, 2) := by decide +kernel
theorem dX12_readAct_20 : decode cX12_readAct 20 = .ok (.if_icmp .eq 24, 3) := by decide +kernel
theorem dX12_readAct_23 : decode cX12_readAct 23 = .ok (.iload_n 2, 1) := by decide +kernel
theorem dX12_readAct_24 : decode cX12_readAct 24 = .ok (.bipush 118, 2) := by decide +kernel
theorem dX12_readAct_26 : decode cX12_readAct 26 = .ok (.if_icmp .eq 18, 3) := by decide +kernel
theorem dX12_readAct_29 : decode cX12_readAct 29 = .ok (.iload_n 2, 1) := by decide +kernel
theorem dX12_readAct_30 : decode cX12_readAct 30 = .ok (.bipush 115, 2) := by decide +kernel
theorem dX12_readAct_32 : decode cX12_readAct 32 = .ok (.if_icmp .eq 12, 3) := by decide +kernel
theorem dX12_readAct_35 : decode cX12_readAct 35 = .ok (.aload_n 0, 1) := by decide +kernel
theorem dX12_readAct_36 : decode cX12_readAct 36 = .ok (.aload_n 0, 1) := by decide +kernel
theorem dX12_readAct_37 : decode cX12_readAct 37 = .ok (.getfield 117, 3) := by decide +kernel
theorem dX12_readAct_40 : decode cX12_readAct 40 = .ok (.invokevirtual 139, 3) := by decide +kernel
theorem dX12_readAct_43 : decode cX12_readAct 43 = .ok (.return_, 1) := by decide +kernel
theorem dX12_readAct_44 : decode cX12_readAct 44 = .ok (.aload_n 0, 1) := by decide +kernel
theorem dX12_readAct_45 : decode cX12_readAct 45 = .ok (.dup, 1) := by decide +kernel
theorem dX12_readAct_46 : decode cX12_readAct 46 = .ok (.getfield 117, 3) := by decide +kernel
theorem dX12_readAct_49 : decode cX12_readAct 49 = .ok (.iconst 1, 1) := by decide +kernel
theorem dX12_readAct_50 : decode cX12_readAct 50 = .ok (.iadd, 1) := by decide +kernel
theorem dX12_readAct_51 : decode cX12_readAct 51 = .ok (.putfield 117, 3) := by decide +kernel
theorem dX12_readAct_54 : decode cX12_readAct 54 = .ok (.aload_n 0, 1) := by decide +kernel
theorem dX12_readAct_55 : decode cX12_readAct 55 = .ok (.getfield 58, 3) := by decide +kernel
theorem dX12_readAct_58 : decode cX12_readAct 58 = .ok (.iload_n 1, 1) := by decide +kernel
theorem dX12_readAct_59 : decode cX12_readAct 59 = .ok (.iload_n 2, 1) := by decide +kernel
theorem dX12_readAct_60 : decode cX12_readAct 60 = .ok (.iastore, 1) := by decide +kernel
theorem dX12_readAct_61 : decode cX12_readAct 61 = .ok (.iload_n 2, 1) := by decide +kernel
theorem dX12_readAct_62 : decode cX12_readAct 62 = .ok (.bipush 118, 2) := by decide +kernel
theorem dX12_readAct_64 : decode cX12_readAct 64 = .ok (.if_icmp .ne 21, 3) := by decide +kernel
theorem dX12_readAct_67 : decode cX12_readAct 67 = .ok (.aload_n 0, 1) := by decide +kernel
theorem dX12_readAct_68 : decode cX12_readAct 68 = .ok (.getfield 58, 3) := by decide +kernel
theorem dX12_readAct_71 : decode cX12_readAct 71 = .ok (.iload_n 1, 1) := by decide +kernel
theorem dX12_readAct_72 : decode cX12_readAct 72 = .ok (.iconst 1, 1) := by decide +kernel
theorem dX12_readAct_73 : decode cX12_readAct 73 = .ok (.iadd, 1) := by decide +kernel
theorem dX12_readAct_74 : decode cX12_readAct 74 = .ok (.aload_n 0, 1) := by decide +kernel
theorem dX12_readAct_75 : decode cX12_readAct 75 = .ok (.bipush 97, 2) := by decide +kernel
theorem dX12_readAct_77 : decode cX12_readAct 77 = .ok (.iconst 4, 1) := by decide +kernel
theorem dX12_readAct_78 : decode cX12_readAct 78 = .ok (.invokevirtual 143, 3) := by decide +kernel
theorem dX12_readAct_81 : decode cX12_readAct 81 = .ok (.iastore, 1) := by decide +kernel
theorem dX12_readAct_82 : decode cX12_readAct 82 = .ok (.goto 25, 3) := by decide +kernel
theorem dX12_readAct_85 : decode cX12_readAct 85 = .ok (.iload_n 2, 1) := by decide +kernel
theorem dX12_readAct_86 : decode cX12_readAct 86 = .ok (.bipush 62, 2) := by decide +kernel
theorem dX12_readAct_88 : decode cX12_readAct 88 = .ok (.if_icmp .eq 19, 3) := by decide +kernel
theorem dX12_readAct_91 : decode cX12_readAct 91 = .ok (.aload_n 0, 1) := by decide +kernel
theorem dX12_readAct_92 : decode cX12_readAct 92 = .ok (.getfield 58, 3) := by decide +kernel
theorem dX12_readAct_95 : decode cX12_readAct 95 = .ok (.iload_n 1, 1) := by decide +kernel
theorem dX12_readAct_96 : decode cX12_readAct 96 = .ok (.iconst 1, 1) := by decide +kernel
theorem dX12_readAct_97 : decode cX12_readAct 97 = .ok (.iadd, 1) := by decide +kernel
theorem dX12_readAct_98 : decode cX12_readAct 98 = .ok (.aload_n 0, 1) := by decide +kernel
theorem dX12_readAct_99 : decode cX12_readAct 99 = .ok (.bipush 48, 2) := by decide +kernel
theorem dX12_readAct_101 : decode cX12_readAct 101 = .ok (.bipush 10, 2) := by decide +kernel
theorem dX12_readAct_103 : decode cX12_readAct 103 = .ok (.invokevirtual 143, 3) := by decide +kernel
theorem dX12_readAct_106 : decode cX12_readAct 106 = .ok (.iastore, 1) := by decide +kernel
theorem dX12_readAct_107 : decode cX12_readAct 107 = .ok (.return_, 1) := by decide +kernel
theorem dX12_act_0 : decode cX12_act 0 = .ok (.iload_n 1, 1) := by decide +kernel
theorem dX12_act_1 : decode cX12_act 1 = .ok (.lookupswitch 135 #[(62, 43), (108, 93), (116, 67), (118, 115)], 43) := by decide +kernel
theorem dX12_act_44 : decode cX12_act 44 = .ok (.aload_n 0, 1) := by decide +kernel
theorem dX12_act_45 : decode cX12_act 45 = .ok (.aload_n 0, 1) := by decide +kernel
theorem dX12_act_46 : decode cX12_act 46 = .ok (.getfield 9, 3) := by decide +kernel
theorem dX12_act_49 : decode cX12_act 49 = .ok (.invokevirtual 269, 3) := by decide +kernel
theorem dX12_act_52 : decode cX12_act 52 = .ok (.ifCond .ge 5, 3) := by decide +kernel
theorem dX12_act_55 : decode cX12_act 55 = .ok (.iconst 0, 1) := by decide +kernel
theorem dX12_act_56 : decode cX12_act 56 = .ok (.ireturn, 1) := by decide +kernel
theorem dX12_act_57 : decode cX12_act 57 = .ok (.aload_n 0, 1) := by decide +kernel
theorem dX12_act_58 : decode cX12_act 58 = .ok (.aload_n 0, 1) := by decide +kernel
theorem dX12_act_59 : decode cX12_act 59 = .ok (.getfield 9, 3) := by decide +kernel
theorem dX12_act_62 : decode cX12_act 62 = .ok (.invokevirtual 276, 3) := by decide +kernel
theorem dX12_act_65 : decode cX12_act 65 = .ok (.pop, 1) := by decide +kernel
theorem dX12_act_66 : decode cX12_act 66 = .ok (.iconst 1, 1) := by decide +kernel
theorem dX12_act_67 : decode cX12_act 67 = .ok (.ireturn, 1) := by decide +kernel
theorem dX12_act_68 : decode cX12_act 68 = .ok (.aload_n 0, 1) := by decide +kernel
theorem dX12_act_69 : decode cX12_act 69 = .ok (.aload_n 0, 1) := by decide +kernel
theorem dX12_act_70 : decode cX12_act 70 = .ok (.getfield 9, 3) := by decide +kernel
theorem dX12_act_73 : decode cX12_act 73 = .ok (.iload_n 2, 1) := by decide +kernel
theorem dX12_act_74 : decode cX12_act 74 = .ok (.invokevirtual 279, 3) := by decide +kernel
theorem dX12_act_77 : decode cX12_act 77 = .ok (.ifCond .ge 5, 3) := by decide +kernel
theorem dX12_act_80 : decode cX12_act 80 = .ok (.iconst 0, 1) := by decide +kernel
theorem dX12_act_81 : decode cX12_act 81 = .ok (.ireturn, 1) := by decide +kernel
theorem dX12_act_82 : decode cX12_act 82 = .ok (.aload_n 0, 1) := by decide +kernel
theorem dX12_act_83 : decode cX12_act 83 = .ok (.getfield 9, 3) := by decide +kernel
theorem dX12_act_86 : decode cX12_act 86 = .ok (.bipush 8, 2) := by decide +kernel
theorem dX12_act_88 : decode cX12_act 88 = .ok (.iload_n 2, 1) := by decide +kernel
theorem dX12_act_89 : decode cX12_act 89 = .ok (.iadd, 1) := by decide +kernel
theorem dX12_act_90 : decode cX12_act 90 = .ok (.iconst 1, 1) := by decide +kernel
theorem dX12_act_91 : decode cX12_act 91 = .ok (.iastore, 1) := by decide +kernel
theorem dX12_act_92 : decode cX12_act 92 = .ok (.iconst 1, 1) := by decide +kernel
theorem dX12_act_93 : decode cX12_act 93 = .ok (.ireturn, 1) := by decide +kernel
theorem dX12_act_94 : decode cX12_act 94 = .ok (.aload_n 0, 1) := by decide +kernel
theorem dX12_act_95 : decode cX12_act 95 = .ok (.iload_n 2, 1) := by decide +kernel
theorem dX12_act_96 : decode cX12_act 96 = .ok (.invokevirtual 282, 3) := by decide +kernel
theorem dX12_act_99 : decode cX12_act 99 = .ok (.ifCond .ge 5, 3) := by decide +kernel
theorem dX12_act_102 : decode cX12_act 102 = .ok (.iconst 0, 1) := by decide +kernel
theorem dX12_act_103 : decode cX12_act 103 = .ok (.ireturn, 1) := by decide +kernel
theorem dX12_act_104 : decode cX12_act 104 = .ok (.aload_n 0, 1) := by decide +kernel
theorem dX12_act_105 : decode cX12_act 105 = .ok (.getfield 9, 3) := by decide +kernel
theorem dX12_act_108 : decode cX12_act 108 = .ok (.bipush 8, 2) := by decide +kernel
theorem dX12_act_110 : decode cX12_act 110 = .ok (.iload_n 2, 1) := by decide +kernel
theorem dX12_act_111 : decode cX12_act 111 = .ok (.iadd, 1) := by decide +kernel
theorem dX12_act_112 : decode cX12_act 112 = .ok (.iconst 0, 1) := by decide +kernel
theorem dX12_act_113 : decode cX12_act 113 = .ok (.iastore, 1) := by decide +kernel
theorem dX12_act_114 : decode cX12_act 114 = .ok (.iconst 1, 1) := by decide +kernel
theorem dX12_act_115 : decode cX12_act 115 = .ok (.ireturn, 1) := by decide +kernel
theorem dX12_act_116 : decode cX12_act 116 = .ok (.aload_n 0, 1) := by decide +kernel
theorem dX12_act_117 : decode cX12_act 117 = .ok (.iload_n 2, 1) := by decide +kernel
theorem dX12_act_118 : decode cX12_act 118 = .ok (.invokevirtual 288, 3) := by decide +kernel
theorem dX12_act_121 : decode cX12_act 121 = .ok (.ifCond .ge 5, 3) := by decide +kernel
theorem dX12_act_124 : decode cX12_act 124 = .ok (.iconst 0, 1) := by decide +kernel
theorem dX12_act_125 : decode cX12_act 125 = .ok (.ireturn, 1) := by decide +kernel
theorem dX12_act_126 : decode cX12_act 126 = .ok (.aload_n 0, 1) := by decide +kernel
theorem dX12_act_127 : decode cX12_act 127 = .ok (.getfield 9, 3) := by decide +kernel
theorem dX12_act_130 : decode cX12_act 130 = .ok (.bipush 26, 2) := by decide +kernel
theorem dX12_act_132 : decode cX12_act 132 = .ok (.iload_n 2, 1) := by decide +kernel
theorem dX12_act_133 : decode cX12_act 133 = .ok (.iastore, 1) := by decide +kernel
theorem dX12_act_134 : decode cX12_act 134 = .ok (.iconst 1, 1) := by decide +kernel
theorem dX12_act_135 : decode cX12_act 135 = .ok (.ireturn, 1) := by decide +kernel
theorem dX12_act_136 : decode cX12_act 136 = .ok (.aload_n 0, 1) := by decide +kernel
theorem dX12_act_137 : decode cX12_act 137 = .ok (.aload_n 0, 1) := by decide +kernel
theorem dX12_act_138 : decode cX12_act 138 = .ok (.getfield 9, 3) := by decide +kernel
theorem dX12_act_141 : decode cX12_act 141 = .ok (.iload_n 2, 1) := by decide +kernel
theorem dX12_act_142 : decode cX12_act 142 = .ok (.invokevirtual 300, 3) := by decide +kernel
theorem dX12_act_145 : decode cX12_act 145 = .ok (.ifCond .ge 5, 3) := by decide +kernel
theorem dX12_act_148 : decode cX12_act 148 = .ok (.iconst 0, 1) := by decide +kernel
theorem dX12_act_149 : decode cX12_act 149 = .ok (.ireturn, 1) := by decide +kernel
theorem dX12_act_150 : decode cX12_act 150 = .ok (.aload_n 0, 1) := by decide +kernel
theorem dX12_act_151 : decode cX12_act 151 = .ok (.aload_n 0, 1) := by decide +kernel
theorem dX12_act_152 : decode cX12_act 152 = .ok (.getfield 9, 3) := by decide +kernel
theorem dX12_act_155 : decode cX12_act 155 = .ok (.iload_n 2, 1) := by decide +kernel
theorem dX12_act_156 : decode cX12_act 156 = .ok (.invokevirtual 303, 3) := by decide +kernel
theorem dX12_act_159 : decode cX12_act 159 = .ok (.iconst 1, 1) := by decide +kernel
theorem dX12_act_160 : decode cX12_act 160 = .ok (.ireturn, 1) := by decide +kernel
theorem dX12_undo_0 : decode cX12_undo 0 = .ok (.aload_n 0, 1) := by decide +kernel
theorem dX12_undo_1 : decode cX12_undo 1 = .ok (.iconst 0, 1) := by decide +kernel
theorem dX12_undo_2 : decode cX12_undo 2 = .ok (.putfield 89, 3) := by decide +kernel
theorem dX12_undo_5 : decode cX12_undo 5 = .ok (.aload_n 0, 1) := by decide +kernel
theorem dX12_undo_6 : decode cX12_undo 6 = .ok (.getfield 147, 3) := by decide +kernel
theorem dX12_undo_9 : decode cX12_undo 9 = .ok (.ifCond .ne 5, 3) := by decide +kernel
theorem dX12_undo_12 : decode cX12_undo 12 = .ok (.iconst (-1), 1) := by decide +kernel
theorem dX12_undo_13 : decode cX12_undo 13 = .ok (.ireturn, 1) := by decide +kernel
theorem dX12_undo_14 : decode cX12_undo 14 = .ok (.aload_n 0, 1) := by decide +kernel
theorem dX12_undo_15 : decode cX12_undo 15 = .ok (.dup, 1) := by decide +kernel
theorem dX12_undo_16 : decode cX12_undo 16 = .ok (.getfield 147, 3) := by decide +kernel
theorem dX12_undo_19 : decode cX12_undo 19 = .ok (.iconst 1, 1) := by decide +kernel
theorem dX12_undo_20 : decode cX12_undo 20 = .ok (.isub, 1) := by decide +kernel
theorem dX12_undo_21 : decode cX12_undo 21 = .ok (.putfield 147, 3) := by decide +kernel
theorem dX12_undo_24 : decode cX12_undo 24 = .ok (.iconst 0, 1) := by decide +kernel
theorem dX12_undo_25 : decode cX12_undo 25 = .ok (.istore_n 1, 1) := by decide +kernel
theorem dX12_undo_26 : decode cX12_undo 26 = .ok (.iload_n 1, 1) := by decide +kernel
theorem dX12_undo_27 : decode cX12_undo 27 = .ok (.bipush 29, 2) := by decide +kernel
theorem dX12_undo_29 : decode cX12_undo 29 = .ok (.if_icmp .ge 29, 3) := by decide +kernel
theorem dX12_undo_32 : decode cX12_undo 32 = .ok (.aload_n 0, 1) := by decide +kernel
theorem dX12_undo_33 : decode cX12_undo 33 = .ok (.getfield 9, 3) := by decide +kernel
theorem dX12_undo_36 : decode cX12_undo 36 = .ok (.iload_n 1, 1) := by decide +kernel
theorem dX12_undo_37 : decode cX12_undo 37 = .ok (.aload_n 0, 1) := by decide +kernel
theorem dX12_undo_38 : decode cX12_undo 38 = .ok (.getfield 49, 3) := by decide +kernel
theorem dX12_undo_41 : decode cX12_undo 41 = .ok (.bipush 29, 2) := by decide +kernel
theorem dX12_undo_43 : decode cX12_undo 43 = .ok (.aload_n 0, 1) := by decide +kernel
theorem dX12_undo_44 : decode cX12_undo 44 = .ok (.getfield 147, 3) := by decide +kernel
theorem dX12_undo_47 : decode cX12_undo 47 = .ok (.imul, 1) := by decide +kernel
theorem dX12_undo_48 : decode cX12_undo 48 = .ok (.iload_n 1, 1) := by decide +kernel
theorem dX12_undo_49 : decode cX12_undo 49 = .ok (.iadd, 1) := by decide +kernel
theorem dX12_undo_50 : decode cX12_undo 50 = .ok (.iaload, 1) := by decide +kernel
theorem dX12_undo_51 : decode cX12_undo 51 = .ok (.iastore, 1) := by decide +kernel
theorem dX12_undo_52 : decode cX12_undo 52 = .ok (.iinc 1 1, 3) := by decide +kernel
theorem dX12_undo_55 : decode cX12_undo 55 = .ok (.goto (-29), 3) := by decide +kernel
theorem dX12_undo_58 : decode cX12_undo 58 = .ok (.aload_n 0, 1) := by decide +kernel
theorem dX12_undo_59 : decode cX12_undo 59 = .ok (.getfield 147, 3) := by decide +kernel
theorem dX12_undo_62 : decode cX12_undo 62 = .ok (.ireturn, 1) := by decide +kernel
theorem dX12_ahead_0 : decode cX12_ahead 0 = .ok (.aload_n 0, 1) := by decide +kernel
theorem dX12_ahead_1 : decode cX12_ahead 1 = .ok (.iconst 0, 1) := by decide +kernel
theorem dX12_ahead_2 : decode cX12_ahead 2 = .ok (.putfield 89, 3) := by decide +kernel
theorem dX12_ahead_5 : decode cX12_ahead 5 = .ok (.aload_n 0, 1) := by decide +kernel
theorem dX12_ahead_6 : decode cX12_ahead 6 = .ok (.aload_n 0, 1) := by decide +kernel
theorem dX12_ahead_7 : decode cX12_ahead 7 = .ok (.getfield 9, 3) := by decide +kernel
theorem dX12_ahead_10 : decode cX12_ahead 10 = .ok (.invokevirtual 244, 3) := by decide +kernel
theorem dX12_ahead_13 : decode cX12_ahead 13 = .ok (.ifCond .ne 6, 3) := by decide +kernel
theorem dX12_ahead_16 : decode cX12_ahead 16 = .ok (.bipush (-3), 2) := by decide +kernel
theorem dX12_ahead_18 : decode cX12_ahead 18 = .ok (.ireturn, 1) := by decide +kernel
theorem dX12_ahead_19 : decode cX12_ahead 19 = .ok (.iload_n 1, 1) := by decide +kernel
theorem dX12_ahead_20 : decode cX12_ahead 20 = .ok (.iconst 0, 1) := by decide +kernel
theorem dX12_ahead_21 : decode cX12_ahead 21 = .ok (.bipush 12, 2) := by decide +kernel
theorem dX12_ahead_23 : decode cX12_ahead 23 = .ok (.invokestatic 98, 3) := by decide +kernel
theorem dX12_ahead_26 : decode cX12_ahead 26 = .ok (.ifCond .ne 5, 3) := by decide +kernel
theorem dX12_ahead_29 : decode cX12_ahead 29 = .ok (.iconst (-1), 1) := by decide +kernel
theorem dX12_ahead_30 : decode cX12_ahead 30 = .ok (.ireturn, 1) := by decide +kernel
theorem dX12_ahead_31 : decode cX12_ahead 31 = .ok (.aload_n 0, 1) := by decide +kernel
theorem dX12_ahead_32 : decode cX12_ahead 32 = .ok (.getfield 9, 3) := by decide +kernel
theorem dX12_ahead_35 : decode cX12_ahead 35 = .ok (.aload_n 0, 1) := by decide +kernel
theorem dX12_ahead_36 : decode cX12_ahead 36 = .ok (.getfield 55, 3) := by decide +kernel
theorem dX12_ahead_39 : decode cX12_ahead 39 = .ok (.iconst 0, 1) := by decide +kernel
theorem dX12_ahead_40 : decode cX12_ahead 40 = .ok (.invokestatic 257, 3) := by decide +kernel
theorem dX12_ahead_43 : decode cX12_ahead 43 = .ok (.iconst 0, 1) := by decide +kernel
theorem dX12_ahead_44 : decode cX12_ahead 44 = .ok (.istore_n 2, 1) := by decide +kernel
theorem dX12_ahead_45 : decode cX12_ahead 45 = .ok (.iconst 0, 1) := by decide +kernel
theorem dX12_ahead_46 : decode cX12_ahead 46 = .ok (.istore_n 3, 1) := by decide +kernel
theorem dX12_ahead_47 : decode cX12_ahead 47 = .ok (.iload_n 3, 1) := by decide +kernel
theorem dX12_ahead_48 : decode cX12_ahead 48 = .ok (.iload_n 1, 1) := by decide +kernel
theorem dX12_ahead_49 : decode cX12_ahead 49 = .ok (.if_icmp .ge 31, 3) := by decide +kernel
theorem dX12_ahead_52 : decode cX12_ahead 52 = .ok (.aload_n 0, 1) := by decide +kernel
theorem dX12_ahead_53 : decode cX12_ahead 53 = .ok (.aload_n 0, 1) := by decide +kernel
theorem dX12_ahead_54 : decode cX12_ahead 54 = .ok (.getfield 55, 3) := by decide +kernel
theorem dX12_ahead_57 : decode cX12_ahead 57 = .ok (.invokevirtual 261, 3) := by decide +kernel
theorem dX12_ahead_60 : decode cX12_ahead 60 = .ok (.ifCond .ne 20, 3) := by decide +kernel
theorem dX12_ahead_63 : decode cX12_ahead 63 = .ok (.iload_n 2, 1) := by decide +kernel
theorem dX12_ahead_64 : decode cX12_ahead 64 = .ok (.aload_n 0, 1) := by decide +kernel
theorem dX12_ahead_65 : decode cX12_ahead 65 = .ok (.aload_n 0, 1) := by decide +kernel
theorem dX12_ahead_66 : decode cX12_ahead 66 = .ok (.getfield 55, 3) := by decide +kernel
theorem dX12_ahead_69 : decode cX12_ahead 69 = .ok (.invokevirtual 276, 3) := by decide +kernel
theorem dX12_ahead_72 : decode cX12_ahead 72 = .ok (.iadd, 1) := by decide +kernel
theorem dX12_ahead_73 : decode cX12_ahead 73 = .ok (.istore_n 2, 1) := by decide +kernel
theorem dX12_ahead_74 : decode cX12_ahead 74 = .ok (.iinc 3 1, 3) := by decide +kernel
theorem dX12_ahead_77 : decode cX12_ahead 77 = .ok (.goto (-30), 3) := by decide +kernel
theorem dX12_ahead_80 : decode cX12_ahead 80 = .ok (.iconst 0, 1) := by decide +kernel
theorem dX12_ahead_81 : decode cX12_ahead 81 = .ok (.istore_n 3, 1) := by decide +kernel
theorem dX12_ahead_82 : decode cX12_ahead 82 = .ok (.iconst 0, 1) := by decide +kernel
theorem dX12_ahead_83 : decode cX12_ahead 83 = .ok (.istore 4, 2) := by decide +kernel
theorem dX12_ahead_85 : decode cX12_ahead 85 = .ok (.iload 4, 2) := by decide +kernel
theorem dX12_ahead_87 : decode cX12_ahead 87 = .ok (.aload_n 0, 1) := by decide +kernel
theorem dX12_ahead_88 : decode cX12_ahead 88 = .ok (.getfield 95, 3) := by decide +kernel
theorem dX12_ahead_91 : decode cX12_ahead 91 = .ok (.if_icmp .ge 19, 3) := by decide +kernel
theorem dX12_ahead_94 : decode cX12_ahead 94 = .ok (.iload_n 3, 1) := by decide +kernel
theorem dX12_ahead_95 : decode cX12_ahead 95 = .ok (.aload_n 0, 1) := by decide +kernel
theorem dX12_ahead_96 : decode cX12_ahead 96 = .ok (.getfield 55, 3) := by decide +kernel
theorem dX12_ahead_99 : decode cX12_ahead 99 = .ok (.iload 4, 2) := by decide +kernel
theorem dX12_ahead_101 : decode cX12_ahead 101 = .ok (.iaload, 1) := by decide +kernel
theorem dX12_ahead_102 : decode cX12_ahead 102 = .ok (.iadd, 1) := by decide +kernel
theorem dX12_ahead_103 : decode cX12_ahead 103 = .ok (.istore_n 3, 1) := by decide +kernel
theorem dX12_ahead_104 : decode cX12_ahead 104 = .ok (.iinc 4 1, 3) := by decide +kernel
theorem dX12_ahead_107 : decode cX12_ahead 107 = .ok (.goto (-22), 3) := by decide +kernel
theorem dX12_ahead_110 : decode cX12_ahead 110 = .ok (.aload_n 0, 1) := by decide +kernel
theorem dX12_ahead_111 : decode cX12_ahead 111 = .ok (.iconst 0, 1) := by decide +kernel
theorem dX12_ahead_112 : decode cX12_ahead 112 = .ok (.putfield 92, 3) := by decide +kernel
theorem dX12_ahead_115 : decode cX12_ahead 115 = .ok (.aload_n 0, 1) := by decide +kernel
theorem dX12_ahead_116 : decode cX12_ahead 116 = .ok (.aload_n 0, 1) := by decide +kernel
theorem dX12_ahead_117 : decode cX12_ahead 117 = .ok (.getfield 55, 3) := by decide +kernel
theorem dX12_ahead_120 : decode cX12_ahead 120 = .ok (.bipush 24, 2) := by decide +kernel
theorem dX12_ahead_122 : decode cX12_ahead 122 = .ok (.iaload, 1) := by decide +kernel
theorem dX12_ahead_123 : decode cX12_ahead 123 = .ok (.i2l, 1) := by decide +kernel
theorem dX12_ahead_124 : decode cX12_ahead 124 = .ok (.invokevirtual 253, 3) := by decide +kernel
theorem dX12_ahead_127 : decode cX12_ahead 127 = .ok (.aload_n 0, 1) := by decide +kernel
theorem dX12_ahead_128 : decode cX12_ahead 128 = .ok (.iload_n 3, 1) := by decide +kernel
theorem dX12_ahead_129 : decode cX12_ahead 129 = .ok (.i2l, 1) := by decide +kernel
theorem dX12_ahead_130 : decode cX12_ahead 130 = .ok (.invokevirtual 253, 3) := by decide +kernel
theorem dX12_ahead_133 : decode cX12_ahead 133 = .ok (.iload_n 2, 1) := by decide +kernel
theorem dX12_ahead_134 : decode cX12_ahead 134 = .ok (.ireturn, 1) := by decide +kernel
theorem dX12_firstOf_0 : decode cX12_firstOf 0 = .ok (.aload_n 0, 1) := by decide +kernel
theorem dX12_firstOf_1 : decode cX12_firstOf 1 = .ok (.getfield 9, 3) := by decide +kernel
theorem dX12_firstOf_4 : decode cX12_firstOf 4 = .ok (.aload_n 0, 1) := by decide +kernel
theorem dX12_firstOf_5 : decode cX12_firstOf 5 = .ok (.getfield 55, 3) := by decide +kernel
theorem dX12_firstOf_8 : decode cX12_firstOf 8 = .ok (.iconst 0, 1) := by decide +kernel
theorem dX12_firstOf_9 : decode cX12_firstOf 9 = .ok (.invokestatic 257, 3) := by decide +kernel
theorem dX12_firstOf_12 : decode cX12_firstOf 12 = .ok (.aload_n 0, 1) := by decide +kernel
theorem dX12_firstOf_13 : decode cX12_firstOf 13 = .ok (.aload_n 0, 1) := by decide +kernel
theorem dX12_firstOf_14 : decode cX12_firstOf 14 = .ok (.getfield 55, 3) := by decide +kernel
theorem dX12_firstOf_17 : decode cX12_firstOf 17 = .ok (.invokevirtual 261, 3) := by decide +kernel
theorem dX12_firstOf_20 : decode cX12_firstOf 20 = .ok (.ifCond .ne 25, 3) := by decide +kernel
theorem dX12_firstOf_23 : decode cX12_firstOf 23 = .ok (.aload_n 0, 1) := by decide +kernel
theorem dX12_firstOf_24 : decode cX12_firstOf 24 = .ok (.aload_n 0, 1) := by decide +kernel
theorem dX12_firstOf_25 : decode cX12_firstOf 25 = .ok (.getfield 55, 3) := by decide +kernel
theorem dX12_firstOf_28 : decode cX12_firstOf 28 = .ok (.invokevirtual 276, 3) := by decide +kernel
theorem dX12_firstOf_31 : decode cX12_firstOf 31 = .ok (.iconst 1, 1) := by decide +kernel
theorem dX12_firstOf_32 : decode cX12_firstOf 32 = .ok (.if_icmp .ne (-20), 3) := by decide +kernel
theorem dX12_firstOf_35 : decode cX12_firstOf 35 = .ok (.aload_n 0, 1) := by decide +kernel
theorem dX12_firstOf_36 : decode cX12_firstOf 36 = .ok (.getfield 55, 3) := by decide +kernel
theorem dX12_firstOf_39 : decode cX12_firstOf 39 = .ok (.bipush 24, 2) := by decide +kernel
theorem dX12_firstOf_41 : decode cX12_firstOf 41 = .ok (.iaload, 1) := by decide +kernel
theorem dX12_firstOf_42 : decode cX12_firstOf 42 = .ok (.iconst 1, 1) := by decide +kernel
theorem dX12_firstOf_43 : decode cX12_firstOf 43 = .ok (.isub, 1) := by decide +kernel
theorem dX12_firstOf_44 : decode cX12_firstOf 44 = .ok (.ireturn, 1) := by decide +kernel
theorem dX12_firstOf_45 : decode cX12_firstOf 45 = .ok (.bipush 12, 2) := by decide +kernel
theorem dX12_firstOf_47 : decode cX12_firstOf 47 = .ok (.ireturn, 1) := by decide +kernel
theorem dX12_first_0 : decode cX12_first 0 = .ok (.aload_n 0, 1) := by decide +kernel
theorem dX12_first_1 : decode cX12_first 1 = .ok (.iconst 0, 1) := by decide +kernel
theorem dX12_first_2 : decode cX12_first 2 = .ok (.putfield 89, 3) := by decide +kernel
theorem dX12_first_5 : decode cX12_first 5 = .ok (.aload_n 0, 1) := by decide +kernel
theorem dX12_first_6 : decode cX12_first 6 = .ok (.aload_n 0, 1) := by decide +kernel
theorem dX12_first_7 : decode cX12_first 7 = .ok (.getfield 9, 3) := by decide +kernel
theorem dX12_first_10 : decode cX12_first 10 = .ok (.invokevirtual 244, 3) := by decide +kernel
theorem dX12_first_13 : decode cX12_first 13 = .ok (.ifCond .ne 6, 3) := by decide +kernel
theorem dX12_first_16 : decode cX12_first 16 = .ok (.bipush (-3), 2) := by decide +kernel
theorem dX12_first_18 : decode cX12_first 18 = .ok (.ireturn, 1) := by decide +kernel
theorem dX12_first_19 : decode cX12_first 19 = .ok (.aload_n 0, 1) := by decide +kernel
theorem dX12_first_20 : decode cX12_first 20 = .ok (.invokevirtual 313, 3) := by decide +kernel
theorem dX12_first_23 : decode cX12_first 23 = .ok (.istore_n 1, 1) := by decide +kernel
theorem dX12_first_24 : decode cX12_first 24 = .ok (.iload_n 1, 1) := by decide +kernel
theorem dX12_first_25 : decode cX12_first 25 = .ok (.bipush 12, 2) := by decide +kernel
theorem dX12_first_27 : decode cX12_first 27 = .ok (.if_icmp .ne 8, 3) := by decide +kernel
theorem dX12_first_30 : decode cX12_first 30 = .ok (.bipush (-2), 2) := by decide +kernel
theorem dX12_first_32 : decode cX12_first 32 = .ok (.goto 4, 3) := by decide +kernel
theorem dX12_first_35 : decode cX12_first 35 = .ok (.iload_n 1, 1) := by decide +kernel
theorem dX12_first_36 : decode cX12_first 36 = .ok (.ireturn, 1) := by decide +kernel
theorem dX12_bears_0 : decode cX12_bears 0 = .ok (.aload_n 0, 1) := by decide +kernel
theorem dX12_bears_1 : decode cX12_bears 1 = .ok (.iconst 0, 1) := by decide +kernel
theorem dX12_bears_2 : decode cX12_bears 2 = .ok (.putfield 89, 3) := by decide +kernel
theorem dX12_bears_5 : decode cX12_bears 5 = .ok (.aload_n 0, 1) := by decide +kernel
theorem dX12_bears_6 : decode cX12_bears 6 = .ok (.aload_n 0, 1) := by decide +kernel
theorem dX12_bears_7 : decode cX12_bears 7 = .ok (.getfield 9, 3) := by decide +kernel
theorem dX12_bears_10 : decode cX12_bears 10 = .ok (.invokevirtual 244, 3) := by decide +kernel
theorem dX12_bears_13 : decode cX12_bears 13 = .ok (.ifCond .ne 6, 3) := by decide +kernel
theorem dX12_bears_16 : decode cX12_bears 16 = .ok (.bipush (-3), 2) := by decide +kernel
theorem dX12_bears_18 : decode cX12_bears 18 = .ok (.ireturn, 1) := by decide +kernel
theorem dX12_bears_19 : decode cX12_bears 19 = .ok (.aload_n 0, 1) := by decide +kernel
theorem dX12_bears_20 : decode cX12_bears 20 = .ok (.getfield 9, 3) := by decide +kernel
theorem dX12_bears_23 : decode cX12_bears 23 = .ok (.aload_n 0, 1) := by decide +kernel
theorem dX12_bears_24 : decode cX12_bears 24 = .ok (.getfield 55, 3) := by decide +kernel
theorem dX12_bears_27 : decode cX12_bears 27 = .ok (.iconst 0, 1) := by decide +kernel
theorem dX12_bears_28 : decode cX12_bears 28 = .ok (.invokestatic 257, 3) := by decide +kernel
theorem dX12_bears_31 : decode cX12_bears 31 = .ok (.aload_n 0, 1) := by decide +kernel
theorem dX12_bears_32 : decode cX12_bears 32 = .ok (.getfield 55, 3) := by decide +kernel
theorem dX12_bears_35 : decode cX12_bears 35 = .ok (.bipush 25, 2) := by decide +kernel
theorem dX12_bears_37 : decode cX12_bears 37 = .ok (.iconst 0, 1) := by decide +kernel
theorem dX12_bears_38 : decode cX12_bears 38 = .ok (.iastore, 1) := by decide +kernel
theorem dX12_bears_39 : decode cX12_bears 39 = .ok (.sipush 999, 3) := by decide +kernel
theorem dX12_bears_42 : decode cX12_bears 42 = .ok (.istore_n 1, 1) := by decide +kernel
theorem dX12_bears_43 : decode cX12_bears 43 = .ok (.aload_n 0, 1) := by decide +kernel
theorem dX12_bears_44 : decode cX12_bears 44 = .ok (.aload_n 0, 1) := by decide +kernel
theorem dX12_bears_45 : decode cX12_bears 45 = .ok (.getfield 55, 3) := by decide +kernel
theorem dX12_bears_48 : decode cX12_bears 48 = .ok (.invokevirtual 261, 3) := by decide +kernel
theorem dX12_bears_51 : decode cX12_bears 51 = .ok (.ifCond .ne 52, 3) := by decide +kernel
theorem dX12_bears_54 : decode cX12_bears 54 = .ok (.iload_n 1, 1) := by decide +kernel
theorem dX12_bears_55 : decode cX12_bears 55 = .ok (.aload_n 0, 1) := by decide +kernel
theorem dX12_bears_56 : decode cX12_bears 56 = .ok (.aload_n 0, 1) := by decide +kernel
theorem dX12_bears_57 : decode cX12_bears 57 = .ok (.getfield 55, 3) := by decide +kernel
theorem dX12_bears_60 : decode cX12_bears 60 = .ok (.aload_n 0, 1) := by decide +kernel
theorem dX12_bears_61 : decode cX12_bears 61 = .ok (.aload_n 0, 1) := by decide +kernel
theorem dX12_bears_62 : decode cX12_bears 62 = .ok (.getfield 55, 3) := by decide +kernel
theorem dX12_bears_65 : decode cX12_bears 65 = .ok (.invokevirtual 244, 3) := by decide +kernel
theorem dX12_bears_68 : decode cX12_bears 68 = .ok (.invokevirtual 230, 3) := by decide +kernel
theorem dX12_bears_71 : decode cX12_bears 71 = .ok (.aload_n 0, 1) := by decide +kernel
theorem dX12_bears_72 : decode cX12_bears 72 = .ok (.aload_n 0, 1) := by decide +kernel
theorem dX12_bears_73 : decode cX12_bears 73 = .ok (.getfield 55, 3) := by decide +kernel
theorem dX12_bears_76 : decode cX12_bears 76 = .ok (.invokevirtual 219, 3) := by decide +kernel
theorem dX12_bears_79 : decode cX12_bears 79 = .ok (.isub, 1) := by decide +kernel
theorem dX12_bears_80 : decode cX12_bears 80 = .ok (.invokestatic 223, 3) := by decide +kernel
theorem dX12_bears_83 : decode cX12_bears 83 = .ok (.istore_n 1, 1) := by decide +kernel
theorem dX12_bears_84 : decode cX12_bears 84 = .ok (.iload_n 1, 1) := by decide +kernel
theorem dX12_bears_85 : decode cX12_bears 85 = .ok (.ifCond .ge 6, 3) := by decide +kernel
theorem dX12_bears_88 : decode cX12_bears 88 = .ok (.bipush (-2), 2) := by decide +kernel
theorem dX12_bears_90 : decode cX12_bears 90 = .ok (.ireturn, 1) := by decide +kernel
theorem dX12_bears_91 : decode cX12_bears 91 = .ok (.aload_n 0, 1) := by decide +kernel
theorem dX12_bears_92 : decode cX12_bears 92 = .ok (.aload_n 0, 1) := by decide +kernel
theorem dX12_bears_93 : decode cX12_bears 93 = .ok (.getfield 55, 3) := by decide +kernel
theorem dX12_bears_96 : decode cX12_bears 96 = .ok (.invokevirtual 276, 3) := by decide +kernel
theorem dX12_bears_99 : decode cX12_bears 99 = .ok (.pop, 1) := by decide +kernel
theorem dX12_bears_100 : decode cX12_bears 100 = .ok (.goto (-57), 3) := by decide +kernel
theorem dX12_bears_103 : decode cX12_bears 103 = .ok (.iload_n 1, 1) := by decide +kernel
theorem dX12_bears_104 : decode cX12_bears 104 = .ok (.ireturn, 1) := by decide +kernel
theorem dX12_layRoom_0 : decode cX12_layRoom 0 = .ok (.aload_n 0, 1) := by decide +kernel
theorem dX12_layRoom_1 : decode cX12_layRoom 1 = .ok (.getfield 9, 3) := by decide +kernel
theorem dX12_layRoom_4 : decode cX12_layRoom 4 = .ok (.aload_n 0, 1) := by decide +kernel
theorem dX12_layRoom_5 : decode cX12_layRoom 5 = .ok (.getfield 55, 3) := by decide +kernel
theorem dX12_layRoom_8 : decode cX12_layRoom 8 = .ok (.iconst 0, 1) := by decide +kernel
theorem dX12_layRoom_9 : decode cX12_layRoom 9 = .ok (.invokestatic 257, 3) := by decide +kernel
theorem dX12_layRoom_12 : decode cX12_layRoom 12 = .ok (.aload_n 0, 1) := by decide +kernel
theorem dX12_layRoom_13 : decode cX12_layRoom 13 = .ok (.getfield 55, 3) := by decide +kernel
theorem dX12_layRoom_16 : decode cX12_layRoom 16 = .ok (.bipush 25, 2) := by decide +kernel
theorem dX12_layRoom_18 : decode cX12_layRoom 18 = .ok (.iconst 0, 1) := by decide +kernel
theorem dX12_layRoom_19 : decode cX12_layRoom 19 = .ok (.iastore, 1) := by decide +kernel
theorem dX12_layRoom_20 : decode cX12_layRoom 20 = .ok (.aload_n 0, 1) := by decide +kernel
theorem dX12_layRoom_21 : decode cX12_layRoom 21 = .ok (.aload_n 0, 1) := by decide +kernel
theorem dX12_layRoom_22 : decode cX12_layRoom 22 = .ok (.getfield 55, 3) := by decide +kernel
theorem dX12_layRoom_25 : decode cX12_layRoom 25 = .ok (.invokevirtual 261, 3) := by decide +kernel
theorem dX12_layRoom_28 : decode cX12_layRoom 28 = .ok (.ifCond .ne 62, 3) := by decide +kernel
theorem dX12_layRoom_31 : decode cX12_layRoom 31 = .ok (.aload_n 0, 1) := by decide +kernel
theorem dX12_layRoom_32 : decode cX12_layRoom 32 = .ok (.getfield 61, 3) := by decide +kernel
theorem dX12_layRoom_35 : decode cX12_layRoom 35 = .ok (.aload_n 0, 1) := by decide +kernel
theorem dX12_layRoom_36 : decode cX12_layRoom 36 = .ok (.getfield 55, 3) := by decide +kernel
theorem dX12_layRoom_39 : decode cX12_layRoom 39 = .ok (.bipush 24, 2) := by decide +kernel
theorem dX12_layRoom_41 : decode cX12_layRoom 41 = .ok (.iaload, 1) := by decide +kernel
theorem dX12_layRoom_42 : decode cX12_layRoom 42 = .ok (.aload_n 0, 1) := by decide +kernel
theorem dX12_layRoom_43 : decode cX12_layRoom 43 = .ok (.aload_n 0, 1) := by decide +kernel
theorem dX12_layRoom_44 : decode cX12_layRoom 44 = .ok (.getfield 55, 3) := by decide +kernel
theorem dX12_layRoom_47 : decode cX12_layRoom 47 = .ok (.aload_n 0, 1) := by decide +kernel
theorem dX12_layRoom_48 : decode cX12_layRoom 48 = .ok (.aload_n 0, 1) := by decide +kernel
theorem dX12_layRoom_49 : decode cX12_layRoom 49 = .ok (.getfield 55, 3) := by decide +kernel
theorem dX12_layRoom_52 : decode cX12_layRoom 52 = .ok (.invokevirtual 244, 3) := by decide +kernel
theorem dX12_layRoom_55 : decode cX12_layRoom 55 = .ok (.invokevirtual 230, 3) := by decide +kernel
theorem dX12_layRoom_58 : decode cX12_layRoom 58 = .ok (.aload_n 0, 1) := by decide +kernel
theorem dX12_layRoom_59 : decode cX12_layRoom 59 = .ok (.aload_n 0, 1) := by decide +kernel
theorem dX12_layRoom_60 : decode cX12_layRoom 60 = .ok (.getfield 55, 3) := by decide +kernel
theorem dX12_layRoom_63 : decode cX12_layRoom 63 = .ok (.invokevirtual 219, 3) := by decide +kernel
theorem dX12_layRoom_66 : decode cX12_layRoom 66 = .ok (.isub, 1) := by decide +kernel
theorem dX12_layRoom_67 : decode cX12_layRoom 67 = .ok (.iastore, 1) := by decide +kernel
theorem dX12_layRoom_68 : decode cX12_layRoom 68 = .ok (.aload_n 0, 1) := by decide +kernel
theorem dX12_layRoom_69 : decode cX12_layRoom 69 = .ok (.getfield 55, 3) := by decide +kernel
theorem dX12_layRoom_72 : decode cX12_layRoom 72 = .ok (.bipush 25, 2) := by decide +kernel
theorem dX12_layRoom_74 : decode cX12_layRoom 74 = .ok (.sipush (-999), 3) := by decide +kernel
theorem dX12_layRoom_77 : decode cX12_layRoom 77 = .ok (.iastore, 1) := by decide +kernel
theorem dX12_layRoom_78 : decode cX12_layRoom 78 = .ok (.aload_n 0, 1) := by decide +kernel
theorem dX12_layRoom_79 : decode cX12_layRoom 79 = .ok (.aload_n 0, 1) := by decide +kernel
theorem dX12_layRoom_80 : decode cX12_layRoom 80 = .ok (.getfield 55, 3) := by decide +kernel
theorem dX12_layRoom_83 : decode cX12_layRoom 83 = .ok (.invokevirtual 276, 3) := by decide +kernel
theorem dX12_layRoom_86 : decode cX12_layRoom 86 = .ok (.pop, 1) := by decide +kernel
theorem dX12_layRoom_87 : decode cX12_layRoom 87 = .ok (.goto (-67), 3) := by decide +kernel
theorem dX12_layRoom_90 : decode cX12_layRoom 90 = .ok (.return_, 1) := by decide +kernel
theorem dX12_goHush_0 : decode cX12_goHush 0 = .ok (.iload_n 1, 1) := by decide +kernel
theorem dX12_goHush_1 : decode cX12_goHush 1 = .ok (.aload_n 0, 1) := by decide +kernel
theorem dX12_goHush_2 : decode cX12_goHush 2 = .ok (.getfield 13, 3) := by decide +kernel
theorem dX12_goHush_5 : decode cX12_goHush 5 = .ok (.if_icmp .lt 14, 3) := by decide +kernel
theorem dX12_goHush_8 : decode cX12_goHush 8 = .ok (.iload 6, 2) := by decide +kernel
theorem dX12_goHush_10 : decode cX12_goHush 10 = .ok (.ifCond .ne 7, 3) := by decide +kernel
theorem dX12_goHush_13 : decode cX12_goHush 13 = .ok (.iconst 1, 1) := by decide +kernel
theorem dX12_goHush_14 : decode cX12_goHush 14 = .ok (.goto 4, 3) := by decide +kernel
theorem dX12_goHush_17 : decode cX12_goHush 17 = .ok (.iconst 0, 1) := by decide +kernel
theorem dX12_goHush_18 : decode cX12_goHush 18 = .ok (.ireturn, 1) := by decide +kernel
theorem dX12_goHush_19 : decode cX12_goHush 19 = .ok (.iload 6, 2) := by decide +kernel
theorem dX12_goHush_21 : decode cX12_goHush 21 = .ok (.ifCond .le 28, 3) := by decide +kernel
theorem dX12_goHush_24 : decode cX12_goHush 24 = .ok (.iload_n 1, 1) := by decide +kernel
theorem dX12_goHush_25 : decode cX12_goHush 25 = .ok (.aload_n 0, 1) := by decide +kernel
theorem dX12_goHush_26 : decode cX12_goHush 26 = .ok (.getfield 9, 3) := by decide +kernel
theorem dX12_goHush_29 : decode cX12_goHush 29 = .ok (.bipush 24, 2) := by decide +kernel
theorem dX12_goHush_31 : decode cX12_goHush 31 = .ok (.iaload, 1) := by decide +kernel
theorem dX12_goHush_32 : decode cX12_goHush 32 = .ok (.if_icmp .gt 13, 3) := by decide +kernel
theorem dX12_goHush_35 : decode cX12_goHush 35 = .ok (.aload_n 0, 1) := by decide +kernel
theorem dX12_goHush_36 : decode cX12_goHush 36 = .ok (.getfield 9, 3) := by decide +kernel
theorem dX12_goHush_39 : decode cX12_goHush 39 = .ok (.bipush 27, 2) := by decide +kernel
theorem dX12_goHush_41 : decode cX12_goHush 41 = .ok (.iaload, 1) := by decide +kernel
theorem dX12_goHush_42 : decode cX12_goHush 42 = .ok (.ifCond .ne 7, 3) := by decide +kernel
theorem dX12_goHush_45 : decode cX12_goHush 45 = .ok (.iconst 1, 1) := by decide +kernel
theorem dX12_goHush_46 : decode cX12_goHush 46 = .ok (.goto 4, 3) := by decide +kernel
theorem dX12_goHush_49 : decode cX12_goHush 49 = .ok (.iconst 0, 1) := by decide +kernel
theorem dX12_goHush_50 : decode cX12_goHush 50 = .ok (.istore 7, 2) := by decide +kernel
theorem dX12_goHush_52 : decode cX12_goHush 52 = .ok (.iconst 0, 1) := by decide +kernel
theorem dX12_goHush_53 : decode cX12_goHush 53 = .ok (.istore 8, 2) := by decide +kernel
theorem dX12_goHush_55 : decode cX12_goHush 55 = .ok (.iload 8, 2) := by decide +kernel
theorem dX12_goHush_57 : decode cX12_goHush 57 = .ok (.aload_n 0, 1) := by decide +kernel
theorem dX12_goHush_58 : decode cX12_goHush 58 = .ok (.getfield 102, 3) := by decide +kernel
theorem dX12_goHush_61 : decode cX12_goHush 61 = .ok (.if_icmp .ge 111, 3) := by decide +kernel
theorem dX12_goHush_64 : decode cX12_goHush 64 = .ok (.iload 7, 2) := by decide +kernel
theorem dX12_goHush_66 : decode cX12_goHush 66 = .ok (.ifCond .eq 106, 3) := by decide +kernel
theorem dX12_goHush_69 : decode cX12_goHush 69 = .ok (.iload_n 3, 1) := by decide +kernel
theorem dX12_goHush_70 : decode cX12_goHush 70 = .ok (.iload 8, 2) := by decide +kernel
theorem dX12_goHush_72 : decode cX12_goHush 72 = .ok (.invokestatic 201, 3) := by decide +kernel
theorem dX12_goHush_75 : decode cX12_goHush 75 = .ok (.ifCond .ne 91, 3) := by decide +kernel
theorem dX12_goHush_78 : decode cX12_goHush 78 = .ok (.aload_n 0, 1) := by decide +kernel
theorem dX12_goHush_79 : decode cX12_goHush 79 = .ok (.iload_n 2, 1) := by decide +kernel
theorem dX12_goHush_80 : decode cX12_goHush 80 = .ok (.iload 8, 2) := by decide +kernel
theorem dX12_goHush_82 : decode cX12_goHush 82 = .ok (.invokevirtual 250, 3) := by decide +kernel
theorem dX12_goHush_85 : decode cX12_goHush 85 = .ok (.ifCond .eq 81, 3) := by decide +kernel
theorem dX12_goHush_88 : decode cX12_goHush 88 = .ok (.aload_n 0, 1) := by decide +kernel
theorem dX12_goHush_89 : decode cX12_goHush 89 = .ok (.iload 4, 2) := by decide +kernel
theorem dX12_goHush_91 : decode cX12_goHush 91 = .ok (.iload 8, 2) := by decide +kernel
theorem dX12_goHush_93 : decode cX12_goHush 93 = .ok (.invokevirtual 297, 3) := by decide +kernel
theorem dX12_goHush_96 : decode cX12_goHush 96 = .ok (.aload_n 0, 1) := by decide +kernel
theorem dX12_goHush_97 : decode cX12_goHush 97 = .ok (.getfield 61, 3) := by decide +kernel
theorem dX12_goHush_100 : decode cX12_goHush 100 = .ok (.iload_n 1, 1) := by decide +kernel
theorem dX12_goHush_101 : decode cX12_goHush 101 = .ok (.iaload, 1) := by decide +kernel
theorem dX12_goHush_102 : decode cX12_goHush 102 = .ok (.if_icmp .le 6, 3) := by decide +kernel
theorem dX12_goHush_105 : decode cX12_goHush 105 = .ok (.goto 61, 3) := by decide +kernel
theorem dX12_goHush_108 : decode cX12_goHush 108 = .ok (.aload_n 0, 1) := by decide +kernel
theorem dX12_goHush_109 : decode cX12_goHush 109 = .ok (.getfield 64, 3) := by decide +kernel
theorem dX12_goHush_112 : decode cX12_goHush 112 = .ok (.iconst 2, 1) := by decide +kernel
theorem dX12_goHush_113 : decode cX12_goHush 113 = .ok (.iload 5, 2) := by decide +kernel
theorem dX12_goHush_115 : decode cX12_goHush 115 = .ok (.imul, 1) := by decide +kernel
theorem dX12_goHush_116 : decode cX12_goHush 116 = .ok (.iload_n 1, 1) := by decide +kernel
theorem dX12_goHush_117 : decode cX12_goHush 117 = .ok (.iastore, 1) := by decide +kernel
theorem dX12_goHush_118 : decode cX12_goHush 118 = .ok (.aload_n 0, 1) := by decide +kernel
theorem dX12_goHush_119 : decode cX12_goHush 119 = .ok (.getfield 64, 3) := by decide +kernel
theorem dX12_goHush_122 : decode cX12_goHush 122 = .ok (.iconst 2, 1) := by decide +kernel
theorem dX12_goHush_123 : decode cX12_goHush 123 = .ok (.iload 5, 2) := by decide +kernel
theorem dX12_goHush_125 : decode cX12_goHush 125 = .ok (.imul, 1) := by decide +kernel
theorem dX12_goHush_126 : decode cX12_goHush 126 = .ok (.iconst 1, 1) := by decide +kernel
theorem dX12_goHush_127 : decode cX12_goHush 127 = .ok (.iadd, 1) := by decide +kernel
theorem dX12_goHush_128 : decode cX12_goHush 128 = .ok (.iload 8, 2) := by decide +kernel
theorem dX12_goHush_130 : decode cX12_goHush 130 = .ok (.iastore, 1) := by decide +kernel
theorem dX12_goHush_131 : decode cX12_goHush 131 = .ok (.aload_n 0, 1) := by decide +kernel
theorem dX12_goHush_132 : decode cX12_goHush 132 = .ok (.iload_n 1, 1) := by decide +kernel
theorem dX12_goHush_133 : decode cX12_goHush 133 = .ok (.iconst 1, 1) := by decide +kernel
theorem dX12_goHush_134 : decode cX12_goHush 134 = .ok (.iadd, 1) := by decide +kernel
theorem dX12_goHush_135 : decode cX12_goHush 135 = .ok (.iload_n 2, 1) := by decide +kernel
theorem dX12_goHush_136 : decode cX12_goHush 136 = .ok (.iload_n 3, 1) := by decide +kernel
theorem dX12_goHush_137 : decode cX12_goHush 137 = .ok (.iconst 1, 1) := by decide +kernel
theorem dX12_goHush_138 : decode cX12_goHush 138 = .ok (.iload 8, 2) := by decide +kernel
theorem dX12_goHush_140 : decode cX12_goHush 140 = .ok (.ishl, 1) := by decide +kernel
theorem dX12_goHush_141 : decode cX12_goHush 141 = .ok (.ior, 1) := by decide +kernel
theorem dX12_goHush_142 : decode cX12_goHush 142 = .ok (.aload_n 0, 1) := by decide +kernel
theorem dX12_goHush_143 : decode cX12_goHush 143 = .ok (.iload 4, 2) := by decide +kernel
theorem dX12_goHush_145 : decode cX12_goHush 145 = .ok (.iload 8, 2) := by decide +kernel
theorem dX12_goHush_147 : decode cX12_goHush 147 = .ok (.invokevirtual 297, 3) := by decide +kernel
theorem dX12_goHush_150 : decode cX12_goHush 150 = .ok (.iload 5, 2) := by decide +kernel
theorem dX12_goHush_152 : decode cX12_goHush 152 = .ok (.iconst 1, 1) := by decide +kernel
theorem dX12_goHush_153 : decode cX12_goHush 153 = .ok (.iadd, 1) := by decide +kernel
theorem dX12_goHush_154 : decode cX12_goHush 154 = .ok (.iload 6, 2) := by decide +kernel
theorem dX12_goHush_156 : decode cX12_goHush 156 = .ok (.iconst 1, 1) := by decide +kernel
theorem dX12_goHush_157 : decode cX12_goHush 157 = .ok (.isub, 1) := by decide +kernel
theorem dX12_goHush_158 : decode cX12_goHush 158 = .ok (.invokevirtual 316, 3) := by decide +kernel
theorem dX12_goHush_161 : decode cX12_goHush 161 = .ok (.ifCond .eq 5, 3) := by decide +kernel
theorem dX12_goHush_164 : decode cX12_goHush 164 = .ok (.iconst 1, 1) := by decide +kernel
theorem dX12_goHush_165 : decode cX12_goHush 165 = .ok (.ireturn, 1) := by decide +kernel
theorem dX12_goHush_166 : decode cX12_goHush 166 = .ok (.iinc 8 1, 3) := by decide +kernel
theorem dX12_goHush_169 : decode cX12_goHush 169 = .ok (.goto (-114), 3) := by decide +kernel
theorem dX12_goHush_172 : decode cX12_goHush 172 = .ok (.iload 4, 2) := by decide +kernel
theorem dX12_goHush_174 : decode cX12_goHush 174 = .ok (.aload_n 0, 1) := by decide +kernel
theorem dX12_goHush_175 : decode cX12_goHush 175 = .ok (.getfield 61, 3) := by decide +kernel
theorem dX12_goHush_178 : decode cX12_goHush 178 = .ok (.iload_n 1, 1) := by decide +kernel
theorem dX12_goHush_179 : decode cX12_goHush 179 = .ok (.iaload, 1) := by decide +kernel
theorem dX12_goHush_180 : decode cX12_goHush 180 = .ok (.if_icmp .gt 25, 3) := by decide +kernel
theorem dX12_goHush_183 : decode cX12_goHush 183 = .ok (.aload_n 0, 1) := by decide +kernel
theorem dX12_goHush_184 : decode cX12_goHush 184 = .ok (.iload_n 1, 1) := by decide +kernel
theorem dX12_goHush_185 : decode cX12_goHush 185 = .ok (.iconst 1, 1) := by decide +kernel
theorem dX12_goHush_186 : decode cX12_goHush 186 = .ok (.iadd, 1) := by decide +kernel
theorem dX12_goHush_187 : decode cX12_goHush 187 = .ok (.iload_n 2, 1) := by decide +kernel
theorem dX12_goHush_188 : decode cX12_goHush 188 = .ok (.iload_n 3, 1) := by decide +kernel
theorem dX12_goHush_189 : decode cX12_goHush 189 = .ok (.iload 4, 2) := by decide +kernel
theorem dX12_goHush_191 : decode cX12_goHush 191 = .ok (.iload 5, 2) := by decide +kernel
theorem dX12_goHush_193 : decode cX12_goHush 193 = .ok (.iload 6, 2) := by decide +kernel
theorem dX12_goHush_195 : decode cX12_goHush 195 = .ok (.invokevirtual 316, 3) := by decide +kernel
theorem dX12_goHush_198 : decode cX12_goHush 198 = .ok (.ifCond .eq 7, 3) := by decide +kernel
theorem dX12_goHush_201 : decode cX12_goHush 201 = .ok (.iconst 1, 1) := by decide +kernel
theorem dX12_goHush_202 : decode cX12_goHush 202 = .ok (.goto 4, 3) := by decide +kernel
theorem dX12_goHush_205 : decode cX12_goHush 205 = .ok (.iconst 0, 1) := by decide +kernel
theorem dX12_goHush_206 : decode cX12_goHush 206 = .ok (.ireturn, 1) := by decide +kernel
theorem dX12_hushOf_0 : decode cX12_hushOf 0 = .ok (.aload_n 0, 1) := by decide +kernel
theorem dX12_hushOf_1 : decode cX12_hushOf 1 = .ok (.invokevirtual 320, 3) := by decide +kernel
theorem dX12_hushOf_4 : decode cX12_hushOf 4 = .ok (.iconst 0, 1) := by decide +kernel
theorem dX12_hushOf_5 : decode cX12_hushOf 5 = .ok (.istore_n 2, 1) := by decide +kernel
theorem dX12_hushOf_6 : decode cX12_hushOf 6 = .ok (.iload_n 2, 1) := by decide +kernel
theorem dX12_hushOf_7 : decode cX12_hushOf 7 = .ok (.iconst 3, 1) := by decide +kernel
theorem dX12_hushOf_8 : decode cX12_hushOf 8 = .ok (.if_icmp .gt 39, 3) := by decide +kernel
theorem dX12_hushOf_11 : decode cX12_hushOf 11 = .ok (.aload_n 0, 1) := by decide +kernel
theorem dX12_hushOf_12 : decode cX12_hushOf 12 = .ok (.aload_n 0, 1) := by decide +kernel
theorem dX12_hushOf_13 : decode cX12_hushOf 13 = .ok (.getfield 9, 3) := by decide +kernel
theorem dX12_hushOf_16 : decode cX12_hushOf 16 = .ok (.bipush 24, 2) := by decide +kernel
theorem dX12_hushOf_18 : decode cX12_hushOf 18 = .ok (.iaload, 1) := by decide +kernel
theorem dX12_hushOf_19 : decode cX12_hushOf 19 = .ok (.iload_n 1, 1) := by decide +kernel
theorem dX12_hushOf_20 : decode cX12_hushOf 20 = .ok (.aload_n 0, 1) := by decide +kernel
theorem dX12_hushOf_21 : decode cX12_hushOf 21 = .ok (.invokevirtual 323, 3) := by decide +kernel
theorem dX12_hushOf_24 : decode cX12_hushOf 24 = .ok (.aload_n 0, 1) := by decide +kernel
theorem dX12_hushOf_25 : decode cX12_hushOf 25 = .ok (.getfield 9, 3) := by decide +kernel
theorem dX12_hushOf_28 : decode cX12_hushOf 28 = .ok (.bipush 25, 2) := by decide +kernel
theorem dX12_hushOf_30 : decode cX12_hushOf 30 = .ok (.iaload, 1) := by decide +kernel
theorem dX12_hushOf_31 : decode cX12_hushOf 31 = .ok (.iconst 0, 1) := by decide +kernel
theorem dX12_hushOf_32 : decode cX12_hushOf 32 = .ok (.iload_n 2, 1) := by decide +kernel
theorem dX12_hushOf_33 : decode cX12_hushOf 33 = .ok (.invokevirtual 316, 3) := by decide +kernel
theorem dX12_hushOf_36 : decode cX12_hushOf 36 = .ok (.ifCond .eq 5, 3) := by decide +kernel
theorem dX12_hushOf_39 : decode cX12_hushOf 39 = .ok (.iload_n 2, 1) := by decide +kernel
theorem dX12_hushOf_40 : decode cX12_hushOf 40 = .ok (.ireturn, 1) := by decide +kernel
theorem dX12_hushOf_41 : decode cX12_hushOf 41 = .ok (.iinc 2 1, 3) := by decide +kernel
theorem dX12_hushOf_44 : decode cX12_hushOf 44 = .ok (.goto (-38), 3) := by decide +kernel
theorem dX12_hushOf_47 : decode cX12_hushOf 47 = .ok (.bipush (-2), 2) := by decide +kernel
theorem dX12_hushOf_49 : decode cX12_hushOf 49 = .ok (.ireturn, 1) := by decide +kernel
theorem dX12_hush_0 : decode cX12_hush 0 = .ok (.aload_n 0, 1) := by decide +kernel
theorem dX12_hush_1 : decode cX12_hush 1 = .ok (.iconst 0, 1) := by decide +kernel
theorem dX12_hush_2 : decode cX12_hush 2 = .ok (.putfield 89, 3) := by decide +kernel
theorem dX12_hush_5 : decode cX12_hush 5 = .ok (.aload_n 0, 1) := by decide +kernel
theorem dX12_hush_6 : decode cX12_hush 6 = .ok (.aload_n 0, 1) := by decide +kernel
theorem dX12_hush_7 : decode cX12_hush 7 = .ok (.getfield 9, 3) := by decide +kernel
theorem dX12_hush_10 : decode cX12_hush 10 = .ok (.invokevirtual 244, 3) := by decide +kernel
theorem dX12_hush_13 : decode cX12_hush 13 = .ok (.ifCond .ne 6, 3) := by decide +kernel
theorem dX12_hush_16 : decode cX12_hush 16 = .ok (.bipush (-3), 2) := by decide +kernel
theorem dX12_hush_18 : decode cX12_hush 18 = .ok (.ireturn, 1) := by decide +kernel
theorem dX12_hush_19 : decode cX12_hush 19 = .ok (.aload_n 0, 1) := by decide +kernel
theorem dX12_hush_20 : decode cX12_hush 20 = .ok (.aload_n 0, 1) := by decide +kernel
theorem dX12_hush_21 : decode cX12_hush 21 = .ok (.getfield 9, 3) := by decide +kernel
theorem dX12_hush_24 : decode cX12_hush 24 = .ok (.bipush 26, 2) := by decide +kernel
theorem dX12_hush_26 : decode cX12_hush 26 = .ok (.iaload, 1) := by decide +kernel
theorem dX12_hush_27 : decode cX12_hush 27 = .ok (.invokevirtual 326, 3) := by decide +kernel
theorem dX12_hush_30 : decode cX12_hush 30 = .ok (.istore_n 1, 1) := by decide +kernel
theorem dX12_hush_31 : decode cX12_hush 31 = .ok (.iload_n 1, 1) := by decide +kernel
theorem dX12_hush_32 : decode cX12_hush 32 = .ok (.ifCond .ge 6, 3) := by decide +kernel
theorem dX12_hush_35 : decode cX12_hush 35 = .ok (.bipush (-2), 2) := by decide +kernel
theorem dX12_hush_37 : decode cX12_hush 37 = .ok (.ireturn, 1) := by decide +kernel
theorem dX12_hush_38 : decode cX12_hush 38 = .ok (.aload_n 0, 1) := by decide +kernel
theorem dX12_hush_39 : decode cX12_hush 39 = .ok (.iconst 0, 1) := by decide +kernel
theorem dX12_hush_40 : decode cX12_hush 40 = .ok (.putfield 92, 3) := by decide +kernel
theorem dX12_hush_43 : decode cX12_hush 43 = .ok (.iconst 0, 1) := by decide +kernel
theorem dX12_hush_44 : decode cX12_hush 44 = .ok (.istore_n 2, 1) := by decide +kernel
theorem dX12_hush_45 : decode cX12_hush 45 = .ok (.iload_n 2, 1) := by decide +kernel
theorem dX12_hush_46 : decode cX12_hush 46 = .ok (.iconst 2, 1) := by decide +kernel
theorem dX12_hush_47 : decode cX12_hush 47 = .ok (.iload_n 1, 1) := by decide +kernel
theorem dX12_hush_48 : decode cX12_hush 48 = .ok (.imul, 1) := by decide +kernel
theorem dX12_hush_49 : decode cX12_hush 49 = .ok (.if_icmp .ge 20, 3) := by decide +kernel
theorem dX12_hush_52 : decode cX12_hush 52 = .ok (.aload_n 0, 1) := by decide +kernel
theorem dX12_hush_53 : decode cX12_hush 53 = .ok (.aload_n 0, 1) := by decide +kernel
theorem dX12_hush_54 : decode cX12_hush 54 = .ok (.getfield 64, 3) := by decide +kernel
theorem dX12_hush_57 : decode cX12_hush 57 = .ok (.iload_n 2, 1) := by decide +kernel
theorem dX12_hush_58 : decode cX12_hush 58 = .ok (.iaload, 1) := by decide +kernel
theorem dX12_hush_59 : decode cX12_hush 59 = .ok (.i2l, 1) := by decide +kernel
theorem dX12_hush_60 : decode cX12_hush 60 = .ok (.invokevirtual 253, 3) := by decide +kernel
theorem dX12_hush_63 : decode cX12_hush 63 = .ok (.iinc 2 1, 3) := by decide +kernel
theorem dX12_hush_66 : decode cX12_hush 66 = .ok (.goto (-21), 3) := by decide +kernel
theorem dX12_hush_69 : decode cX12_hush 69 = .ok (.iload_n 1, 1) := by decide +kernel
theorem dX12_hush_70 : decode cX12_hush 70 = .ok (.ireturn, 1) := by decide +kernel
theorem dX12_which_0 : decode cX12_which 0 = .ok (.aload_n 0, 1) := by decide +kernel
theorem dX12_which_1 : decode cX12_which 1 = .ok (.iconst 0, 1) := by decide +kernel
theorem dX12_which_2 : decode cX12_which 2 = .ok (.putfield 89, 3) := by decide +kernel
theorem dX12_which_5 : decode cX12_which 5 = .ok (.aload_n 0, 1) := by decide +kernel
theorem dX12_which_6 : decode cX12_which 6 = .ok (.aload_n 0, 1) := by decide +kernel
theorem dX12_which_7 : decode cX12_which 7 = .ok (.getfield 9, 3) := by decide +kernel
theorem dX12_which_10 : decode cX12_which 10 = .ok (.invokevirtual 244, 3) := by decide +kernel
theorem dX12_which_13 : decode cX12_which 13 = .ok (.ifCond .ne 6, 3) := by decide +kernel
theorem dX12_which_16 : decode cX12_which 16 = .ok (.bipush (-3), 2) := by decide +kernel
theorem dX12_which_18 : decode cX12_which 18 = .ok (.ireturn, 1) := by decide +kernel
theorem dX12_which_19 : decode cX12_which 19 = .ok (.bipush (-2), 2) := by decide +kernel
theorem dX12_which_21 : decode cX12_which 21 = .ok (.istore_n 1, 1) := by decide +kernel
theorem dX12_which_22 : decode cX12_which 22 = .ok (.ldc_w 329, 3) := by decide +kernel
theorem dX12_which_25 : decode cX12_which 25 = .ok (.istore_n 2, 1) := by decide +kernel
theorem dX12_which_26 : decode cX12_which 26 = .ok (.iconst 0, 1) := by decide +kernel
theorem dX12_which_27 : decode cX12_which 27 = .ok (.istore_n 3, 1) := by decide +kernel
theorem dX12_which_28 : decode cX12_which 28 = .ok (.iload_n 3, 1) := by decide +kernel
theorem dX12_which_29 : decode cX12_which 29 = .ok (.iconst 4, 1) := by decide +kernel
theorem dX12_which_30 : decode cX12_which 30 = .ok (.if_icmp .ge 35, 3) := by decide +kernel
theorem dX12_which_33 : decode cX12_which 33 = .ok (.aload_n 0, 1) := by decide +kernel
theorem dX12_which_34 : decode cX12_which 34 = .ok (.iload_n 3, 1) := by decide +kernel
theorem dX12_which_35 : decode cX12_which 35 = .ok (.invokevirtual 326, 3) := by decide +kernel
theorem dX12_which_38 : decode cX12_which 38 = .ok (.istore 4, 2) := by decide +kernel
theorem dX12_which_40 : decode cX12_which 40 = .ok (.iload 4, 2) := by decide +kernel
theorem dX12_which_42 : decode cX12_which 42 = .ok (.ifCond .lt 17, 3) := by decide +kernel
theorem dX12_which_45 : decode cX12_which 45 = .ok (.iload 4, 2) := by decide +kernel
theorem dX12_which_47 : decode cX12_which 47 = .ok (.iload_n 2, 1) := by decide +kernel
theorem dX12_which_48 : decode cX12_which 48 = .ok (.if_icmp .lt 6, 3) := by decide +kernel
theorem dX12_which_51 : decode cX12_which 51 = .ok (.goto 8, 3) := by decide +kernel
theorem dX12_which_54 : decode cX12_which 54 = .ok (.iload_n 3, 1) := by decide +kernel
theorem dX12_which_55 : decode cX12_which 55 = .ok (.istore_n 1, 1) := by decide +kernel
theorem dX12_which_56 : decode cX12_which 56 = .ok (.iload 4, 2) := by decide +kernel
theorem dX12_which_58 : decode cX12_which 58 = .ok (.istore_n 2, 1) := by decide +kernel
theorem dX12_which_59 : decode cX12_which 59 = .ok (.iinc 3 1, 3) := by decide +kernel
theorem dX12_which_62 : decode cX12_which 62 = .ok (.goto (-34), 3) := by decide +kernel
theorem dX12_which_65 : decode cX12_which 65 = .ok (.iload_n 1, 1) := by decide +kernel
theorem dX12_which_66 : decode cX12_which 66 = .ok (.bipush (-2), 2) := by decide +kernel
theorem dX12_which_68 : decode cX12_which 68 = .ok (.if_icmp .ne 6, 3) := by decide +kernel
theorem dX12_which_71 : decode cX12_which 71 = .ok (.bipush (-2), 2) := by decide +kernel
theorem dX12_which_73 : decode cX12_which 73 = .ok (.ireturn, 1) := by decide +kernel
theorem dX12_which_74 : decode cX12_which 74 = .ok (.aload_n 0, 1) := by decide +kernel
theorem dX12_which_75 : decode cX12_which 75 = .ok (.iconst 0, 1) := by decide +kernel
theorem dX12_which_76 : decode cX12_which 76 = .ok (.putfield 92, 3) := by decide +kernel
theorem dX12_which_79 : decode cX12_which 79 = .ok (.iconst 0, 1) := by decide +kernel
theorem dX12_which_80 : decode cX12_which 80 = .ok (.istore_n 3, 1) := by decide +kernel
theorem dX12_which_81 : decode cX12_which 81 = .ok (.iload_n 3, 1) := by decide +kernel
theorem dX12_which_82 : decode cX12_which 82 = .ok (.iconst 4, 1) := by decide +kernel
theorem dX12_which_83 : decode cX12_which 83 = .ok (.if_icmp .ge 19, 3) := by decide +kernel
theorem dX12_which_86 : decode cX12_which 86 = .ok (.aload_n 0, 1) := by decide +kernel
theorem dX12_which_87 : decode cX12_which 87 = .ok (.aload_n 0, 1) := by decide +kernel
theorem dX12_which_88 : decode cX12_which 88 = .ok (.iload_n 3, 1) := by decide +kernel
theorem dX12_which_89 : decode cX12_which 89 = .ok (.invokevirtual 326, 3) := by decide +kernel
theorem dX12_which_92 : decode cX12_which 92 = .ok (.i2l, 1) := by decide +kernel
theorem dX12_which_93 : decode cX12_which 93 = .ok (.invokevirtual 253, 3) := by decide +kernel
theorem dX12_which_96 : decode cX12_which 96 = .ok (.iinc 3 1, 3) := by decide +kernel
theorem dX12_which_99 : decode cX12_which 99 = .ok (.goto (-18), 3) := by decide +kernel
theorem dX12_which_102 : decode cX12_which 102 = .ok (.iload_n 1, 1) := by decide +kernel
theorem dX12_which_103 : decode cX12_which 103 = .ok (.ireturn, 1) := by decide +kernel
theorem dX12_could_0 : decode cX12_could 0 = .ok (.aload_n 0, 1) := by decide +kernel
theorem dX12_could_1 : decode cX12_could 1 = .ok (.iconst 0, 1) := by decide +kernel
theorem dX12_could_2 : decode cX12_could 2 = .ok (.putfield 89, 3) := by decide +kernel
theorem dX12_could_5 : decode cX12_could 5 = .ok (.iconst 0, 1) := by decide +kernel
theorem dX12_could_6 : decode cX12_could 6 = .ok (.istore_n 1, 1) := by decide +kernel
theorem dX12_could_7 : decode cX12_could 7 = .ok (.iconst (-1), 1) := by decide +kernel
theorem dX12_could_8 : decode cX12_could 8 = .ok (.istore_n 2, 1) := by decide +kernel
theorem dX12_could_9 : decode cX12_could 9 = .ok (.aload_n 0, 1) := by decide +kernel
theorem dX12_could_10 : decode cX12_could 10 = .ok (.getfield 9, 3) := by decide +kernel
theorem dX12_could_13 : decode cX12_could 13 = .ok (.bipush 25, 2) := by decide +kernel
theorem dX12_could_15 : decode cX12_could 15 = .ok (.iaload, 1) := by decide +kernel
theorem dX12_could_16 : decode cX12_could 16 = .ok (.istore_n 3, 1) := by decide +kernel
theorem dX12_could_17 : decode cX12_could 17 = .ok (.iconst 0, 1) := by decide +kernel
theorem dX12_could_18 : decode cX12_could 18 = .ok (.istore 4, 2) := by decide +kernel
theorem dX12_could_20 : decode cX12_could 20 = .ok (.iload 4, 2) := by decide +kernel
theorem dX12_could_22 : decode cX12_could 22 = .ok (.aload_n 0, 1) := by decide +kernel
theorem dX12_could_23 : decode cX12_could 23 = .ok (.getfield 102, 3) := by decide +kernel
theorem dX12_could_26 : decode cX12_could 26 = .ok (.if_icmp .ge 74, 3) := by decide +kernel
theorem dX12_could_29 : decode cX12_could 29 = .ok (.aload_n 0, 1) := by decide +kernel
theorem dX12_could_30 : decode cX12_could 30 = .ok (.aload_n 0, 1) := by decide +kernel
theorem dX12_could_31 : decode cX12_could 31 = .ok (.getfield 9, 3) := by decide +kernel
theorem dX12_could_34 : decode cX12_could 34 = .ok (.iload 4, 2) := by decide +kernel
theorem dX12_could_36 : decode cX12_could 36 = .ok (.invokevirtual 300, 3) := by decide +kernel
theorem dX12_could_39 : decode cX12_could 39 = .ok (.ifCond .ge 6, 3) := by decide +kernel
theorem dX12_could_42 : decode cX12_could 42 = .ok (.goto 52, 3) := by decide +kernel
theorem dX12_could_45 : decode cX12_could 45 = .ok (.iload_n 1, 1) := by decide +kernel
theorem dX12_could_46 : decode cX12_could 46 = .ok (.iconst 1, 1) := by decide +kernel
theorem dX12_could_47 : decode cX12_could 47 = .ok (.iload 4, 2) := by decide +kernel
theorem dX12_could_49 : decode cX12_could 49 = .ok (.ishl, 1) := by decide +kernel
theorem dX12_could_50 : decode cX12_could 50 = .ok (.ior, 1) := by decide +kernel
theorem dX12_could_51 : decode cX12_could 51 = .ok (.istore_n 1, 1) := by decide +kernel
theorem dX12_could_52 : decode cX12_could 52 = .ok (.iload_n 2, 1) := by decide +kernel
theorem dX12_could_53 : decode cX12_could 53 = .ok (.iconst (-1), 1) := by decide +kernel
theorem dX12_could_54 : decode cX12_could 54 = .ok (.if_icmp .eq 23, 3) := by decide +kernel
theorem dX12_could_57 : decode cX12_could 57 = .ok (.aload_n 0, 1) := by decide +kernel
theorem dX12_could_58 : decode cX12_could 58 = .ok (.aload_n 0, 1) := by decide +kernel
theorem dX12_could_59 : decode cX12_could 59 = .ok (.getfield 9, 3) := by decide +kernel
theorem dX12_could_62 : decode cX12_could 62 = .ok (.bipush 25, 2) := by decide +kernel
theorem dX12_could_64 : decode cX12_could 64 = .ok (.iaload, 1) := by decide +kernel
theorem dX12_could_65 : decode cX12_could 65 = .ok (.iload 4, 2) := by decide +kernel
theorem dX12_could_67 : decode cX12_could 67 = .ok (.invokevirtual 297, 3) := by decide +kernel
theorem dX12_could_70 : decode cX12_could 70 = .ok (.iload_n 3, 1) := by decide +kernel
theorem dX12_could_71 : decode cX12_could 71 = .ok (.if_icmp .lt 6, 3) := by decide +kernel
theorem dX12_could_74 : decode cX12_could 74 = .ok (.goto 20, 3) := by decide +kernel
theorem dX12_could_77 : decode cX12_could 77 = .ok (.iload 4, 2) := by decide +kernel
theorem dX12_could_79 : decode cX12_could 79 = .ok (.istore_n 2, 1) := by decide +kernel
theorem dX12_could_80 : decode cX12_could 80 = .ok (.aload_n 0, 1) := by decide +kernel
theorem dX12_could_81 : decode cX12_could 81 = .ok (.aload_n 0, 1) := by decide +kernel
theorem dX12_could_82 : decode cX12_could 82 = .ok (.getfield 9, 3) := by decide +kernel
theorem dX12_could_85 : decode cX12_could 85 = .ok (.bipush 25, 2) := by decide +kernel
theorem dX12_could_87 : decode cX12_could 87 = .ok (.iaload, 1) := by decide +kernel
theorem dX12_could_88 : decode cX12_could 88 = .ok (.iload 4, 2) := by decide +kernel
theorem dX12_could_90 : decode cX12_could 90 = .ok (.invokevirtual 297, 3) := by decide +kernel
theorem dX12_could_93 : decode cX12_could 93 = .ok (.istore_n 3, 1) := by decide +kernel
theorem dX12_could_94 : decode cX12_could 94 = .ok (.iinc 4 1, 3) := by decide +kernel
theorem dX12_could_97 : decode cX12_could 97 = .ok (.goto (-77), 3) := by decide +kernel
theorem dX12_could_100 : decode cX12_could 100 = .ok (.aload_n 0, 1) := by decide +kernel
theorem dX12_could_101 : decode cX12_could 101 = .ok (.iconst 0, 1) := by decide +kernel
theorem dX12_could_102 : decode cX12_could 102 = .ok (.putfield 92, 3) := by decide +kernel
theorem dX12_could_105 : decode cX12_could 105 = .ok (.aload_n 0, 1) := by decide +kernel
theorem dX12_could_106 : decode cX12_could 106 = .ok (.iload_n 2, 1) := by decide +kernel
theorem dX12_could_107 : decode cX12_could 107 = .ok (.i2l, 1) := by decide +kernel
theorem dX12_could_108 : decode cX12_could 108 = .ok (.invokevirtual 253, 3) := by decide +kernel
theorem dX12_could_111 : decode cX12_could 111 = .ok (.aload_n 0, 1) := by decide +kernel
theorem dX12_could_112 : decode cX12_could 112 = .ok (.iload_n 3, 1) := by decide +kernel
theorem dX12_could_113 : decode cX12_could 113 = .ok (.i2l, 1) := by decide +kernel
theorem dX12_could_114 : decode cX12_could 114 = .ok (.invokevirtual 253, 3) := by decide +kernel
theorem dX12_could_117 : decode cX12_could 117 = .ok (.iload_n 1, 1) := by decide +kernel
theorem dX12_could_118 : decode cX12_could 118 = .ok (.ireturn, 1) := by decide +kernel
theorem dX12_team_0 : decode cX12_team 0 = .ok (.aload_n 0, 1) := by decide +kernel
theorem dX12_team_1 : decode cX12_team 1 = .ok (.iconst 0, 1) := by decide +kernel
theorem dX12_team_2 : decode cX12_team 2 = .ok (.putfield 89, 3) := by decide +kernel
theorem dX12_team_5 : decode cX12_team 5 = .ok (.iload_n 1, 1) := by decide +kernel
theorem dX12_team_6 : decode cX12_team 6 = .ok (.iconst 1, 1) := by decide +kernel
theorem dX12_team_7 : decode cX12_team 7 = .ok (.bipush 6, 2) := by decide +kernel
theorem dX12_team_9 : decode cX12_team 9 = .ok (.invokestatic 98, 3) := by decide +kernel
theorem dX12_team_12 : decode cX12_team 12 = .ok (.ifCond .ne 5, 3) := by decide +kernel
theorem dX12_team_15 : decode cX12_team 15 = .ok (.iconst (-1), 1) := by decide +kernel
theorem dX12_team_16 : decode cX12_team 16 = .ok (.ireturn, 1) := by decide +kernel
theorem dX12_team_17 : decode cX12_team 17 = .ok (.iload_n 1, 1) := by decide +kernel
theorem dX12_team_18 : decode cX12_team 18 = .ok (.aload_n 0, 1) := by decide +kernel
theorem dX12_team_19 : decode cX12_team 19 = .ok (.getfield 95, 3) := by decide +kernel
theorem dX12_team_22 : decode cX12_team 22 = .ok (.if_icmp .le 6, 3) := by decide +kernel
theorem dX12_team_25 : decode cX12_team 25 = .ok (.bipush (-2), 2) := by decide +kernel
theorem dX12_team_27 : decode cX12_team 27 = .ok (.ireturn, 1) := by decide +kernel
theorem dX12_team_28 : decode cX12_team 28 = .ok (.iconst 0, 1) := by decide +kernel
theorem dX12_team_29 : decode cX12_team 29 = .ok (.istore_n 2, 1) := by decide +kernel
theorem dX12_team_30 : decode cX12_team 30 = .ok (.iconst (-1), 1) := by decide +kernel
theorem dX12_team_31 : decode cX12_team 31 = .ok (.istore_n 3, 1) := by decide +kernel
theorem dX12_team_32 : decode cX12_team 32 = .ok (.iconst 1, 1) := by decide +kernel
theorem dX12_team_33 : decode cX12_team 33 = .ok (.istore 4, 2) := by decide +kernel
theorem dX12_team_35 : decode cX12_team 35 = .ok (.iload 4, 2) := by decide +kernel
theorem dX12_team_37 : decode cX12_team 37 = .ok (.iconst 1, 1) := by decide +kernel
theorem dX12_team_38 : decode cX12_team 38 = .ok (.aload_n 0, 1) := by decide +kernel
theorem dX12_team_39 : decode cX12_team 39 = .ok (.getfield 95, 3) := by decide +kernel
theorem dX12_team_42 : decode cX12_team 42 = .ok (.ishl, 1) := by decide +kernel
theorem dX12_team_43 : decode cX12_team 43 = .ok (.if_icmp .ge 49, 3) := by decide +kernel
theorem dX12_team_46 : decode cX12_team 46 = .ok (.iload 4, 2) := by decide +kernel
theorem dX12_team_48 : decode cX12_team 48 = .ok (.invokestatic 214, 3) := by decide +kernel
theorem dX12_team_51 : decode cX12_team 51 = .ok (.iload_n 1, 1) := by decide +kernel
theorem dX12_team_52 : decode cX12_team 52 = .ok (.if_icmp .ne 34, 3) := by decide +kernel
theorem dX12_team_55 : decode cX12_team 55 = .ok (.aload_n 0, 1) := by decide +kernel
theorem dX12_team_56 : decode cX12_team 56 = .ok (.aload_n 0, 1) := by decide +kernel
theorem dX12_team_57 : decode cX12_team 57 = .ok (.getfield 9, 3) := by decide +kernel
theorem dX12_team_60 : decode cX12_team 60 = .ok (.iload 4, 2) := by decide +kernel
theorem dX12_team_62 : decode cX12_team 62 = .ok (.invokevirtual 230, 3) := by decide +kernel
theorem dX12_team_65 : decode cX12_team 65 = .ok (.iload_n 3, 1) := by decide +kernel
theorem dX12_team_66 : decode cX12_team 66 = .ok (.if_icmp .gt 6, 3) := by decide +kernel
theorem dX12_team_69 : decode cX12_team 69 = .ok (.goto 17, 3) := by decide +kernel
theorem dX12_team_72 : decode cX12_team 72 = .ok (.iload 4, 2) := by decide +kernel
theorem dX12_team_74 : decode cX12_team 74 = .ok (.istore_n 2, 1) := by decide +kernel
theorem dX12_team_75 : decode cX12_team 75 = .ok (.aload_n 0, 1) := by decide +kernel
theorem dX12_team_76 : decode cX12_team 76 = .ok (.aload_n 0, 1) := by decide +kernel
theorem dX12_team_77 : decode cX12_team 77 = .ok (.getfield 9, 3) := by decide +kernel
theorem dX12_team_80 : decode cX12_team 80 = .ok (.iload 4, 2) := by decide +kernel
theorem dX12_team_82 : decode cX12_team 82 = .ok (.invokevirtual 230, 3) := by decide +kernel
theorem dX12_team_85 : decode cX12_team 85 = .ok (.istore_n 3, 1) := by decide +kernel
theorem dX12_team_86 : decode cX12_team 86 = .ok (.iinc 4 1, 3) := by decide +kernel
theorem dX12_team_89 : decode cX12_team 89 = .ok (.goto (-54), 3) := by decide +kernel
theorem dX12_team_92 : decode cX12_team 92 = .ok (.aload_n 0, 1) := by decide +kernel
theorem dX12_team_93 : decode cX12_team 93 = .ok (.iconst 0, 1) := by decide +kernel
theorem dX12_team_94 : decode cX12_team 94 = .ok (.putfield 92, 3) := by decide +kernel
theorem dX12_team_97 : decode cX12_team 97 = .ok (.aload_n 0, 1) := by decide +kernel
theorem dX12_team_98 : decode cX12_team 98 = .ok (.iload_n 2, 1) := by decide +kernel
theorem dX12_team_99 : decode cX12_team 99 = .ok (.i2l, 1) := by decide +kernel
theorem dX12_team_100 : decode cX12_team 100 = .ok (.invokevirtual 253, 3) := by decide +kernel
theorem dX12_team_103 : decode cX12_team 103 = .ok (.iload_n 3, 1) := by decide +kernel
theorem dX12_team_104 : decode cX12_team 104 = .ok (.ireturn, 1) := by decide +kernel
theorem dX12_fewest_0 : decode cX12_fewest 0 = .ok (.aload_n 0, 1) := by decide +kernel
theorem dX12_fewest_1 : decode cX12_fewest 1 = .ok (.iconst 0, 1) := by decide +kernel
theorem dX12_fewest_2 : decode cX12_fewest 2 = .ok (.putfield 89, 3) := by decide +kernel
theorem dX12_fewest_5 : decode cX12_fewest 5 = .ok (.iconst 0, 1) := by decide +kernel
theorem dX12_fewest_6 : decode cX12_fewest 6 = .ok (.istore_n 1, 1) := by decide +kernel
theorem dX12_fewest_7 : decode cX12_fewest 7 = .ok (.iconst 1, 1) := by decide +kernel
theorem dX12_fewest_8 : decode cX12_fewest 8 = .ok (.istore_n 2, 1) := by decide +kernel
theorem dX12_fewest_9 : decode cX12_fewest 9 = .ok (.iload_n 2, 1) := by decide +kernel
theorem dX12_fewest_10 : decode cX12_fewest 10 = .ok (.iconst 1, 1) := by decide +kernel
theorem dX12_fewest_11 : decode cX12_fewest 11 = .ok (.aload_n 0, 1) := by decide +kernel
theorem dX12_fewest_12 : decode cX12_fewest 12 = .ok (.getfield 95, 3) := by decide +kernel
theorem dX12_fewest_15 : decode cX12_fewest 15 = .ok (.ishl, 1) := by decide +kernel
theorem dX12_fewest_16 : decode cX12_fewest 16 = .ok (.if_icmp .ge 82, 3) := by decide +kernel
theorem dX12_fewest_19 : decode cX12_fewest 19 = .ok (.iload_n 2, 1) := by decide +kernel
theorem dX12_fewest_20 : decode cX12_fewest 20 = .ok (.invokestatic 214, 3) := by decide +kernel
theorem dX12_fewest_23 : decode cX12_fewest 23 = .ok (.istore_n 3, 1) := by decide +kernel
theorem dX12_fewest_24 : decode cX12_fewest 24 = .ok (.iload_n 3, 1) := by decide +kernel
theorem dX12_fewest_25 : decode cX12_fewest 25 = .ok (.bipush 6, 2) := by decide +kernel
theorem dX12_fewest_27 : decode cX12_fewest 27 = .ok (.if_icmp .gt 65, 3) := by decide +kernel
theorem dX12_fewest_30 : decode cX12_fewest 30 = .ok (.aload_n 0, 1) := by decide +kernel
theorem dX12_fewest_31 : decode cX12_fewest 31 = .ok (.aload_n 0, 1) := by decide +kernel
theorem dX12_fewest_32 : decode cX12_fewest 32 = .ok (.getfield 9, 3) := by decide +kernel
theorem dX12_fewest_35 : decode cX12_fewest 35 = .ok (.iload_n 2, 1) := by decide +kernel
theorem dX12_fewest_36 : decode cX12_fewest 36 = .ok (.invokevirtual 265, 3) := by decide +kernel
theorem dX12_fewest_39 : decode cX12_fewest 39 = .ok (.ifCond .eq 53, 3) := by decide +kernel
theorem dX12_fewest_42 : decode cX12_fewest 42 = .ok (.iload_n 1, 1) := by decide +kernel
theorem dX12_fewest_43 : decode cX12_fewest 43 = .ok (.ifCond .eq 14, 3) := by decide +kernel
theorem dX12_fewest_46 : decode cX12_fewest 46 = .ok (.iload_n 3, 1) := by decide +kernel
theorem dX12_fewest_47 : decode cX12_fewest 47 = .ok (.iload_n 1, 1) := by decide +kernel
theorem dX12_fewest_48 : decode cX12_fewest 48 = .ok (.invokestatic 214, 3) := by decide +kernel
theorem dX12_fewest_51 : decode cX12_fewest 51 = .ok (.if_icmp .le 6, 3) := by decide +kernel
theorem dX12_fewest_54 : decode cX12_fewest 54 = .ok (.goto 38, 3) := by decide +kernel
theorem dX12_fewest_57 : decode cX12_fewest 57 = .ok (.iload_n 1, 1) := by decide +kernel
theorem dX12_fewest_58 : decode cX12_fewest 58 = .ok (.ifCond .eq 32, 3) := by decide +kernel
theorem dX12_fewest_61 : decode cX12_fewest 61 = .ok (.iload_n 3, 1) := by decide +kernel
theorem dX12_fewest_62 : decode cX12_fewest 62 = .ok (.iload_n 1, 1) := by decide +kernel
theorem dX12_fewest_63 : decode cX12_fewest 63 = .ok (.invokestatic 214, 3) := by decide +kernel
theorem dX12_fewest_66 : decode cX12_fewest 66 = .ok (.if_icmp .lt 24, 3) := by decide +kernel
theorem dX12_fewest_69 : decode cX12_fewest 69 = .ok (.aload_n 0, 1) := by decide +kernel
theorem dX12_fewest_70 : decode cX12_fewest 70 = .ok (.aload_n 0, 1) := by decide +kernel
theorem dX12_fewest_71 : decode cX12_fewest 71 = .ok (.getfield 9, 3) := by decide +kernel
theorem dX12_fewest_74 : decode cX12_fewest 74 = .ok (.iload_n 2, 1) := by decide +kernel
theorem dX12_fewest_75 : decode cX12_fewest 75 = .ok (.invokevirtual 230, 3) := by decide +kernel
theorem dX12_fewest_78 : decode cX12_fewest 78 = .ok (.aload_n 0, 1) := by decide +kernel
theorem dX12_fewest_79 : decode cX12_fewest 79 = .ok (.aload_n 0, 1) := by decide +kernel
theorem dX12_fewest_80 : decode cX12_fewest 80 = .ok (.getfield 9, 3) := by decide +kernel
theorem dX12_fewest_83 : decode cX12_fewest 83 = .ok (.iload_n 1, 1) := by decide +kernel
theorem dX12_fewest_84 : decode cX12_fewest 84 = .ok (.invokevirtual 230, 3) := by decide +kernel
theorem dX12_fewest_87 : decode cX12_fewest 87 = .ok (.if_icmp .le 5, 3) := by decide +kernel
theorem dX12_fewest_90 : decode cX12_fewest 90 = .ok (.iload_n 2, 1) := by decide +kernel
theorem dX12_fewest_91 : decode cX12_fewest 91 = .ok (.istore_n 1, 1) := by decide +kernel
theorem dX12_fewest_92 : decode cX12_fewest 92 = .ok (.iinc 2 1, 3) := by decide +kernel
theorem dX12_fewest_95 : decode cX12_fewest 95 = .ok (.goto (-86), 3) := by decide +kernel
theorem dX12_fewest_98 : decode cX12_fewest 98 = .ok (.iload_n 1, 1) := by decide +kernel
theorem dX12_fewest_99 : decode cX12_fewest 99 = .ok (.ifCond .ne 6, 3) := by decide +kernel
theorem dX12_fewest_102 : decode cX12_fewest 102 = .ok (.bipush (-2), 2) := by decide +kernel
theorem dX12_fewest_104 : decode cX12_fewest 104 = .ok (.ireturn, 1) := by decide +kernel
theorem dX12_fewest_105 : decode cX12_fewest 105 = .ok (.aload_n 0, 1) := by decide +kernel
theorem dX12_fewest_106 : decode cX12_fewest 106 = .ok (.iconst 0, 1) := by decide +kernel
theorem dX12_fewest_107 : decode cX12_fewest 107 = .ok (.putfield 92, 3) := by decide +kernel
theorem dX12_fewest_110 : decode cX12_fewest 110 = .ok (.aload_n 0, 1) := by decide +kernel
theorem dX12_fewest_111 : decode cX12_fewest 111 = .ok (.iload_n 1, 1) := by decide +kernel
theorem dX12_fewest_112 : decode cX12_fewest 112 = .ok (.i2l, 1) := by decide +kernel
theorem dX12_fewest_113 : decode cX12_fewest 113 = .ok (.invokevirtual 253, 3) := by decide +kernel
theorem dX12_fewest_116 : decode cX12_fewest 116 = .ok (.aload_n 0, 1) := by decide +kernel
theorem dX12_fewest_117 : decode cX12_fewest 117 = .ok (.aload_n 0, 1) := by decide +kernel
theorem dX12_fewest_118 : decode cX12_fewest 118 = .ok (.aload_n 0, 1) := by decide +kernel
theorem dX12_fewest_119 : decode cX12_fewest 119 = .ok (.getfield 9, 3) := by decide +kernel
theorem dX12_fewest_122 : decode cX12_fewest 122 = .ok (.iload_n 1, 1) := by decide +kernel
theorem dX12_fewest_123 : decode cX12_fewest 123 = .ok (.invokevirtual 230, 3) := by decide +kernel
theorem dX12_fewest_126 : decode cX12_fewest 126 = .ok (.i2l, 1) := by decide +kernel
theorem dX12_fewest_127 : decode cX12_fewest 127 = .ok (.invokevirtual 253, 3) := by decide +kernel
theorem dX12_fewest_130 : decode cX12_fewest 130 = .ok (.iload_n 1, 1) := by decide +kernel
theorem dX12_fewest_131 : decode cX12_fewest 131 = .ok (.invokestatic 214, 3) := by decide +kernel
theorem dX12_fewest_134 : decode cX12_fewest 134 = .ok (.ireturn, 1) := by decide +kernel
theorem dX12_change_0 : decode cX12_change 0 = .ok (.aload_n 0, 1) := by decide +kernel
theorem dX12_change_1 : decode cX12_change 1 = .ok (.iconst 0, 1) := by decide +kernel
theorem dX12_change_2 : decode cX12_change 2 = .ok (.putfield 89, 3) := by decide +kernel
theorem dX12_change_5 : decode cX12_change 5 = .ok (.aload_n 0, 1) := by decide +kernel
theorem dX12_change_6 : decode cX12_change 6 = .ok (.aload_n 0, 1) := by decide +kernel
theorem dX12_change_7 : decode cX12_change 7 = .ok (.getfield 9, 3) := by decide +kernel
theorem dX12_change_10 : decode cX12_change 10 = .ok (.invokevirtual 244, 3) := by decide +kernel
theorem dX12_change_13 : decode cX12_change 13 = .ok (.istore_n 1, 1) := by decide +kernel
theorem dX12_change_14 : decode cX12_change 14 = .ok (.iconst (-1), 1) := by decide +kernel
theorem dX12_change_15 : decode cX12_change 15 = .ok (.istore_n 2, 1) := by decide +kernel
theorem dX12_change_16 : decode cX12_change 16 = .ok (.iconst (-1), 1) := by decide +kernel
theorem dX12_change_17 : decode cX12_change 17 = .ok (.istore_n 3, 1) := by decide +kernel
theorem dX12_change_18 : decode cX12_change 18 = .ok (.iconst (-1), 1) := by decide +kernel
theorem dX12_change_19 : decode cX12_change 19 = .ok (.istore 4, 2) := by decide +kernel
theorem dX12_change_21 : decode cX12_change 21 = .ok (.iconst 0, 1) := by decide +kernel
theorem dX12_change_22 : decode cX12_change 22 = .ok (.istore 5, 2) := by decide +kernel
theorem dX12_change_24 : decode cX12_change 24 = .ok (.iload 5, 2) := by decide +kernel
theorem dX12_change_26 : decode cX12_change 26 = .ok (.aload_n 0, 1) := by decide +kernel
theorem dX12_change_27 : decode cX12_change 27 = .ok (.getfield 95, 3) := by decide +kernel
theorem dX12_change_30 : decode cX12_change 30 = .ok (.if_icmp .ge 90, 3) := by decide +kernel
theorem dX12_change_33 : decode cX12_change 33 = .ok (.iconst 0, 1) := by decide +kernel
theorem dX12_change_34 : decode cX12_change 34 = .ok (.istore 6, 2) := by decide +kernel
theorem dX12_change_36 : decode cX12_change 36 = .ok (.iload 6, 2) := by decide +kernel
theorem dX12_change_38 : decode cX12_change 38 = .ok (.aload_n 0, 1) := by decide +kernel
theorem dX12_change_39 : decode cX12_change 39 = .ok (.getfield 95, 3) := by decide +kernel
theorem dX12_change_42 : decode cX12_change 42 = .ok (.if_icmp .ge 72, 3) := by decide +kernel
theorem dX12_change_45 : decode cX12_change 45 = .ok (.iload_n 1, 1) := by decide +kernel
theorem dX12_change_46 : decode cX12_change 46 = .ok (.iload 5, 2) := by decide +kernel
theorem dX12_change_48 : decode cX12_change 48 = .ok (.invokestatic 201, 3) := by decide +kernel
theorem dX12_change_51 : decode cX12_change 51 = .ok (.ifCond .eq 57, 3) := by decide +kernel
theorem dX12_change_54 : decode cX12_change 54 = .ok (.iload_n 1, 1) := by decide +kernel
theorem dX12_change_55 : decode cX12_change 55 = .ok (.iload 6, 2) := by decide +kernel
theorem dX12_change_57 : decode cX12_change 57 = .ok (.invokestatic 201, 3) := by decide +kernel
theorem dX12_change_60 : decode cX12_change 60 = .ok (.ifCond .eq 6, 3) := by decide +kernel
theorem dX12_change_63 : decode cX12_change 63 = .ok (.goto 45, 3) := by decide +kernel
theorem dX12_change_66 : decode cX12_change 66 = .ok (.aload_n 0, 1) := by decide +kernel
theorem dX12_change_67 : decode cX12_change 67 = .ok (.aload_n 0, 1) := by decide +kernel
theorem dX12_change_68 : decode cX12_change 68 = .ok (.getfield 9, 3) := by decide +kernel
theorem dX12_change_71 : decode cX12_change 71 = .ok (.iload_n 1, 1) := by decide +kernel
theorem dX12_change_72 : decode cX12_change 72 = .ok (.iconst 1, 1) := by decide +kernel
theorem dX12_change_73 : decode cX12_change 73 = .ok (.iload 5, 2) := by decide +kernel
theorem dX12_change_75 : decode cX12_change 75 = .ok (.ishl, 1) := by decide +kernel
theorem dX12_change_76 : decode cX12_change 76 = .ok (.iconst (-1), 1) := by decide +kernel
theorem dX12_change_77 : decode cX12_change 77 = .ok (.ixor, 1) := by decide +kernel
theorem dX12_change_78 : decode cX12_change 78 = .ok (.iand, 1) := by decide +kernel
theorem dX12_change_79 : decode cX12_change 79 = .ok (.iconst 1, 1) := by decide +kernel
theorem dX12_change_80 : decode cX12_change 80 = .ok (.iload 6, 2) := by decide +kernel
theorem dX12_change_82 : decode cX12_change 82 = .ok (.ishl, 1) := by decide +kernel
