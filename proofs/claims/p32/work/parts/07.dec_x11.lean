theorem dgX11_init_0 : (decode cX11_init 0 = .ok (.aload_n 0, 1)) ∧ (decode cX11_init 1 = .ok (.invokespecial 1, 3)) ∧ (decode cX11_init 4 = .ok (.aload_n 0, 1)) ∧ (decode cX11_init 5 = .ok (.bipush 40, 2)) ∧ (decode cX11_init 7 = .ok (.newarray .int, 2)) ∧ (decode cX11_init 9 = .ok (.putfield 7, 3)) ∧ (decode cX11_init 12 = .ok (.aload_n 0, 1)) ∧ (decode cX11_init 13 = .ok (.bipush 40, 2)) ∧ (decode cX11_init 15 = .ok (.newarray .int, 2)) ∧ (decode cX11_init 17 = .ok (.putfield 13, 3)) ∧ (decode cX11_init 20 = .ok (.aload_n 0, 1)) ∧ (decode cX11_init 21 = .ok (.bipush 40, 2)) ∧ (decode cX11_init 23 = .ok (.newarray .int, 2)) ∧ (decode cX11_init 25 = .ok (.putfield 16, 3)) ∧ (decode cX11_init 28 = .ok (.aload_n 0, 1)) ∧ (decode cX11_init 29 = .ok (.bipush 40, 2)) := by decide +kernel
theorem dX11_init_0 : decode cX11_init 0 = .ok (.aload_n 0, 1) := dgX11_init_0.1
theorem dX11_init_1 : decode cX11_init 1 = .ok (.invokespecial 1, 3) := dgX11_init_0.2.1
theorem dX11_init_4 : decode cX11_init 4 = .ok (.aload_n 0, 1) := dgX11_init_0.2.2.1
theorem dX11_init_5 : decode cX11_init 5 = .ok (.bipush 40, 2) := dgX11_init_0.2.2.2.1
theorem dX11_init_7 : decode cX11_init 7 = .ok (.newarray .int, 2) := dgX11_init_0.2.2.2.2.1
theorem dX11_init_9 : decode cX11_init 9 = .ok (.putfield 7, 3) := dgX11_init_0.2.2.2.2.2.1
theorem dX11_init_12 : decode cX11_init 12 = .ok (.aload_n 0, 1) := dgX11_init_0.2.2.2.2.2.2.1
theorem dX11_init_13 : decode cX11_init 13 = .ok (.bipush 40, 2) := dgX11_init_0.2.2.2.2.2.2.2.1
theorem dX11_init_15 : decode cX11_init 15 = .ok (.newarray .int, 2) := dgX11_init_0.2.2.2.2.2.2.2.2.1
theorem dX11_init_17 : decode cX11_init 17 = .ok (.putfield 13, 3) := dgX11_init_0.2.2.2.2.2.2.2.2.2.1
theorem dX11_init_20 : decode cX11_init 20 = .ok (.aload_n 0, 1) := dgX11_init_0.2.2.2.2.2.2.2.2.2.2.1
theorem dX11_init_21 : decode cX11_init 21 = .ok (.bipush 40, 2) := dgX11_init_0.2.2.2.2.2.2.2.2.2.2.2.1
theorem dX11_init_23 : decode cX11_init 23 = .ok (.newarray .int, 2) := dgX11_init_0.2.2.2.2.2.2.2.2.2.2.2.2.1
theorem dX11_init_25 : decode cX11_init 25 = .ok (.putfield 16, 3) := dgX11_init_0.2.2.2.2.2.2.2.2.2.2.2.2.2.1
theorem dX11_init_28 : decode cX11_init 28 = .ok (.aload_n 0, 1) := dgX11_init_0.2.2.2.2.2.2.2.2.2.2.2.2.2.2.1
theorem dX11_init_29 : decode cX11_init 29 = .ok (.bipush 40, 2) := dgX11_init_0.2.2.2.2.2.2.2.2.2.2.2.2.2.2.2
theorem dgX11_init_16 : (decode cX11_init 31 = .ok (.newarray .int, 2)) ∧ (decode cX11_init 33 = .ok (.putfield 19, 3)) ∧ (decode cX11_init 36 = .ok (.aload_n 0, 1)) ∧ (decode cX11_init 37 = .ok (.bipush 40, 2)) ∧ (decode cX11_init 39 = .ok (.newarray .int, 2)) ∧ (decode cX11_init 41 = .ok (.putfield 22, 3)) ∧ (decode cX11_init 44 = .ok (.aload_n 0, 1)) ∧ (decode cX11_init 45 = .ok (.bipush 40, 2)) ∧ (decode cX11_init 47 = .ok (.newarray .int, 2)) ∧ (decode cX11_init 49 = .ok (.putfield 25, 3)) ∧ (decode cX11_init 52 = .ok (.aload_n 0, 1)) ∧ (decode cX11_init 53 = .ok (.bipush 40, 2)) ∧ (decode cX11_init 55 = .ok (.newarray .int, 2)) ∧ (decode cX11_init 57 = .ok (.putfield 28, 3)) ∧ (decode cX11_init 60 = .ok (.aload_n 0, 1)) ∧ (decode cX11_init 61 = .ok (.bipush 40, 2)) := by decide +kernel
theorem dX11_init_31 : decode cX11_init 31 = .ok (.newarray .int, 2) := dgX11_init_16.1
theorem dX11_init_33 : decode cX11_init 33 = .ok (.putfield 19, 3) := dgX11_init_16.2.1
theorem dX11_init_36 : decode cX11_init 36 = .ok (.aload_n 0, 1) := dgX11_init_16.2.2.1
theorem dX11_init_37 : decode cX11_init 37 = .ok (.bipush 40, 2) := dgX11_init_16.2.2.2.1
theorem dX11_init_39 : decode cX11_init 39 = .ok (.newarray .int, 2) := dgX11_init_16.2.2.2.2.1
theorem dX11_init_41 : decode cX11_init 41 = .ok (.putfield 22, 3) := dgX11_init_16.2.2.2.2.2.1
theorem dX11_init_44 : decode cX11_init 44 = .ok (.aload_n 0, 1) := dgX11_init_16.2.2.2.2.2.2.1
theorem dX11_init_45 : decode cX11_init 45 = .ok (.bipush 40, 2) := dgX11_init_16.2.2.2.2.2.2.2.1
theorem dX11_init_47 : decode cX11_init 47 = .ok (.newarray .int, 2) := dgX11_init_16.2.2.2.2.2.2.2.2.1
theorem dX11_init_49 : decode cX11_init 49 = .ok (.putfield 25, 3) := dgX11_init_16.2.2.2.2.2.2.2.2.2.1
theorem dX11_init_52 : decode cX11_init 52 = .ok (.aload_n 0, 1) := dgX11_init_16.2.2.2.2.2.2.2.2.2.2.1
theorem dX11_init_53 : decode cX11_init 53 = .ok (.bipush 40, 2) := dgX11_init_16.2.2.2.2.2.2.2.2.2.2.2.1
theorem dX11_init_55 : decode cX11_init 55 = .ok (.newarray .int, 2) := dgX11_init_16.2.2.2.2.2.2.2.2.2.2.2.2.1
theorem dX11_init_57 : decode cX11_init 57 = .ok (.putfield 28, 3) := dgX11_init_16.2.2.2.2.2.2.2.2.2.2.2.2.2.1
theorem dX11_init_60 : decode cX11_init 60 = .ok (.aload_n 0, 1) := dgX11_init_16.2.2.2.2.2.2.2.2.2.2.2.2.2.2.1
theorem dX11_init_61 : decode cX11_init 61 = .ok (.bipush 40, 2) := dgX11_init_16.2.2.2.2.2.2.2.2.2.2.2.2.2.2.2
theorem dgX11_init_32 : (decode cX11_init 63 = .ok (.newarray .int, 2)) ∧ (decode cX11_init 65 = .ok (.putfield 31, 3)) ∧ (decode cX11_init 68 = .ok (.aload_n 0, 1)) ∧ (decode cX11_init 69 = .ok (.bipush 40, 2)) ∧ (decode cX11_init 71 = .ok (.newarray .int, 2)) ∧ (decode cX11_init 73 = .ok (.putfield 34, 3)) ∧ (decode cX11_init 76 = .ok (.aload_n 0, 1)) ∧ (decode cX11_init 77 = .ok (.bipush 40, 2)) ∧ (decode cX11_init 79 = .ok (.newarray .int, 2)) ∧ (decode cX11_init 81 = .ok (.putfield 37, 3)) ∧ (decode cX11_init 84 = .ok (.aload_n 0, 1)) ∧ (decode cX11_init 85 = .ok (.bipush 40, 2)) ∧ (decode cX11_init 87 = .ok (.newarray .boolean, 2)) ∧ (decode cX11_init 89 = .ok (.putfield 40, 3)) ∧ (decode cX11_init 92 = .ok (.aload_n 0, 1)) ∧ (decode cX11_init 93 = .ok (.bipush 40, 2)) := by decide +kernel
theorem dX11_init_63 : decode cX11_init 63 = .ok (.newarray .int, 2) := dgX11_init_32.1
theorem dX11_init_65 : decode cX11_init 65 = .ok (.putfield 31, 3) := dgX11_init_32.2.1
theorem dX11_init_68 : decode cX11_init 68 = .ok (.aload_n 0, 1) := dgX11_init_32.2.2.1
theorem dX11_init_69 : decode cX11_init 69 = .ok (.bipush 40, 2) := dgX11_init_32.2.2.2.1
theorem dX11_init_71 : decode cX11_init 71 = .ok (.newarray .int, 2) := dgX11_init_32.2.2.2.2.1
theorem dX11_init_73 : decode cX11_init 73 = .ok (.putfield 34, 3) := dgX11_init_32.2.2.2.2.2.1
theorem dX11_init_76 : decode cX11_init 76 = .ok (.aload_n 0, 1) := dgX11_init_32.2.2.2.2.2.2.1
theorem dX11_init_77 : decode cX11_init 77 = .ok (.bipush 40, 2) := dgX11_init_32.2.2.2.2.2.2.2.1
theorem dX11_init_79 : decode cX11_init 79 = .ok (.newarray .int, 2) := dgX11_init_32.2.2.2.2.2.2.2.2.1
theorem dX11_init_81 : decode cX11_init 81 = .ok (.putfield 37, 3) := dgX11_init_32.2.2.2.2.2.2.2.2.2.1
theorem dX11_init_84 : decode cX11_init 84 = .ok (.aload_n 0, 1) := dgX11_init_32.2.2.2.2.2.2.2.2.2.2.1
theorem dX11_init_85 : decode cX11_init 85 = .ok (.bipush 40, 2) := dgX11_init_32.2.2.2.2.2.2.2.2.2.2.2.1
theorem dX11_init_87 : decode cX11_init 87 = .ok (.newarray .boolean, 2) := dgX11_init_32.2.2.2.2.2.2.2.2.2.2.2.2.1
theorem dX11_init_89 : decode cX11_init 89 = .ok (.putfield 40, 3) := dgX11_init_32.2.2.2.2.2.2.2.2.2.2.2.2.2.1
theorem dX11_init_92 : decode cX11_init 92 = .ok (.aload_n 0, 1) := dgX11_init_32.2.2.2.2.2.2.2.2.2.2.2.2.2.2.1
theorem dX11_init_93 : decode cX11_init 93 = .ok (.bipush 40, 2) := dgX11_init_32.2.2.2.2.2.2.2.2.2.2.2.2.2.2.2
theorem dgX11_init_48 : (decode cX11_init 95 = .ok (.newarray .boolean, 2)) ∧ (decode cX11_init 97 = .ok (.putfield 44, 3)) ∧ (decode cX11_init 100 = .ok (.aload_n 0, 1)) ∧ (decode cX11_init 101 = .ok (.bipush 40, 2)) ∧ (decode cX11_init 103 = .ok (.newarray .int, 2)) ∧ (decode cX11_init 105 = .ok (.putfield 47, 3)) ∧ (decode cX11_init 108 = .ok (.aload_n 0, 1)) ∧ (decode cX11_init 109 = .ok (.bipush 40, 2)) ∧ (decode cX11_init 111 = .ok (.newarray .int, 2)) ∧ (decode cX11_init 113 = .ok (.putfield 50, 3)) ∧ (decode cX11_init 116 = .ok (.aload_n 0, 1)) ∧ (decode cX11_init 117 = .ok (.bipush 40, 2)) ∧ (decode cX11_init 119 = .ok (.newarray .int, 2)) ∧ (decode cX11_init 121 = .ok (.putfield 53, 3)) ∧ (decode cX11_init 124 = .ok (.aload_n 0, 1)) ∧ (decode cX11_init 125 = .ok (.bipush 40, 2)) := by decide +kernel
theorem dX11_init_95 : decode cX11_init 95 = .ok (.newarray .boolean, 2) := dgX11_init_48.1
theorem dX11_init_97 : decode cX11_init 97 = .ok (.putfield 44, 3) := dgX11_init_48.2.1
theorem dX11_init_100 : decode cX11_init 100 = .ok (.aload_n 0, 1) := dgX11_init_48.2.2.1
theorem dX11_init_101 : decode cX11_init 101 = .ok (.bipush 40, 2) := dgX11_init_48.2.2.2.1
theorem dX11_init_103 : decode cX11_init 103 = .ok (.newarray .int, 2) := dgX11_init_48.2.2.2.2.1
theorem dX11_init_105 : decode cX11_init 105 = .ok (.putfield 47, 3) := dgX11_init_48.2.2.2.2.2.1
theorem dX11_init_108 : decode cX11_init 108 = .ok (.aload_n 0, 1) := dgX11_init_48.2.2.2.2.2.2.1
theorem dX11_init_109 : decode cX11_init 109 = .ok (.bipush 40, 2) := dgX11_init_48.2.2.2.2.2.2.2.1
theorem dX11_init_111 : decode cX11_init 111 = .ok (.newarray .int, 2) := dgX11_init_48.2.2.2.2.2.2.2.2.1
theorem dX11_init_113 : decode cX11_init 113 = .ok (.putfield 50, 3) := dgX11_init_48.2.2.2.2.2.2.2.2.2.1
theorem dX11_init_116 : decode cX11_init 116 = .ok (.aload_n 0, 1) := dgX11_init_48.2.2.2.2.2.2.2.2.2.2.1
theorem dX11_init_117 : decode cX11_init 117 = .ok (.bipush 40, 2) := dgX11_init_48.2.2.2.2.2.2.2.2.2.2.2.1
theorem dX11_init_119 : decode cX11_init 119 = .ok (.newarray .int, 2) := dgX11_init_48.2.2.2.2.2.2.2.2.2.2.2.2.1
theorem dX11_init_121 : decode cX11_init 121 = .ok (.putfield 53, 3) := dgX11_init_48.2.2.2.2.2.2.2.2.2.2.2.2.2.1
theorem dX11_init_124 : decode cX11_init 124 = .ok (.aload_n 0, 1) := dgX11_init_48.2.2.2.2.2.2.2.2.2.2.2.2.2.2.1
theorem dX11_init_125 : decode cX11_init 125 = .ok (.bipush 40, 2) := dgX11_init_48.2.2.2.2.2.2.2.2.2.2.2.2.2.2.2
theorem dgX11_init_64 : (decode cX11_init 127 = .ok (.newarray .int, 2)) ∧ (decode cX11_init 129 = .ok (.putfield 56, 3)) ∧ (decode cX11_init 132 = .ok (.aload_n 0, 1)) ∧ (decode cX11_init 133 = .ok (.sipush 1600, 3)) ∧ (decode cX11_init 136 = .ok (.newarray .int, 2)) ∧ (decode cX11_init 138 = .ok (.putfield 59, 3)) ∧ (decode cX11_init 141 = .ok (.aload_n 0, 1)) ∧ (decode cX11_init 142 = .ok (.bipush 40, 2)) ∧ (decode cX11_init 144 = .ok (.newarray .int, 2)) ∧ (decode cX11_init 146 = .ok (.putfield 62, 3)) ∧ (decode cX11_init 149 = .ok (.aload_n 0, 1)) ∧ (decode cX11_init 150 = .ok (.bipush 40, 2)) ∧ (decode cX11_init 152 = .ok (.newarray .int, 2)) ∧ (decode cX11_init 154 = .ok (.putfield 65, 3)) ∧ (decode cX11_init 157 = .ok (.aload_n 0, 1)) ∧ (decode cX11_init 158 = .ok (.sipush 2400, 3)) := by decide +kernel
theorem dX11_init_127 : decode cX11_init 127 = .ok (.newarray .int, 2) := dgX11_init_64.1
theorem dX11_init_129 : decode cX11_init 129 = .ok (.putfield 56, 3) := dgX11_init_64.2.1
theorem dX11_init_132 : decode cX11_init 132 = .ok (.aload_n 0, 1) := dgX11_init_64.2.2.1
theorem dX11_init_133 : decode cX11_init 133 = .ok (.sipush 1600, 3) := dgX11_init_64.2.2.2.1
theorem dX11_init_136 : decode cX11_init 136 = .ok (.newarray .int, 2) := dgX11_init_64.2.2.2.2.1
theorem dX11_init_138 : decode cX11_init 138 = .ok (.putfield 59, 3) := dgX11_init_64.2.2.2.2.2.1
theorem dX11_init_141 : decode cX11_init 141 = .ok (.aload_n 0, 1) := dgX11_init_64.2.2.2.2.2.2.1
theorem dX11_init_142 : decode cX11_init 142 = .ok (.bipush 40, 2) := dgX11_init_64.2.2.2.2.2.2.2.1
theorem dX11_init_144 : decode cX11_init 144 = .ok (.newarray .int, 2) := dgX11_init_64.2.2.2.2.2.2.2.2.1
theorem dX11_init_146 : decode cX11_init 146 = .ok (.putfield 62, 3) := dgX11_init_64.2.2.2.2.2.2.2.2.2.1
theorem dX11_init_149 : decode cX11_init 149 = .ok (.aload_n 0, 1) := dgX11_init_64.2.2.2.2.2.2.2.2.2.2.1
theorem dX11_init_150 : decode cX11_init 150 = .ok (.bipush 40, 2) := dgX11_init_64.2.2.2.2.2.2.2.2.2.2.2.1
theorem dX11_init_152 : decode cX11_init 152 = .ok (.newarray .int, 2) := dgX11_init_64.2.2.2.2.2.2.2.2.2.2.2.2.1
theorem dX11_init_154 : decode cX11_init 154 = .ok (.putfield 65, 3) := dgX11_init_64.2.2.2.2.2.2.2.2.2.2.2.2.2.1
theorem dX11_init_157 : decode cX11_init 157 = .ok (.aload_n 0, 1) := dgX11_init_64.2.2.2.2.2.2.2.2.2.2.2.2.2.2.1
theorem dX11_init_158 : decode cX11_init 158 = .ok (.sipush 2400, 3) := dgX11_init_64.2.2.2.2.2.2.2.2.2.2.2.2.2.2.2
theorem dgX11_init_80 : (decode cX11_init 161 = .ok (.newarray .float, 2)) ∧ (decode cX11_init 163 = .ok (.putfield 68, 3)) ∧ (decode cX11_init 166 = .ok (.aload_n 0, 1)) ∧ (decode cX11_init 167 = .ok (.sipush 2400, 3)) ∧ (decode cX11_init 170 = .ok (.newarray .boolean, 2)) ∧ (decode cX11_init 172 = .ok (.putfield 72, 3)) ∧ (decode cX11_init 175 = .ok (.aload_n 0, 1)) ∧ (decode cX11_init 176 = .ok (.bipush 16, 2)) ∧ (decode cX11_init 178 = .ok (.newarray .int, 2)) ∧ (decode cX11_init 180 = .ok (.putfield 75, 3)) ∧ (decode cX11_init 183 = .ok (.aload_n 0, 1)) ∧ (decode cX11_init 184 = .ok (.bipush 16, 2)) ∧ (decode cX11_init 186 = .ok (.newarray .int, 2)) ∧ (decode cX11_init 188 = .ok (.putfield 78, 3)) ∧ (decode cX11_init 191 = .ok (.aload_n 0, 1)) ∧ (decode cX11_init 192 = .ok (.iconst (-1), 1)) := by decide +kernel
theorem dX11_init_161 : decode cX11_init 161 = .ok (.newarray .float, 2) := dgX11_init_80.1
theorem dX11_init_163 : decode cX11_init 163 = .ok (.putfield 68, 3) := dgX11_init_80.2.1
theorem dX11_init_166 : decode cX11_init 166 = .ok (.aload_n 0, 1) := dgX11_init_80.2.2.1
theorem dX11_init_167 : decode cX11_init 167 = .ok (.sipush 2400, 3) := dgX11_init_80.2.2.2.1
theorem dX11_init_170 : decode cX11_init 170 = .ok (.newarray .boolean, 2) := dgX11_init_80.2.2.2.2.1
theorem dX11_init_172 : decode cX11_init 172 = .ok (.putfield 72, 3) := dgX11_init_80.2.2.2.2.2.1
theorem dX11_init_175 : decode cX11_init 175 = .ok (.aload_n 0, 1) := dgX11_init_80.2.2.2.2.2.2.1
theorem dX11_init_176 : decode cX11_init 176 = .ok (.bipush 16, 2) := dgX11_init_80.2.2.2.2.2.2.2.1
theorem dX11_init_178 : decode cX11_init 178 = .ok (.newarray .int, 2) := dgX11_init_80.2.2.2.2.2.2.2.2.1
theorem dX11_init_180 : decode cX11_init 180 = .ok (.putfield 75, 3) := dgX11_init_80.2.2.2.2.2.2.2.2.2.1
theorem dX11_init_183 : decode cX11_init 183 = .ok (.aload_n 0, 1) := dgX11_init_80.2.2.2.2.2.2.2.2.2.2.1
theorem dX11_init_184 : decode cX11_init 184 = .ok (.bipush 16, 2) := dgX11_init_80.2.2.2.2.2.2.2.2.2.2.2.1
theorem dX11_init_186 : decode cX11_init 186 = .ok (.newarray .int, 2) := dgX11_init_80.2.2.2.2.2.2.2.2.2.2.2.2.1
theorem dX11_init_188 : decode cX11_init 188 = .ok (.putfield 78, 3) := dgX11_init_80.2.2.2.2.2.2.2.2.2.2.2.2.2.1
theorem dX11_init_191 : decode cX11_init 191 = .ok (.aload_n 0, 1) := dgX11_init_80.2.2.2.2.2.2.2.2.2.2.2.2.2.2.1
theorem dX11_init_192 : decode cX11_init 192 = .ok (.iconst (-1), 1) := dgX11_init_80.2.2.2.2.2.2.2.2.2.2.2.2.2.2.2
theorem dgX11_init_96 : (decode cX11_init 193 = .ok (.putfield 81, 3)) ∧ (decode cX11_init 196 = .ok (.aload_n 0, 1)) ∧ (decode cX11_init 197 = .ok (.bipush 6, 2)) ∧ (decode cX11_init 199 = .ok (.newarray .int, 2)) ∧ (decode cX11_init 201 = .ok (.putfield 85, 3)) ∧ (decode cX11_init 204 = .ok (.aload_n 0, 1)) ∧ (decode cX11_init 205 = .ok (.bipush 6, 2)) ∧ (decode cX11_init 207 = .ok (.newarray .int, 2)) ∧ (decode cX11_init 209 = .ok (.putfield 88, 3)) ∧ (decode cX11_init 212 = .ok (.aload_n 0, 1)) ∧ (decode cX11_init 213 = .ok (.bipush 6, 2)) ∧ (decode cX11_init 215 = .ok (.newarray .int, 2)) ∧ (decode cX11_init 217 = .ok (.putfield 91, 3)) ∧ (decode cX11_init 220 = .ok (.aload_n 0, 1)) ∧ (decode cX11_init 221 = .ok (.bipush 36, 2)) ∧ (decode cX11_init 223 = .ok (.newarray .int, 2)) := by decide +kernel
theorem dX11_init_193 : decode cX11_init 193 = .ok (.putfield 81, 3) := dgX11_init_96.1
theorem dX11_init_196 : decode cX11_init 196 = .ok (.aload_n 0, 1) := dgX11_init_96.2.1
theorem dX11_init_197 : decode cX11_init 197 = .ok (.bipush 6, 2) := dgX11_init_96.2.2.1
theorem dX11_init_199 : decode cX11_init 199 = .ok (.newarray .int, 2) := dgX11_init_96.2.2.2.1
theorem dX11_init_201 : decode cX11_init 201 = .ok (.putfield 85, 3) := dgX11_init_96.2.2.2.2.1
theorem dX11_init_204 : decode cX11_init 204 = .ok (.aload_n 0, 1) := dgX11_init_96.2.2.2.2.2.1
theorem dX11_init_205 : decode cX11_init 205 = .ok (.bipush 6, 2) := dgX11_init_96.2.2.2.2.2.2.1
theorem dX11_init_207 : decode cX11_init 207 = .ok (.newarray .int, 2) := dgX11_init_96.2.2.2.2.2.2.2.1
theorem dX11_init_209 : decode cX11_init 209 = .ok (.putfield 88, 3) := dgX11_init_96.2.2.2.2.2.2.2.2.1
theorem dX11_init_212 : decode cX11_init 212 = .ok (.aload_n 0, 1) := dgX11_init_96.2.2.2.2.2.2.2.2.2.1
theorem dX11_init_213 : decode cX11_init 213 = .ok (.bipush 6, 2) := dgX11_init_96.2.2.2.2.2.2.2.2.2.2.1
theorem dX11_init_215 : decode cX11_init 215 = .ok (.newarray .int, 2) := dgX11_init_96.2.2.2.2.2.2.2.2.2.2.2.1
theorem dX11_init_217 : decode cX11_init 217 = .ok (.putfield 91, 3) := dgX11_init_96.2.2.2.2.2.2.2.2.2.2.2.2.1
theorem dX11_init_220 : decode cX11_init 220 = .ok (.aload_n 0, 1) := dgX11_init_96.2.2.2.2.2.2.2.2.2.2.2.2.2.1
theorem dX11_init_221 : decode cX11_init 221 = .ok (.bipush 36, 2) := dgX11_init_96.2.2.2.2.2.2.2.2.2.2.2.2.2.2.1
theorem dX11_init_223 : decode cX11_init 223 = .ok (.newarray .int, 2) := dgX11_init_96.2.2.2.2.2.2.2.2.2.2.2.2.2.2.2
theorem dgX11_init_112 : (decode cX11_init 225 = .ok (.putfield 94, 3)) ∧ (decode cX11_init 228 = .ok (.aload_n 0, 1)) ∧ (decode cX11_init 229 = .ok (.bipush 10, 2)) ∧ (decode cX11_init 231 = .ok (.newarray .int, 2)) ∧ (decode cX11_init 233 = .ok (.putfield 97, 3)) ∧ (decode cX11_init 236 = .ok (.aload_n 0, 1)) ∧ (decode cX11_init 237 = .ok (.sipush 600, 3)) ∧ (decode cX11_init 240 = .ok (.newarray .int, 2)) ∧ (decode cX11_init 242 = .ok (.putfield 100, 3)) ∧ (decode cX11_init 245 = .ok (.aload_n 0, 1)) ∧ (decode cX11_init 246 = .ok (.sipush 600, 3)) ∧ (decode cX11_init 249 = .ok (.newarray .int, 2)) ∧ (decode cX11_init 251 = .ok (.putfield 103, 3)) ∧ (decode cX11_init 254 = .ok (.aload_n 0, 1)) ∧ (decode cX11_init 255 = .ok (.sipush 600, 3)) ∧ (decode cX11_init 258 = .ok (.newarray .int, 2)) := by decide +kernel
theorem dX11_init_225 : decode cX11_init 225 = .ok (.putfield 94, 3) := dgX11_init_112.1
theorem dX11_init_228 : decode cX11_init 228 = .ok (.aload_n 0, 1) := dgX11_init_112.2.1
theorem dX11_init_229 : decode cX11_init 229 = .ok (.bipush 10, 2) := dgX11_init_112.2.2.1
theorem dX11_init_231 : decode cX11_init 231 = .ok (.newarray .int, 2) := dgX11_init_112.2.2.2.1
theorem dX11_init_233 : decode cX11_init 233 = .ok (.putfield 97, 3) := dgX11_init_112.2.2.2.2.1
theorem dX11_init_236 : decode cX11_init 236 = .ok (.aload_n 0, 1) := dgX11_init_112.2.2.2.2.2.1
theorem dX11_init_237 : decode cX11_init 237 = .ok (.sipush 600, 3) := dgX11_init_112.2.2.2.2.2.2.1
theorem dX11_init_240 : decode cX11_init 240 = .ok (.newarray .int, 2) := dgX11_init_112.2.2.2.2.2.2.2.1
theorem dX11_init_242 : decode cX11_init 242 = .ok (.putfield 100, 3) := dgX11_init_112.2.2.2.2.2.2.2.2.1
theorem dX11_init_245 : decode cX11_init 245 = .ok (.aload_n 0, 1) := dgX11_init_112.2.2.2.2.2.2.2.2.2.1
theorem dX11_init_246 : decode cX11_init 246 = .ok (.sipush 600, 3) := dgX11_init_112.2.2.2.2.2.2.2.2.2.2.1
theorem dX11_init_249 : decode cX11_init 249 = .ok (.newarray .int, 2) := dgX11_init_112.2.2.2.2.2.2.2.2.2.2.2.1
theorem dX11_init_251 : decode cX11_init 251 = .ok (.putfield 103, 3) := dgX11_init_112.2.2.2.2.2.2.2.2.2.2.2.2.1
theorem dX11_init_254 : decode cX11_init 254 = .ok (.aload_n 0, 1) := dgX11_init_112.2.2.2.2.2.2.2.2.2.2.2.2.2.1
theorem dX11_init_255 : decode cX11_init 255 = .ok (.sipush 600, 3) := dgX11_init_112.2.2.2.2.2.2.2.2.2.2.2.2.2.2.1
theorem dX11_init_258 : decode cX11_init 258 = .ok (.newarray .int, 2) := dgX11_init_112.2.2.2.2.2.2.2.2.2.2.2.2.2.2.2
theorem dgX11_init_128 : (decode cX11_init 260 = .ok (.putfield 106, 3)) ∧ (decode cX11_init 263 = .ok (.aload_n 0, 1)) ∧ (decode cX11_init 264 = .ok (.sipush 600, 3)) ∧ (decode cX11_init 267 = .ok (.newarray .int, 2)) ∧ (decode cX11_init 269 = .ok (.putfield 109, 3)) ∧ (decode cX11_init 272 = .ok (.aload_n 0, 1)) ∧ (decode cX11_init 273 = .ok (.sipush 600, 3)) ∧ (decode cX11_init 276 = .ok (.newarray .boolean, 2)) ∧ (decode cX11_init 278 = .ok (.putfield 112, 3)) ∧ (decode cX11_init 281 = .ok (.aload_n 0, 1)) ∧ (decode cX11_init 282 = .ok (.sipush 600, 3)) ∧ (decode cX11_init 285 = .ok (.newarray .int, 2)) ∧ (decode cX11_init 287 = .ok (.putfield 115, 3)) ∧ (decode cX11_init 290 = .ok (.aload_n 0, 1)) ∧ (decode cX11_init 291 = .ok (.sipush 600, 3)) ∧ (decode cX11_init 294 = .ok (.newarray .int, 2)) := by decide +kernel
theorem dX11_init_260 : decode cX11_init 260 = .ok (.putfield 106, 3) := dgX11_init_128.1
theorem dX11_init_263 : decode cX11_init 263 = .ok (.aload_n 0, 1) := dgX11_init_128.2.1
theorem dX11_init_264 : decode cX11_init 264 = .ok (.sipush 600, 3) := dgX11_init_128.2.2.1
theorem dX11_init_267 : decode cX11_init 267 = .ok (.newarray .int, 2) := dgX11_init_128.2.2.2.1
theorem dX11_init_269 : decode cX11_init 269 = .ok (.putfield 109, 3) := dgX11_init_128.2.2.2.2.1
theorem dX11_init_272 : decode cX11_init 272 = .ok (.aload_n 0, 1) := dgX11_init_128.2.2.2.2.2.1
theorem dX11_init_273 : decode cX11_init 273 = .ok (.sipush 600, 3) := dgX11_init_128.2.2.2.2.2.2.1
theorem dX11_init_276 : decode cX11_init 276 = .ok (.newarray .boolean, 2) := dgX11_init_128.2.2.2.2.2.2.2.1
theorem dX11_init_278 : decode cX11_init 278 = .ok (.putfield 112, 3) := dgX11_init_128.2.2.2.2.2.2.2.2.1
theorem dX11_init_281 : decode cX11_init 281 = .ok (.aload_n 0, 1) := dgX11_init_128.2.2.2.2.2.2.2.2.2.1
theorem dX11_init_282 : decode cX11_init 282 = .ok (.sipush 600, 3) := dgX11_init_128.2.2.2.2.2.2.2.2.2.2.1
theorem dX11_init_285 : decode cX11_init 285 = .ok (.newarray .int, 2) := dgX11_init_128.2.2.2.2.2.2.2.2.2.2.2.1
theorem dX11_init_287 : decode cX11_init 287 = .ok (.putfield 115, 3) := dgX11_init_128.2.2.2.2.2.2.2.2.2.2.2.2.1
theorem dX11_init_290 : decode cX11_init 290 = .ok (.aload_n 0, 1) := dgX11_init_128.2.2.2.2.2.2.2.2.2.2.2.2.2.1
theorem dX11_init_291 : decode cX11_init 291 = .ok (.sipush 600, 3) := dgX11_init_128.2.2.2.2.2.2.2.2.2.2.2.2.2.2.1
theorem dX11_init_294 : decode cX11_init 294 = .ok (.newarray .int, 2) := dgX11_init_128.2.2.2.2.2.2.2.2.2.2.2.2.2.2.2
theorem dgX11_init_144 : (decode cX11_init 296 = .ok (.putfield 118, 3)) ∧ (decode cX11_init 299 = .ok (.aload_n 0, 1)) ∧ (decode cX11_init 300 = .ok (.sipush 144, 3)) ∧ (decode cX11_init 303 = .ok (.newarray .int, 2)) ∧ (decode cX11_init 305 = .ok (.putfield 121, 3)) ∧ (decode cX11_init 308 = .ok (.aload_n 0, 1)) ∧ (decode cX11_init 309 = .ok (.sipush 200, 3)) ∧ (decode cX11_init 312 = .ok (.newarray .int, 2)) ∧ (decode cX11_init 314 = .ok (.putfield 124, 3)) ∧ (decode cX11_init 317 = .ok (.aload_n 0, 1)) ∧ (decode cX11_init 318 = .ok (.sipush 144, 3)) ∧ (decode cX11_init 321 = .ok (.newarray .int, 2)) ∧ (decode cX11_init 323 = .ok (.putfield 127, 3)) ∧ (decode cX11_init 326 = .ok (.aload_n 0, 1)) ∧ (decode cX11_init 327 = .ok (.sipush 144, 3)) ∧ (decode cX11_init 330 = .ok (.newarray .boolean, 2)) := by decide +kernel
theorem dX11_init_296 : decode cX11_init 296 = .ok (.putfield 118, 3) := dgX11_init_144.1
theorem dX11_init_299 : decode cX11_init 299 = .ok (.aload_n 0, 1) := dgX11_init_144.2.1
theorem dX11_init_300 : decode cX11_init 300 = .ok (.sipush 144, 3) := dgX11_init_144.2.2.1
theorem dX11_init_303 : decode cX11_init 303 = .ok (.newarray .int, 2) := dgX11_init_144.2.2.2.1
theorem dX11_init_305 : decode cX11_init 305 = .ok (.putfield 121, 3) := dgX11_init_144.2.2.2.2.1
theorem dX11_init_308 : decode cX11_init 308 = .ok (.aload_n 0, 1) := dgX11_init_144.2.2.2.2.2.1
theorem dX11_init_309 : decode cX11_init 309 = .ok (.sipush 200, 3) := dgX11_init_144.2.2.2.2.2.2.1
theorem dX11_init_312 : decode cX11_init 312 = .ok (.newarray .int, 2) := dgX11_init_144.2.2.2.2.2.2.2.1
theorem dX11_init_314 : decode cX11_init 314 = .ok (.putfield 124, 3) := dgX11_init_144.2.2.2.2.2.2.2.2.1
theorem dX11_init_317 : decode cX11_init 317 = .ok (.aload_n 0, 1) := dgX11_init_144.2.2.2.2.2.2.2.2.2.1
theorem dX11_init_318 : decode cX11_init 318 = .ok (.sipush 144, 3) := dgX11_init_144.2.2.2.2.2.2.2.2.2.2.1
theorem dX11_init_321 : decode cX11_init 321 = .ok (.newarray .int, 2) := dgX11_init_144.2.2.2.2.2.2.2.2.2.2.2.1
theorem dX11_init_323 : decode cX11_init 323 = .ok (.putfield 127, 3) := dgX11_init_144.2.2.2.2.2.2.2.2.2.2.2.2.1
theorem dX11_init_326 : decode cX11_init 326 = .ok (.aload_n 0, 1) := dgX11_init_144.2.2.2.2.2.2.2.2.2.2.2.2.2.1
theorem dX11_init_327 : decode cX11_init 327 = .ok (.sipush 144, 3) := dgX11_init_144.2.2.2.2.2.2.2.2.2.2.2.2.2.2.1
theorem dX11_init_330 : decode cX11_init 330 = .ok (.newarray .boolean, 2) := dgX11_init_144.2.2.2.2.2.2.2.2.2.2.2.2.2.2.2
theorem dgX11_init_160 : (decode cX11_init 332 = .ok (.putfield 130, 3)) ∧ (decode cX11_init 335 = .ok (.aload_n 0, 1)) ∧ (decode cX11_init 336 = .ok (.sipush 144, 3)) ∧ (decode cX11_init 339 = .ok (.newarray .boolean, 2)) ∧ (decode cX11_init 341 = .ok (.putfield 133, 3)) ∧ (decode cX11_init 344 = .ok (.aload_n 0, 1)) ∧ (decode cX11_init 345 = .ok (.ldc 136, 2)) ∧ (decode cX11_init 347 = .ok (.newarray .boolean, 2)) ∧ (decode cX11_init 349 = .ok (.putfield 137, 3)) ∧ (decode cX11_init 352 = .ok (.aload_n 0, 1)) ∧ (decode cX11_init 353 = .ok (.bipush 40, 2)) ∧ (decode cX11_init 355 = .ok (.newarray .int, 2)) ∧ (decode cX11_init 357 = .ok (.putfield 140, 3)) ∧ (decode cX11_init 360 = .ok (.aload_n 0, 1)) ∧ (decode cX11_init 361 = .ok (.sipush 16384, 3)) ∧ (decode cX11_init 364 = .ok (.newarray .int, 2)) := by decide +kernel
theorem dX11_init_332 : decode cX11_init 332 = .ok (.putfield 130, 3) := dgX11_init_160.1
theorem dX11_init_335 : decode cX11_init 335 = .ok (.aload_n 0, 1) := dgX11_init_160.2.1
theorem dX11_init_336 : decode cX11_init 336 = .ok (.sipush 144, 3) := dgX11_init_160.2.2.1
theorem dX11_init_339 : decode cX11_init 339 = .ok (.newarray .boolean, 2) := dgX11_init_160.2.2.2.1
theorem dX11_init_341 : decode cX11_init 341 = .ok (.putfield 133, 3) := dgX11_init_160.2.2.2.2.1
theorem dX11_init_344 : decode cX11_init 344 = .ok (.aload_n 0, 1) := dgX11_init_160.2.2.2.2.2.1
theorem dX11_init_345 : decode cX11_init 345 = .ok (.ldc 136, 2) := dgX11_init_160.2.2.2.2.2.2.1
theorem dX11_init_347 : decode cX11_init 347 = .ok (.newarray .boolean, 2) := dgX11_init_160.2.2.2.2.2.2.2.1
theorem dX11_init_349 : decode cX11_init 349 = .ok (.putfield 137, 3) := dgX11_init_160.2.2.2.2.2.2.2.2.1
theorem dX11_init_352 : decode cX11_init 352 = .ok (.aload_n 0, 1) := dgX11_init_160.2.2.2.2.2.2.2.2.2.1
theorem dX11_init_353 : decode cX11_init 353 = .ok (.bipush 40, 2) := dgX11_init_160.2.2.2.2.2.2.2.2.2.2.1
theorem dX11_init_355 : decode cX11_init 355 = .ok (.newarray .int, 2) := dgX11_init_160.2.2.2.2.2.2.2.2.2.2.2.1
theorem dX11_init_357 : decode cX11_init 357 = .ok (.putfield 140, 3) := dgX11_init_160.2.2.2.2.2.2.2.2.2.2.2.2.1
theorem dX11_init_360 : decode cX11_init 360 = .ok (.aload_n 0, 1) := dgX11_init_160.2.2.2.2.2.2.2.2.2.2.2.2.2.1
theorem dX11_init_361 : decode cX11_init 361 = .ok (.sipush 16384, 3) := dgX11_init_160.2.2.2.2.2.2.2.2.2.2.2.2.2.2.1
theorem dX11_init_364 : decode cX11_init 364 = .ok (.newarray .int, 2) := dgX11_init_160.2.2.2.2.2.2.2.2.2.2.2.2.2.2.2
theorem dgX11_init_176 : (decode cX11_init 366 = .ok (.putfield 143, 3)) ∧ (decode cX11_init 369 = .ok (.aload_n 0, 1)) ∧ (decode cX11_init 370 = .ok (.sipush 16384, 3)) ∧ (decode cX11_init 373 = .ok (.newarray .byte, 2)) ∧ (decode cX11_init 375 = .ok (.putfield 146, 3)) ∧ (decode cX11_init 378 = .ok (.aload_n 0, 1)) ∧ (decode cX11_init 379 = .ok (.sipush 10240, 3)) ∧ (decode cX11_init 382 = .ok (.newarray .int, 2)) ∧ (decode cX11_init 384 = .ok (.putfield 150, 3)) ∧ (decode cX11_init 387 = .ok (.iconst 0, 1)) ∧ (decode cX11_init 388 = .ok (.istore_n 1, 1)) ∧ (decode cX11_init 389 = .ok (.iload_n 1, 1)) ∧ (decode cX11_init 390 = .ok (.bipush 6, 2)) ∧ (decode cX11_init 392 = .ok (.if_icmp .ge 18, 3)) ∧ (decode cX11_init 395 = .ok (.aload_n 0, 1)) ∧ (decode cX11_init 396 = .ok (.getfield 88, 3)) := by decide +kernel
theorem dX11_init_366 : decode cX11_init 366 = .ok (.putfield 143, 3) := dgX11_init_176.1
theorem dX11_init_369 : decode cX11_init 369 = .ok (.aload_n 0, 1) := dgX11_init_176.2.1
theorem dX11_init_370 : decode cX11_init 370 = .ok (.sipush 16384, 3) := dgX11_init_176.2.2.1
theorem dX11_init_373 : decode cX11_init 373 = .ok (.newarray .byte, 2) := dgX11_init_176.2.2.2.1
theorem dX11_init_375 : decode cX11_init 375 = .ok (.putfield 146, 3) := dgX11_init_176.2.2.2.2.1
theorem dX11_init_378 : decode cX11_init 378 = .ok (.aload_n 0, 1) := dgX11_init_176.2.2.2.2.2.1
theorem dX11_init_379 : decode cX11_init 379 = .ok (.sipush 10240, 3) := dgX11_init_176.2.2.2.2.2.2.1
theorem dX11_init_382 : decode cX11_init 382 = .ok (.newarray .int, 2) := dgX11_init_176.2.2.2.2.2.2.2.1
theorem dX11_init_384 : decode cX11_init 384 = .ok (.putfield 150, 3) := dgX11_init_176.2.2.2.2.2.2.2.2.1
theorem dX11_init_387 : decode cX11_init 387 = .ok (.iconst 0, 1) := dgX11_init_176.2.2.2.2.2.2.2.2.2.1
theorem dX11_init_388 : decode cX11_init 388 = .ok (.istore_n 1, 1) := dgX11_init_176.2.2.2.2.2.2.2.2.2.2.1
theorem dX11_init_389 : decode cX11_init 389 = .ok (.iload_n 1, 1) := dgX11_init_176.2.2.2.2.2.2.2.2.2.2.2.1
theorem dX11_init_390 : decode cX11_init 390 = .ok (.bipush 6, 2) := dgX11_init_176.2.2.2.2.2.2.2.2.2.2.2.2.1
theorem dX11_init_392 : decode cX11_init 392 = .ok (.if_icmp .ge 18, 3) := dgX11_init_176.2.2.2.2.2.2.2.2.2.2.2.2.2.1
theorem dX11_init_395 : decode cX11_init 395 = .ok (.aload_n 0, 1) := dgX11_init_176.2.2.2.2.2.2.2.2.2.2.2.2.2.2.1
theorem dX11_init_396 : decode cX11_init 396 = .ok (.getfield 88, 3) := dgX11_init_176.2.2.2.2.2.2.2.2.2.2.2.2.2.2.2
theorem dgX11_init_192 : (decode cX11_init 399 = .ok (.iload_n 1, 1)) ∧ (decode cX11_init 400 = .ok (.sipush 900, 3)) ∧ (decode cX11_init 403 = .ok (.iastore, 1)) ∧ (decode cX11_init 404 = .ok (.iinc 1 1, 3)) ∧ (decode cX11_init 407 = .ok (.goto (-18), 3)) ∧ (decode cX11_init 410 = .ok (.iconst 0, 1)) ∧ (decode cX11_init 411 = .ok (.istore_n 1, 1)) ∧ (decode cX11_init 412 = .ok (.iload_n 1, 1)) ∧ (decode cX11_init 413 = .ok (.sipush 144, 3)) ∧ (decode cX11_init 416 = .ok (.if_icmp .ge 16, 3)) ∧ (decode cX11_init 419 = .ok (.aload_n 0, 1)) ∧ (decode cX11_init 420 = .ok (.getfield 121, 3)) ∧ (decode cX11_init 423 = .ok (.iload_n 1, 1)) ∧ (decode cX11_init 424 = .ok (.iconst (-1), 1)) ∧ (decode cX11_init 425 = .ok (.iastore, 1)) ∧ (decode cX11_init 426 = .ok (.iinc 1 1, 3)) := by decide +kernel
theorem dX11_init_399 : decode cX11_init 399 = .ok (.iload_n 1, 1) := dgX11_init_192.1
theorem dX11_init_400 : decode cX11_init 400 = .ok (.sipush 900, 3) := dgX11_init_192.2.1
theorem dX11_init_403 : decode cX11_init 403 = .ok (.iastore, 1) := dgX11_init_192.2.2.1
theorem dX11_init_404 : decode cX11_init 404 = .ok (.iinc 1 1, 3) := dgX11_init_192.2.2.2.1
theorem dX11_init_407 : decode cX11_init 407 = .ok (.goto (-18), 3) := dgX11_init_192.2.2.2.2.1
theorem dX11_init_410 : decode cX11_init 410 = .ok (.iconst 0, 1) := dgX11_init_192.2.2.2.2.2.1
theorem dX11_init_411 : decode cX11_init 411 = .ok (.istore_n 1, 1) := dgX11_init_192.2.2.2.2.2.2.1
theorem dX11_init_412 : decode cX11_init 412 = .ok (.iload_n 1, 1) := dgX11_init_192.2.2.2.2.2.2.2.1
theorem dX11_init_413 : decode cX11_init 413 = .ok (.sipush 144, 3) := dgX11_init_192.2.2.2.2.2.2.2.2.1
theorem dX11_init_416 : decode cX11_init 416 = .ok (.if_icmp .ge 16, 3) := dgX11_init_192.2.2.2.2.2.2.2.2.2.1
theorem dX11_init_419 : decode cX11_init 419 = .ok (.aload_n 0, 1) := dgX11_init_192.2.2.2.2.2.2.2.2.2.2.1
theorem dX11_init_420 : decode cX11_init 420 = .ok (.getfield 121, 3) := dgX11_init_192.2.2.2.2.2.2.2.2.2.2.2.1
theorem dX11_init_423 : decode cX11_init 423 = .ok (.iload_n 1, 1) := dgX11_init_192.2.2.2.2.2.2.2.2.2.2.2.2.1
theorem dX11_init_424 : decode cX11_init 424 = .ok (.iconst (-1), 1) := dgX11_init_192.2.2.2.2.2.2.2.2.2.2.2.2.2.1
theorem dX11_init_425 : decode cX11_init 425 = .ok (.iastore, 1) := dgX11_init_192.2.2.2.2.2.2.2.2.2.2.2.2.2.2.1
theorem dX11_init_426 : decode cX11_init 426 = .ok (.iinc 1 1, 3) := dgX11_init_192.2.2.2.2.2.2.2.2.2.2.2.2.2.2.2
theorem dgX11_init_208 : (decode cX11_init 429 = .ok (.goto (-17), 3)) ∧ (decode cX11_init 432 = .ok (.aload_n 0, 1)) ∧ (decode cX11_init 433 = .ok (.getfield 91, 3)) ∧ (decode cX11_init 436 = .ok (.iconst 0, 1)) ∧ (decode cX11_init 437 = .ok (.sipush 450, 3)) ∧ (decode cX11_init 440 = .ok (.iastore, 1)) ∧ (decode cX11_init 441 = .ok (.aload_n 0, 1)) ∧ (decode cX11_init 442 = .ok (.getfield 91, 3)) ∧ (decode cX11_init 445 = .ok (.iconst 1, 1)) ∧ (decode cX11_init 446 = .ok (.sipush 270, 3)) ∧ (decode cX11_init 449 = .ok (.iastore, 1)) ∧ (decode cX11_init 450 = .ok (.aload_n 0, 1)) ∧ (decode cX11_init 451 = .ok (.getfield 91, 3)) ∧ (decode cX11_init 454 = .ok (.iconst 2, 1)) ∧ (decode cX11_init 455 = .ok (.sipush 310, 3)) ∧ (decode cX11_init 458 = .ok (.iastore, 1)) := by decide +kernel
theorem dX11_init_429 : decode cX11_init 429 = .ok (.goto (-17), 3) := dgX11_init_208.1
theorem dX11_init_432 : decode cX11_init 432 = .ok (.aload_n 0, 1) := dgX11_init_208.2.1
theorem dX11_init_433 : decode cX11_init 433 = .ok (.getfield 91, 3) := dgX11_init_208.2.2.1
theorem dX11_init_436 : decode cX11_init 436 = .ok (.iconst 0, 1) := dgX11_init_208.2.2.2.1
theorem dX11_init_437 : decode cX11_init 437 = .ok (.sipush 450, 3) := dgX11_init_208.2.2.2.2.1
theorem dX11_init_440 : decode cX11_init 440 = .ok (.iastore, 1) := dgX11_init_208.2.2.2.2.2.1
theorem dX11_init_441 : decode cX11_init 441 = .ok (.aload_n 0, 1) := dgX11_init_208.2.2.2.2.2.2.1
theorem dX11_init_442 : decode cX11_init 442 = .ok (.getfield 91, 3) := dgX11_init_208.2.2.2.2.2.2.2.1
theorem dX11_init_445 : decode cX11_init 445 = .ok (.iconst 1, 1) := dgX11_init_208.2.2.2.2.2.2.2.2.1
theorem dX11_init_446 : decode cX11_init 446 = .ok (.sipush 270, 3) := dgX11_init_208.2.2.2.2.2.2.2.2.2.1
theorem dX11_init_449 : decode cX11_init 449 = .ok (.iastore, 1) := dgX11_init_208.2.2.2.2.2.2.2.2.2.2.1
theorem dX11_init_450 : decode cX11_init 450 = .ok (.aload_n 0, 1) := dgX11_init_208.2.2.2.2.2.2.2.2.2.2.2.1
theorem dX11_init_451 : decode cX11_init 451 = .ok (.getfield 91, 3) := dgX11_init_208.2.2.2.2.2.2.2.2.2.2.2.2.1
theorem dX11_init_454 : decode cX11_init 454 = .ok (.iconst 2, 1) := dgX11_init_208.2.2.2.2.2.2.2.2.2.2.2.2.2.1
theorem dX11_init_455 : decode cX11_init 455 = .ok (.sipush 310, 3) := dgX11_init_208.2.2.2.2.2.2.2.2.2.2.2.2.2.2.1
theorem dX11_init_458 : decode cX11_init 458 = .ok (.iastore, 1) := dgX11_init_208.2.2.2.2.2.2.2.2.2.2.2.2.2.2.2
theorem dgX11_init_224 : (decode cX11_init 459 = .ok (.aload_n 0, 1)) ∧ (decode cX11_init 460 = .ok (.getfield 91, 3)) ∧ (decode cX11_init 463 = .ok (.iconst 3, 1)) ∧ (decode cX11_init 464 = .ok (.sipush 320, 3)) ∧ (decode cX11_init 467 = .ok (.iastore, 1)) ∧ (decode cX11_init 468 = .ok (.aload_n 0, 1)) ∧ (decode cX11_init 469 = .ok (.getfield 91, 3)) ∧ (decode cX11_init 472 = .ok (.iconst 4, 1)) ∧ (decode cX11_init 473 = .ok (.sipush 290, 3)) ∧ (decode cX11_init 476 = .ok (.iastore, 1)) ∧ (decode cX11_init 477 = .ok (.aload_n 0, 1)) ∧ (decode cX11_init 478 = .ok (.getfield 91, 3)) ∧ (decode cX11_init 481 = .ok (.iconst 5, 1)) ∧ (decode cX11_init 482 = .ok (.iconst 2, 1)) ∧ (decode cX11_init 483 = .ok (.iastore, 1)) ∧ (decode cX11_init 484 = .ok (.return_, 1)) := by decide +kernel
theorem dX11_init_459 : decode cX11_init 459 = .ok (.aload_n 0, 1) := dgX11_init_224.1
theorem dX11_init_460 : decode cX11_init 460 = .ok (.getfield 91, 3) := dgX11_init_224.2.1
theorem dX11_init_463 : decode cX11_init 463 = .ok (.iconst 3, 1) := dgX11_init_224.2.2.1
theorem dX11_init_464 : decode cX11_init 464 = .ok (.sipush 320, 3) := dgX11_init_224.2.2.2.1
theorem dX11_init_467 : decode cX11_init 467 = .ok (.iastore, 1) := dgX11_init_224.2.2.2.2.1
theorem dX11_init_468 : decode cX11_init 468 = .ok (.aload_n 0, 1) := dgX11_init_224.2.2.2.2.2.1
theorem dX11_init_469 : decode cX11_init 469 = .ok (.getfield 91, 3) := dgX11_init_224.2.2.2.2.2.2.1
theorem dX11_init_472 : decode cX11_init 472 = .ok (.iconst 4, 1) := dgX11_init_224.2.2.2.2.2.2.2.1
theorem dX11_init_473 : decode cX11_init 473 = .ok (.sipush 290, 3) := dgX11_init_224.2.2.2.2.2.2.2.2.1
theorem dX11_init_476 : decode cX11_init 476 = .ok (.iastore, 1) := dgX11_init_224.2.2.2.2.2.2.2.2.2.1
theorem dX11_init_477 : decode cX11_init 477 = .ok (.aload_n 0, 1) := dgX11_init_224.2.2.2.2.2.2.2.2.2.2.1
theorem dX11_init_478 : decode cX11_init 478 = .ok (.getfield 91, 3) := dgX11_init_224.2.2.2.2.2.2.2.2.2.2.2.1
theorem dX11_init_481 : decode cX11_init 481 = .ok (.iconst 5, 1) := dgX11_init_224.2.2.2.2.2.2.2.2.2.2.2.2.1
theorem dX11_init_482 : decode cX11_init 482 = .ok (.iconst 2, 1) := dgX11_init_224.2.2.2.2.2.2.2.2.2.2.2.2.2.1
theorem dX11_init_483 : decode cX11_init 483 = .ok (.iastore, 1) := dgX11_init_224.2.2.2.2.2.2.2.2.2.2.2.2.2.2.1
theorem dX11_init_484 : decode cX11_init 484 = .ok (.return_, 1) := dgX11_init_224.2.2.2.2.2.2.2.2.2.2.2.2.2.2.2
theorem dgX11_isIn_0 : (decode cX11_isIn 0 = .ok (.iload_n 0, 1)) ∧ (decode cX11_isIn 1 = .ok (.iload_n 1, 1)) ∧ (decode cX11_isIn 2 = .ok (.if_icmp .lt 12, 3)) ∧ (decode cX11_isIn 5 = .ok (.iload_n 0, 1)) ∧ (decode cX11_isIn 6 = .ok (.iload_n 2, 1)) ∧ (decode cX11_isIn 7 = .ok (.if_icmp .gt 7, 3)) ∧ (decode cX11_isIn 10 = .ok (.iconst 1, 1)) ∧ (decode cX11_isIn 11 = .ok (.goto 4, 3)) ∧ (decode cX11_isIn 14 = .ok (.iconst 0, 1)) ∧ (decode cX11_isIn 15 = .ok (.ireturn, 1)) := by decide +kernel
theorem dX11_isIn_0 : decode cX11_isIn 0 = .ok (.iload_n 0, 1) := dgX11_isIn_0.1
theorem dX11_isIn_1 : decode cX11_isIn 1 = .ok (.iload_n 1, 1) := dgX11_isIn_0.2.1
theorem dX11_isIn_2 : decode cX11_isIn 2 = .ok (.if_icmp .lt 12, 3) := dgX11_isIn_0.2.2.1
theorem dX11_isIn_5 : decode cX11_isIn 5 = .ok (.iload_n 0, 1) := dgX11_isIn_0.2.2.2.1
theorem dX11_isIn_6 : decode cX11_isIn 6 = .ok (.iload_n 2, 1) := dgX11_isIn_0.2.2.2.2.1
theorem dX11_isIn_7 : decode cX11_isIn 7 = .ok (.if_icmp .gt 7, 3) := dgX11_isIn_0.2.2.2.2.2.1
theorem dX11_isIn_10 : decode cX11_isIn 10 = .ok (.iconst 1, 1) := dgX11_isIn_0.2.2.2.2.2.2.1
theorem dX11_isIn_11 : decode cX11_isIn 11 = .ok (.goto 4, 3) := dgX11_isIn_0.2.2.2.2.2.2.2.1
theorem dX11_isIn_14 : decode cX11_isIn 14 = .ok (.iconst 0, 1) := dgX11_isIn_0.2.2.2.2.2.2.2.2.1
theorem dX11_isIn_15 : decode cX11_isIn 15 = .ok (.ireturn, 1) := dgX11_isIn_0.2.2.2.2.2.2.2.2.2
theorem dgX11_isBatch_0 : (decode cX11_isBatch 0 = .ok (.iload_n 1, 1)) ∧ (decode cX11_isBatch 1 = .ok (.iconst 0, 1)) ∧ (decode cX11_isBatch 2 = .ok (.aload_n 0, 1)) ∧ (decode cX11_isBatch 3 = .ok (.getfield 153, 3)) ∧ (decode cX11_isBatch 6 = .ok (.iconst 1, 1)) ∧ (decode cX11_isBatch 7 = .ok (.isub, 1)) ∧ (decode cX11_isBatch 8 = .ok (.invokestatic 156, 3)) ∧ (decode cX11_isBatch 11 = .ok (.ireturn, 1)) := by decide +kernel
theorem dX11_isBatch_0 : decode cX11_isBatch 0 = .ok (.iload_n 1, 1) := dgX11_isBatch_0.1
theorem dX11_isBatch_1 : decode cX11_isBatch 1 = .ok (.iconst 0, 1) := dgX11_isBatch_0.2.1
theorem dX11_isBatch_2 : decode cX11_isBatch 2 = .ok (.aload_n 0, 1) := dgX11_isBatch_0.2.2.1
theorem dX11_isBatch_3 : decode cX11_isBatch 3 = .ok (.getfield 153, 3) := dgX11_isBatch_0.2.2.2.1
theorem dX11_isBatch_6 : decode cX11_isBatch 6 = .ok (.iconst 1, 1) := dgX11_isBatch_0.2.2.2.2.1
theorem dX11_isBatch_7 : decode cX11_isBatch 7 = .ok (.isub, 1) := dgX11_isBatch_0.2.2.2.2.2.1
theorem dX11_isBatch_8 : decode cX11_isBatch 8 = .ok (.invokestatic 156, 3) := dgX11_isBatch_0.2.2.2.2.2.2.1
theorem dX11_isBatch_11 : decode cX11_isBatch 11 = .ok (.ireturn, 1) := dgX11_isBatch_0.2.2.2.2.2.2.2
theorem dgX11_lot_0 : (decode cX11_lot 0 = .ok (.iload_n 1, 1)) ∧ (decode cX11_lot 1 = .ok (.iconst 0, 1)) ∧ (decode cX11_lot 2 = .ok (.ldc 160, 2)) ∧ (decode cX11_lot 4 = .ok (.invokestatic 156, 3)) ∧ (decode cX11_lot 7 = .ok (.ifCond .eq 23, 3)) ∧ (decode cX11_lot 10 = .ok (.iload_n 2, 1)) ∧ (decode cX11_lot 11 = .ok (.iconst 0, 1)) ∧ (decode cX11_lot 12 = .ok (.sipush 255, 3)) ∧ (decode cX11_lot 15 = .ok (.invokestatic 156, 3)) ∧ (decode cX11_lot 18 = .ok (.ifCond .eq 12, 3)) ∧ (decode cX11_lot 21 = .ok (.aload_n 0, 1)) ∧ (decode cX11_lot 22 = .ok (.getfield 161, 3)) ∧ (decode cX11_lot 25 = .ok (.bipush 40, 2)) ∧ (decode cX11_lot 27 = .ok (.if_icmp .ne 5, 3)) ∧ (decode cX11_lot 30 = .ok (.iconst (-1), 1)) ∧ (decode cX11_lot 31 = .ok (.ireturn, 1)) := by decide +kernel
theorem dX11_lot_0 : decode cX11_lot 0 = .ok (.iload_n 1, 1) := dgX11_lot_0.1
theorem dX11_lot_1 : decode cX11_lot 1 = .ok (.iconst 0, 1) := dgX11_lot_0.2.1
theorem dX11_lot_2 : decode cX11_lot 2 = .ok (.ldc 160, 2) := dgX11_lot_0.2.2.1
theorem dX11_lot_4 : decode cX11_lot 4 = .ok (.invokestatic 156, 3) := dgX11_lot_0.2.2.2.1
theorem dX11_lot_7 : decode cX11_lot 7 = .ok (.ifCond .eq 23, 3) := dgX11_lot_0.2.2.2.2.1
theorem dX11_lot_10 : decode cX11_lot 10 = .ok (.iload_n 2, 1) := dgX11_lot_0.2.2.2.2.2.1
theorem dX11_lot_11 : decode cX11_lot 11 = .ok (.iconst 0, 1) := dgX11_lot_0.2.2.2.2.2.2.1
theorem dX11_lot_12 : decode cX11_lot 12 = .ok (.sipush 255, 3) := dgX11_lot_0.2.2.2.2.2.2.2.1
theorem dX11_lot_15 : decode cX11_lot 15 = .ok (.invokestatic 156, 3) := dgX11_lot_0.2.2.2.2.2.2.2.2.1
theorem dX11_lot_18 : decode cX11_lot 18 = .ok (.ifCond .eq 12, 3) := dgX11_lot_0.2.2.2.2.2.2.2.2.2.1
theorem dX11_lot_21 : decode cX11_lot 21 = .ok (.aload_n 0, 1) := dgX11_lot_0.2.2.2.2.2.2.2.2.2.2.1
theorem dX11_lot_22 : decode cX11_lot 22 = .ok (.getfield 161, 3) := dgX11_lot_0.2.2.2.2.2.2.2.2.2.2.2.1
theorem dX11_lot_25 : decode cX11_lot 25 = .ok (.bipush 40, 2) := dgX11_lot_0.2.2.2.2.2.2.2.2.2.2.2.2.1
theorem dX11_lot_27 : decode cX11_lot 27 = .ok (.if_icmp .ne 5, 3) := dgX11_lot_0.2.2.2.2.2.2.2.2.2.2.2.2.2.1
theorem dX11_lot_30 : decode cX11_lot 30 = .ok (.iconst (-1), 1) := dgX11_lot_0.2.2.2.2.2.2.2.2.2.2.2.2.2.2.1
theorem dX11_lot_31 : decode cX11_lot 31 = .ok (.ireturn, 1) := dgX11_lot_0.2.2.2.2.2.2.2.2.2.2.2.2.2.2.2
theorem dgX11_lot_16 : (decode cX11_lot 32 = .ok (.aload_n 0, 1)) ∧ (decode cX11_lot 33 = .ok (.getfield 7, 3)) ∧ (decode cX11_lot 36 = .ok (.aload_n 0, 1)) ∧ (decode cX11_lot 37 = .ok (.getfield 161, 3)) ∧ (decode cX11_lot 40 = .ok (.iload_n 1, 1)) ∧ (decode cX11_lot 41 = .ok (.iastore, 1)) ∧ (decode cX11_lot 42 = .ok (.aload_n 0, 1)) ∧ (decode cX11_lot 43 = .ok (.getfield 13, 3)) ∧ (decode cX11_lot 46 = .ok (.aload_n 0, 1)) ∧ (decode cX11_lot 47 = .ok (.getfield 161, 3)) ∧ (decode cX11_lot 50 = .ok (.iload_n 2, 1)) ∧ (decode cX11_lot 51 = .ok (.iastore, 1)) ∧ (decode cX11_lot 52 = .ok (.aload_n 0, 1)) ∧ (decode cX11_lot 53 = .ok (.dup, 1)) ∧ (decode cX11_lot 54 = .ok (.getfield 161, 3)) ∧ (decode cX11_lot 57 = .ok (.iconst 1, 1)) := by decide +kernel
theorem dX11_lot_32 : decode cX11_lot 32 = .ok (.aload_n 0, 1) := dgX11_lot_16.1
theorem dX11_lot_33 : decode cX11_lot 33 = .ok (.getfield 7, 3) := dgX11_lot_16.2.1
theorem dX11_lot_36 : decode cX11_lot 36 = .ok (.aload_n 0, 1) := dgX11_lot_16.2.2.1
theorem dX11_lot_37 : decode cX11_lot 37 = .ok (.getfield 161, 3) := dgX11_lot_16.2.2.2.1
theorem dX11_lot_40 : decode cX11_lot 40 = .ok (.iload_n 1, 1) := dgX11_lot_16.2.2.2.2.1
theorem dX11_lot_41 : decode cX11_lot 41 = .ok (.iastore, 1) := dgX11_lot_16.2.2.2.2.2.1
theorem dX11_lot_42 : decode cX11_lot 42 = .ok (.aload_n 0, 1) := dgX11_lot_16.2.2.2.2.2.2.1
theorem dX11_lot_43 : decode cX11_lot 43 = .ok (.getfield 13, 3) := dgX11_lot_16.2.2.2.2.2.2.2.1
theorem dX11_lot_46 : decode cX11_lot 46 = .ok (.aload_n 0, 1) := dgX11_lot_16.2.2.2.2.2.2.2.2.1
theorem dX11_lot_47 : decode cX11_lot 47 = .ok (.getfield 161, 3) := dgX11_lot_16.2.2.2.2.2.2.2.2.2.1
theorem dX11_lot_50 : decode cX11_lot 50 = .ok (.iload_n 2, 1) := dgX11_lot_16.2.2.2.2.2.2.2.2.2.2.1
theorem dX11_lot_51 : decode cX11_lot 51 = .ok (.iastore, 1) := dgX11_lot_16.2.2.2.2.2.2.2.2.2.2.2.1
theorem dX11_lot_52 : decode cX11_lot 52 = .ok (.aload_n 0, 1) := dgX11_lot_16.2.2.2.2.2.2.2.2.2.2.2.2.1
theorem dX11_lot_53 : decode cX11_lot 53 = .ok (.dup, 1) := dgX11_lot_16.2.2.2.2.2.2.2.2.2.2.2.2.2.1
theorem dX11_lot_54 : decode cX11_lot 54 = .ok (.getfield 161, 3) := dgX11_lot_16.2.2.2.2.2.2.2.2.2.2.2.2.2.2.1
theorem dX11_lot_57 : decode cX11_lot 57 = .ok (.iconst 1, 1) := dgX11_lot_16.2.2.2.2.2.2.2.2.2.2.2.2.2.2.2
theorem dgX11_lot_32 : (decode cX11_lot 58 = .ok (.iadd, 1)) ∧ (decode cX11_lot 59 = .ok (.putfield 161, 3)) ∧ (decode cX11_lot 62 = .ok (.aload_n 0, 1)) ∧ (decode cX11_lot 63 = .ok (.getfield 161, 3)) ∧ (decode cX11_lot 66 = .ok (.iconst 1, 1)) ∧ (decode cX11_lot 67 = .ok (.isub, 1)) ∧ (decode cX11_lot 68 = .ok (.ireturn, 1)) := by decide +kernel
theorem dX11_lot_58 : decode cX11_lot 58 = .ok (.iadd, 1) := dgX11_lot_32.1
theorem dX11_lot_59 : decode cX11_lot 59 = .ok (.putfield 161, 3) := dgX11_lot_32.2.1
theorem dX11_lot_62 : decode cX11_lot 62 = .ok (.aload_n 0, 1) := dgX11_lot_32.2.2.1
theorem dX11_lot_63 : decode cX11_lot 63 = .ok (.getfield 161, 3) := dgX11_lot_32.2.2.2.1
theorem dX11_lot_66 : decode cX11_lot 66 = .ok (.iconst 1, 1) := dgX11_lot_32.2.2.2.2.1
theorem dX11_lot_67 : decode cX11_lot 67 = .ok (.isub, 1) := dgX11_lot_32.2.2.2.2.2.1
theorem dX11_lot_68 : decode cX11_lot 68 = .ok (.ireturn, 1) := dgX11_lot_32.2.2.2.2.2.2
theorem dgX11_batch_0 : (decode cX11_batch 0 = .ok (.iload_n 1, 1)) ∧ (decode cX11_batch 1 = .ok (.iconst 0, 1)) ∧ (decode cX11_batch 2 = .ok (.iconst 5, 1)) ∧ (decode cX11_batch 3 = .ok (.invokestatic 156, 3)) ∧ (decode cX11_batch 6 = .ok (.ifCond .eq 12, 3)) ∧ (decode cX11_batch 9 = .ok (.aload_n 0, 1)) ∧ (decode cX11_batch 10 = .ok (.getfield 153, 3)) ∧ (decode cX11_batch 13 = .ok (.bipush 40, 2)) ∧ (decode cX11_batch 15 = .ok (.if_icmp .ne 5, 3)) ∧ (decode cX11_batch 18 = .ok (.iconst (-1), 1)) ∧ (decode cX11_batch 19 = .ok (.ireturn, 1)) ∧ (decode cX11_batch 20 = .ok (.aload_n 0, 1)) ∧ (decode cX11_batch 21 = .ok (.getfield 16, 3)) ∧ (decode cX11_batch 24 = .ok (.aload_n 0, 1)) ∧ (decode cX11_batch 25 = .ok (.getfield 153, 3)) ∧ (decode cX11_batch 28 = .ok (.iload_n 1, 1)) := by decide +kernel
theorem dX11_batch_0 : decode cX11_batch 0 = .ok (.iload_n 1, 1) := dgX11_batch_0.1
theorem dX11_batch_1 : decode cX11_batch 1 = .ok (.iconst 0, 1) := dgX11_batch_0.2.1
theorem dX11_batch_2 : decode cX11_batch 2 = .ok (.iconst 5, 1) := dgX11_batch_0.2.2.1
theorem dX11_batch_3 : decode cX11_batch 3 = .ok (.invokestatic 156, 3) := dgX11_batch_0.2.2.2.1
theorem dX11_batch_6 : decode cX11_batch 6 = .ok (.ifCond .eq 12, 3) := dgX11_batch_0.2.2.2.2.1
theorem dX11_batch_9 : decode cX11_batch 9 = .ok (.aload_n 0, 1) := dgX11_batch_0.2.2.2.2.2.1
theorem dX11_batch_10 : decode cX11_batch 10 = .ok (.getfield 153, 3) := dgX11_batch_0.2.2.2.2.2.2.1
theorem dX11_batch_13 : decode cX11_batch 13 = .ok (.bipush 40, 2) := dgX11_batch_0.2.2.2.2.2.2.2.1
theorem dX11_batch_15 : decode cX11_batch 15 = .ok (.if_icmp .ne 5, 3) := dgX11_batch_0.2.2.2.2.2.2.2.2.1
theorem dX11_batch_18 : decode cX11_batch 18 = .ok (.iconst (-1), 1) := dgX11_batch_0.2.2.2.2.2.2.2.2.2.1
theorem dX11_batch_19 : decode cX11_batch 19 = .ok (.ireturn, 1) := dgX11_batch_0.2.2.2.2.2.2.2.2.2.2.1
theorem dX11_batch_20 : decode cX11_batch 20 = .ok (.aload_n 0, 1) := dgX11_batch_0.2.2.2.2.2.2.2.2.2.2.2.1
theorem dX11_batch_21 : decode cX11_batch 21 = .ok (.getfield 16, 3) := dgX11_batch_0.2.2.2.2.2.2.2.2.2.2.2.2.1
theorem dX11_batch_24 : decode cX11_batch 24 = .ok (.aload_n 0, 1) := dgX11_batch_0.2.2.2.2.2.2.2.2.2.2.2.2.2.1
theorem dX11_batch_25 : decode cX11_batch 25 = .ok (.getfield 153, 3) := dgX11_batch_0.2.2.2.2.2.2.2.2.2.2.2.2.2.2.1
theorem dX11_batch_28 : decode cX11_batch 28 = .ok (.iload_n 1, 1) := dgX11_batch_0.2.2.2.2.2.2.2.2.2.2.2.2.2.2.2
theorem dgX11_batch_16 : (decode cX11_batch 29 = .ok (.iastore, 1)) ∧ (decode cX11_batch 30 = .ok (.aload_n 0, 1)) ∧ (decode cX11_batch 31 = .ok (.getfield 62, 3)) ∧ (decode cX11_batch 34 = .ok (.aload_n 0, 1)) ∧ (decode cX11_batch 35 = .ok (.getfield 153, 3)) ∧ (decode cX11_batch 38 = .ok (.iconst (-1), 1)) ∧ (decode cX11_batch 39 = .ok (.iastore, 1)) ∧ (decode cX11_batch 40 = .ok (.aload_n 0, 1)) ∧ (decode cX11_batch 41 = .ok (.getfield 65, 3)) ∧ (decode cX11_batch 44 = .ok (.aload_n 0, 1)) ∧ (decode cX11_batch 45 = .ok (.getfield 153, 3)) ∧ (decode cX11_batch 48 = .ok (.iconst (-1), 1)) ∧ (decode cX11_batch 49 = .ok (.iastore, 1)) ∧ (decode cX11_batch 50 = .ok (.aload_n 0, 1)) ∧ (decode cX11_batch 51 = .ok (.getfield 31, 3)) ∧ (decode cX11_batch 54 = .ok (.aload_n 0, 1)) := by decide +kernel
theorem dX11_batch_29 : decode cX11_batch 29 = .ok (.iastore, 1) := dgX11_batch_16.1
theorem dX11_batch_30 : decode cX11_batch 30 = .ok (.aload_n 0, 1) := dgX11_batch_16.2.1
theorem dX11_batch_31 : decode cX11_batch 31 = .ok (.getfield 62, 3) := dgX11_batch_16.2.2.1
theorem dX11_batch_34 : decode cX11_batch 34 = .ok (.aload_n 0, 1) := dgX11_batch_16.2.2.2.1
theorem dX11_batch_35 : decode cX11_batch 35 = .ok (.getfield 153, 3) := dgX11_batch_16.2.2.2.2.1
theorem dX11_batch_38 : decode cX11_batch 38 = .ok (.iconst (-1), 1) := dgX11_batch_16.2.2.2.2.2.1
theorem dX11_batch_39 : decode cX11_batch 39 = .ok (.iastore, 1) := dgX11_batch_16.2.2.2.2.2.2.1
theorem dX11_batch_40 : decode cX11_batch 40 = .ok (.aload_n 0, 1) := dgX11_batch_16.2.2.2.2.2.2.2.1
theorem dX11_batch_41 : decode cX11_batch 41 = .ok (.getfield 65, 3) := dgX11_batch_16.2.2.2.2.2.2.2.2.1
theorem dX11_batch_44 : decode cX11_batch 44 = .ok (.aload_n 0, 1) := dgX11_batch_16.2.2.2.2.2.2.2.2.2.1
theorem dX11_batch_45 : decode cX11_batch 45 = .ok (.getfield 153, 3) := dgX11_batch_16.2.2.2.2.2.2.2.2.2.2.1
theorem dX11_batch_48 : decode cX11_batch 48 = .ok (.iconst (-1), 1) := dgX11_batch_16.2.2.2.2.2.2.2.2.2.2.2.1
theorem dX11_batch_49 : decode cX11_batch 49 = .ok (.iastore, 1) := dgX11_batch_16.2.2.2.2.2.2.2.2.2.2.2.2.1
theorem dX11_batch_50 : decode cX11_batch 50 = .ok (.aload_n 0, 1) := dgX11_batch_16.2.2.2.2.2.2.2.2.2.2.2.2.2.1
theorem dX11_batch_51 : decode cX11_batch 51 = .ok (.getfield 31, 3) := dgX11_batch_16.2.2.2.2.2.2.2.2.2.2.2.2.2.2.1
theorem dX11_batch_54 : decode cX11_batch 54 = .ok (.aload_n 0, 1) := dgX11_batch_16.2.2.2.2.2.2.2.2.2.2.2.2.2.2.2
theorem dgX11_batch_32 : (decode cX11_batch 55 = .ok (.getfield 153, 3)) ∧ (decode cX11_batch 58 = .ok (.ldc 164, 2)) ∧ (decode cX11_batch 60 = .ok (.iastore, 1)) ∧ (decode cX11_batch 61 = .ok (.aload_n 0, 1)) ∧ (decode cX11_batch 62 = .ok (.getfield 34, 3)) ∧ (decode cX11_batch 65 = .ok (.aload_n 0, 1)) ∧ (decode cX11_batch 66 = .ok (.getfield 153, 3)) ∧ (decode cX11_batch 69 = .ok (.iconst (-1), 1)) ∧ (decode cX11_batch 70 = .ok (.iastore, 1)) ∧ (decode cX11_batch 71 = .ok (.aload_n 0, 1)) ∧ (decode cX11_batch 72 = .ok (.getfield 37, 3)) ∧ (decode cX11_batch 75 = .ok (.aload_n 0, 1)) ∧ (decode cX11_batch 76 = .ok (.getfield 153, 3)) ∧ (decode cX11_batch 79 = .ok (.iconst (-1), 1)) ∧ (decode cX11_batch 80 = .ok (.iastore, 1)) ∧ (decode cX11_batch 81 = .ok (.aload_n 0, 1)) := by decide +kernel
theorem dX11_batch_55 : decode cX11_batch 55 = .ok (.getfield 153, 3) := dgX11_batch_32.1
theorem dX11_batch_58 : decode cX11_batch 58 = .ok (.ldc 164, 2) := dgX11_batch_32.2.1
theorem dX11_batch_60 : decode cX11_batch 60 = .ok (.iastore, 1) := dgX11_batch_32.2.2.1
theorem dX11_batch_61 : decode cX11_batch 61 = .ok (.aload_n 0, 1) := dgX11_batch_32.2.2.2.1
theorem dX11_batch_62 : decode cX11_batch 62 = .ok (.getfield 34, 3) := dgX11_batch_32.2.2.2.2.1
theorem dX11_batch_65 : decode cX11_batch 65 = .ok (.aload_n 0, 1) := dgX11_batch_32.2.2.2.2.2.1
theorem dX11_batch_66 : decode cX11_batch 66 = .ok (.getfield 153, 3) := dgX11_batch_32.2.2.2.2.2.2.1
theorem dX11_batch_69 : decode cX11_batch 69 = .ok (.iconst (-1), 1) := dgX11_batch_32.2.2.2.2.2.2.2.1
theorem dX11_batch_70 : decode cX11_batch 70 = .ok (.iastore, 1) := dgX11_batch_32.2.2.2.2.2.2.2.2.1
theorem dX11_batch_71 : decode cX11_batch 71 = .ok (.aload_n 0, 1) := dgX11_batch_32.2.2.2.2.2.2.2.2.2.1
theorem dX11_batch_72 : decode cX11_batch 72 = .ok (.getfield 37, 3) := dgX11_batch_32.2.2.2.2.2.2.2.2.2.2.1
theorem dX11_batch_75 : decode cX11_batch 75 = .ok (.aload_n 0, 1) := dgX11_batch_32.2.2.2.2.2.2.2.2.2.2.2.1
theorem dX11_batch_76 : decode cX11_batch 76 = .ok (.getfield 153, 3) := dgX11_batch_32.2.2.2.2.2.2.2.2.2.2.2.2.1
theorem dX11_batch_79 : decode cX11_batch 79 = .ok (.iconst (-1), 1) := dgX11_batch_32.2.2.2.2.2.2.2.2.2.2.2.2.2.1
theorem dX11_batch_80 : decode cX11_batch 80 = .ok (.iastore, 1) := dgX11_batch_32.2.2.2.2.2.2.2.2.2.2.2.2.2.2.1
theorem dX11_batch_81 : decode cX11_batch 81 = .ok (.aload_n 0, 1) := dgX11_batch_32.2.2.2.2.2.2.2.2.2.2.2.2.2.2.2
theorem dgX11_batch_48 : (decode cX11_batch 82 = .ok (.dup, 1)) ∧ (decode cX11_batch 83 = .ok (.getfield 153, 3)) ∧ (decode cX11_batch 86 = .ok (.iconst 1, 1)) ∧ (decode cX11_batch 87 = .ok (.iadd, 1)) ∧ (decode cX11_batch 88 = .ok (.putfield 153, 3)) ∧ (decode cX11_batch 91 = .ok (.aload_n 0, 1)) ∧ (decode cX11_batch 92 = .ok (.getfield 153, 3)) ∧ (decode cX11_batch 95 = .ok (.iconst 1, 1)) ∧ (decode cX11_batch 96 = .ok (.isub, 1)) ∧ (decode cX11_batch 97 = .ok (.ireturn, 1)) := by decide +kernel
theorem dX11_batch_82 : decode cX11_batch 82 = .ok (.dup, 1) := dgX11_batch_48.1
theorem dX11_batch_83 : decode cX11_batch 83 = .ok (.getfield 153, 3) := dgX11_batch_48.2.1
theorem dX11_batch_86 : decode cX11_batch 86 = .ok (.iconst 1, 1) := dgX11_batch_48.2.2.1
theorem dX11_batch_87 : decode cX11_batch 87 = .ok (.iadd, 1) := dgX11_batch_48.2.2.2.1
theorem dX11_batch_88 : decode cX11_batch 88 = .ok (.putfield 153, 3) := dgX11_batch_48.2.2.2.2.1
theorem dX11_batch_91 : decode cX11_batch 91 = .ok (.aload_n 0, 1) := dgX11_batch_48.2.2.2.2.2.1
theorem dX11_batch_92 : decode cX11_batch 92 = .ok (.getfield 153, 3) := dgX11_batch_48.2.2.2.2.2.2.1
theorem dX11_batch_95 : decode cX11_batch 95 = .ok (.iconst 1, 1) := dgX11_batch_48.2.2.2.2.2.2.2.1
theorem dX11_batch_96 : decode cX11_batch 96 = .ok (.isub, 1) := dgX11_batch_48.2.2.2.2.2.2.2.2.1
theorem dX11_batch_97 : decode cX11_batch 97 = .ok (.ireturn, 1) := dgX11_batch_48.2.2.2.2.2.2.2.2.2
theorem dgX11_put_0 : (decode cX11_put 0 = .ok (.aload_n 0, 1)) ∧ (decode cX11_put 1 = .ok (.iload_n 1, 1)) ∧ (decode cX11_put 2 = .ok (.invokevirtual 165, 3)) ∧ (decode cX11_put 5 = .ok (.ifCond .eq 40, 3)) ∧ (decode cX11_put 8 = .ok (.aload_n 0, 1)) ∧ (decode cX11_put 9 = .ok (.getfield 40, 3)) ∧ (decode cX11_put 12 = .ok (.iload_n 1, 1)) ∧ (decode cX11_put 13 = .ok (.baload, 1)) ∧ (decode cX11_put 14 = .ok (.ifCond .ne 31, 3)) ∧ (decode cX11_put 17 = .ok (.iload_n 2, 1)) ∧ (decode cX11_put 18 = .ok (.iconst 0, 1)) ∧ (decode cX11_put 19 = .ok (.aload_n 0, 1)) ∧ (decode cX11_put 20 = .ok (.getfield 161, 3)) ∧ (decode cX11_put 23 = .ok (.iconst 1, 1)) ∧ (decode cX11_put 24 = .ok (.isub, 1)) ∧ (decode cX11_put 25 = .ok (.invokestatic 156, 3)) := by decide +kernel
theorem dX11_put_0 : decode cX11_put 0 = .ok (.aload_n 0, 1) := dgX11_put_0.1
theorem dX11_put_1 : decode cX11_put 1 = .ok (.iload_n 1, 1) := dgX11_put_0.2.1
theorem dX11_put_2 : decode cX11_put 2 = .ok (.invokevirtual 165, 3) := dgX11_put_0.2.2.1
theorem dX11_put_5 : decode cX11_put 5 = .ok (.ifCond .eq 40, 3) := dgX11_put_0.2.2.2.1
theorem dX11_put_8 : decode cX11_put 8 = .ok (.aload_n 0, 1) := dgX11_put_0.2.2.2.2.1
theorem dX11_put_9 : decode cX11_put 9 = .ok (.getfield 40, 3) := dgX11_put_0.2.2.2.2.2.1
theorem dX11_put_12 : decode cX11_put 12 = .ok (.iload_n 1, 1) := dgX11_put_0.2.2.2.2.2.2.1
theorem dX11_put_13 : decode cX11_put 13 = .ok (.baload, 1) := dgX11_put_0.2.2.2.2.2.2.2.1
theorem dX11_put_14 : decode cX11_put 14 = .ok (.ifCond .ne 31, 3) := dgX11_put_0.2.2.2.2.2.2.2.2.1
theorem dX11_put_17 : decode cX11_put 17 = .ok (.iload_n 2, 1) := dgX11_put_0.2.2.2.2.2.2.2.2.2.1
theorem dX11_put_18 : decode cX11_put 18 = .ok (.iconst 0, 1) := dgX11_put_0.2.2.2.2.2.2.2.2.2.2.1
theorem dX11_put_19 : decode cX11_put 19 = .ok (.aload_n 0, 1) := dgX11_put_0.2.2.2.2.2.2.2.2.2.2.2.1
theorem dX11_put_20 : decode cX11_put 20 = .ok (.getfield 161, 3) := dgX11_put_0.2.2.2.2.2.2.2.2.2.2.2.2.1
theorem dX11_put_23 : decode cX11_put 23 = .ok (.iconst 1, 1) := dgX11_put_0.2.2.2.2.2.2.2.2.2.2.2.2.2.1
theorem dX11_put_24 : decode cX11_put 24 = .ok (.isub, 1) := dgX11_put_0.2.2.2.2.2.2.2.2.2.2.2.2.2.2.1
theorem dX11_put_25 : decode cX11_put 25 = .ok (.invokestatic 156, 3) := dgX11_put_0.2.2.2.2.2.2.2.2.2.2.2.2.2.2.2
theorem dgX11_put_16 : (decode cX11_put 28 = .ok (.ifCond .eq 17, 3)) ∧ (decode cX11_put 31 = .ok (.iload_n 3, 1)) ∧ (decode cX11_put 32 = .ok (.iconst 1, 1)) ∧ (decode cX11_put 33 = .ok (.aload_n 0, 1)) ∧ (decode cX11_put 34 = .ok (.getfield 7, 3)) ∧ (decode cX11_put 37 = .ok (.iload_n 2, 1)) ∧ (decode cX11_put 38 = .ok (.iaload, 1)) ∧ (decode cX11_put 39 = .ok (.invokestatic 156, 3)) ∧ (decode cX11_put 42 = .ok (.ifCond .ne 5, 3)) ∧ (decode cX11_put 45 = .ok (.iconst (-1), 1)) ∧ (decode cX11_put 46 = .ok (.ireturn, 1)) ∧ (decode cX11_put 47 = .ok (.aload_n 0, 1)) ∧ (decode cX11_put 48 = .ok (.getfield 7, 3)) ∧ (decode cX11_put 51 = .ok (.iload_n 2, 1)) ∧ (decode cX11_put 52 = .ok (.dup2, 1)) ∧ (decode cX11_put 53 = .ok (.iaload, 1)) := by decide +kernel
theorem dX11_put_28 : decode cX11_put 28 = .ok (.ifCond .eq 17, 3) := dgX11_put_16.1
theorem dX11_put_31 : decode cX11_put 31 = .ok (.iload_n 3, 1) := dgX11_put_16.2.1
theorem dX11_put_32 : decode cX11_put 32 = .ok (.iconst 1, 1) := dgX11_put_16.2.2.1
theorem dX11_put_33 : decode cX11_put 33 = .ok (.aload_n 0, 1) := dgX11_put_16.2.2.2.1
theorem dX11_put_34 : decode cX11_put 34 = .ok (.getfield 7, 3) := dgX11_put_16.2.2.2.2.1
theorem dX11_put_37 : decode cX11_put 37 = .ok (.iload_n 2, 1) := dgX11_put_16.2.2.2.2.2.1
theorem dX11_put_38 : decode cX11_put 38 = .ok (.iaload, 1) := dgX11_put_16.2.2.2.2.2.2.1
theorem dX11_put_39 : decode cX11_put 39 = .ok (.invokestatic 156, 3) := dgX11_put_16.2.2.2.2.2.2.2.1
theorem dX11_put_42 : decode cX11_put 42 = .ok (.ifCond .ne 5, 3) := dgX11_put_16.2.2.2.2.2.2.2.2.1
theorem dX11_put_45 : decode cX11_put 45 = .ok (.iconst (-1), 1) := dgX11_put_16.2.2.2.2.2.2.2.2.2.1
theorem dX11_put_46 : decode cX11_put 46 = .ok (.ireturn, 1) := dgX11_put_16.2.2.2.2.2.2.2.2.2.2.1
theorem dX11_put_47 : decode cX11_put 47 = .ok (.aload_n 0, 1) := dgX11_put_16.2.2.2.2.2.2.2.2.2.2.2.1
theorem dX11_put_48 : decode cX11_put 48 = .ok (.getfield 7, 3) := dgX11_put_16.2.2.2.2.2.2.2.2.2.2.2.2.1
theorem dX11_put_51 : decode cX11_put 51 = .ok (.iload_n 2, 1) := dgX11_put_16.2.2.2.2.2.2.2.2.2.2.2.2.2.1
theorem dX11_put_52 : decode cX11_put 52 = .ok (.dup2, 1) := dgX11_put_16.2.2.2.2.2.2.2.2.2.2.2.2.2.2.1
theorem dX11_put_53 : decode cX11_put 53 = .ok (.iaload, 1) := dgX11_put_16.2.2.2.2.2.2.2.2.2.2.2.2.2.2.2
theorem dgX11_put_32 : (decode cX11_put 54 = .ok (.iload_n 3, 1)) ∧ (decode cX11_put 55 = .ok (.isub, 1)) ∧ (decode cX11_put 56 = .ok (.iastore, 1)) ∧ (decode cX11_put 57 = .ok (.aload_n 0, 1)) ∧ (decode cX11_put 58 = .ok (.getfield 19, 3)) ∧ (decode cX11_put 61 = .ok (.iload_n 1, 1)) ∧ (decode cX11_put 62 = .ok (.dup2, 1)) ∧ (decode cX11_put 63 = .ok (.iaload, 1)) ∧ (decode cX11_put 64 = .ok (.iload_n 3, 1)) ∧ (decode cX11_put 65 = .ok (.iadd, 1)) ∧ (decode cX11_put 66 = .ok (.iastore, 1)) ∧ (decode cX11_put 67 = .ok (.aload_n 0, 1)) ∧ (decode cX11_put 68 = .ok (.getfield 22, 3)) ∧ (decode cX11_put 71 = .ok (.iload_n 1, 1)) ∧ (decode cX11_put 72 = .ok (.dup2, 1)) ∧ (decode cX11_put 73 = .ok (.iaload, 1)) := by decide +kernel
theorem dX11_put_54 : decode cX11_put 54 = .ok (.iload_n 3, 1) := dgX11_put_32.1
theorem dX11_put_55 : decode cX11_put 55 = .ok (.isub, 1) := dgX11_put_32.2.1
theorem dX11_put_56 : decode cX11_put 56 = .ok (.iastore, 1) := dgX11_put_32.2.2.1
theorem dX11_put_57 : decode cX11_put 57 = .ok (.aload_n 0, 1) := dgX11_put_32.2.2.2.1
theorem dX11_put_58 : decode cX11_put 58 = .ok (.getfield 19, 3) := dgX11_put_32.2.2.2.2.1
theorem dX11_put_61 : decode cX11_put 61 = .ok (.iload_n 1, 1) := dgX11_put_32.2.2.2.2.2.1
theorem dX11_put_62 : decode cX11_put 62 = .ok (.dup2, 1) := dgX11_put_32.2.2.2.2.2.2.1
theorem dX11_put_63 : decode cX11_put 63 = .ok (.iaload, 1) := dgX11_put_32.2.2.2.2.2.2.2.1
theorem dX11_put_64 : decode cX11_put 64 = .ok (.iload_n 3, 1) := dgX11_put_32.2.2.2.2.2.2.2.2.1
theorem dX11_put_65 : decode cX11_put 65 = .ok (.iadd, 1) := dgX11_put_32.2.2.2.2.2.2.2.2.2.1
theorem dX11_put_66 : decode cX11_put 66 = .ok (.iastore, 1) := dgX11_put_32.2.2.2.2.2.2.2.2.2.2.1
theorem dX11_put_67 : decode cX11_put 67 = .ok (.aload_n 0, 1) := dgX11_put_32.2.2.2.2.2.2.2.2.2.2.2.1
theorem dX11_put_68 : decode cX11_put 68 = .ok (.getfield 22, 3) := dgX11_put_32.2.2.2.2.2.2.2.2.2.2.2.2.1
theorem dX11_put_71 : decode cX11_put 71 = .ok (.iload_n 1, 1) := dgX11_put_32.2.2.2.2.2.2.2.2.2.2.2.2.2.1
theorem dX11_put_72 : decode cX11_put 72 = .ok (.dup2, 1) := dgX11_put_32.2.2.2.2.2.2.2.2.2.2.2.2.2.2.1
theorem dX11_put_73 : decode cX11_put 73 = .ok (.iaload, 1) := dgX11_put_32.2.2.2.2.2.2.2.2.2.2.2.2.2.2.2
theorem dgX11_put_48 : (decode cX11_put 74 = .ok (.iload_n 3, 1)) ∧ (decode cX11_put 75 = .ok (.iadd, 1)) ∧ (decode cX11_put 76 = .ok (.iastore, 1)) ∧ (decode cX11_put 77 = .ok (.aload_n 0, 1)) ∧ (decode cX11_put 78 = .ok (.getfield 59, 3)) ∧ (decode cX11_put 81 = .ok (.bipush 40, 2)) ∧ (decode cX11_put 83 = .ok (.iload_n 1, 1)) ∧ (decode cX11_put 84 = .ok (.imul, 1)) ∧ (decode cX11_put 85 = .ok (.iload_n 2, 1)) ∧ (decode cX11_put 86 = .ok (.iadd, 1)) ∧ (decode cX11_put 87 = .ok (.dup2, 1)) ∧ (decode cX11_put 88 = .ok (.iaload, 1)) ∧ (decode cX11_put 89 = .ok (.iload_n 3, 1)) ∧ (decode cX11_put 90 = .ok (.iadd, 1)) ∧ (decode cX11_put 91 = .ok (.iastore, 1)) ∧ (decode cX11_put 92 = .ok (.aload_n 0, 1)) := by decide +kernel
theorem dX11_put_74 : decode cX11_put 74 = .ok (.iload_n 3, 1) := dgX11_put_48.1
theorem dX11_put_75 : decode cX11_put 75 = .ok (.iadd, 1) := dgX11_put_48.2.1
theorem dX11_put_76 : decode cX11_put 76 = .ok (.iastore, 1) := dgX11_put_48.2.2.1
theorem dX11_put_77 : decode cX11_put 77 = .ok (.aload_n 0, 1) := dgX11_put_48.2.2.2.1
theorem dX11_put_78 : decode cX11_put 78 = .ok (.getfield 59, 3) := dgX11_put_48.2.2.2.2.1
theorem dX11_put_81 : decode cX11_put 81 = .ok (.bipush 40, 2) := dgX11_put_48.2.2.2.2.2.1
theorem dX11_put_83 : decode cX11_put 83 = .ok (.iload_n 1, 1) := dgX11_put_48.2.2.2.2.2.2.1
theorem dX11_put_84 : decode cX11_put 84 = .ok (.imul, 1) := dgX11_put_48.2.2.2.2.2.2.2.1
theorem dX11_put_85 : decode cX11_put 85 = .ok (.iload_n 2, 1) := dgX11_put_48.2.2.2.2.2.2.2.2.1
theorem dX11_put_86 : decode cX11_put 86 = .ok (.iadd, 1) := dgX11_put_48.2.2.2.2.2.2.2.2.2.1
theorem dX11_put_87 : decode cX11_put 87 = .ok (.dup2, 1) := dgX11_put_48.2.2.2.2.2.2.2.2.2.2.1
theorem dX11_put_88 : decode cX11_put 88 = .ok (.iaload, 1) := dgX11_put_48.2.2.2.2.2.2.2.2.2.2.2.1
theorem dX11_put_89 : decode cX11_put 89 = .ok (.iload_n 3, 1) := dgX11_put_48.2.2.2.2.2.2.2.2.2.2.2.2.1
theorem dX11_put_90 : decode cX11_put 90 = .ok (.iadd, 1) := dgX11_put_48.2.2.2.2.2.2.2.2.2.2.2.2.2.1
theorem dX11_put_91 : decode cX11_put 91 = .ok (.iastore, 1) := dgX11_put_48.2.2.2.2.2.2.2.2.2.2.2.2.2.2.1
theorem dX11_put_92 : decode cX11_put 92 = .ok (.aload_n 0, 1) := dgX11_put_48.2.2.2.2.2.2.2.2.2.2.2.2.2.2.2
theorem dgX11_put_64 : (decode cX11_put 93 = .ok (.getfield 19, 3)) ∧ (decode cX11_put 96 = .ok (.iload_n 1, 1)) ∧ (decode cX11_put 97 = .ok (.iaload, 1)) ∧ (decode cX11_put 98 = .ok (.ireturn, 1)) := by decide +kernel
theorem dX11_put_93 : decode cX11_put 93 = .ok (.getfield 19, 3) := dgX11_put_64.1
theorem dX11_put_96 : decode cX11_put 96 = .ok (.iload_n 1, 1) := dgX11_put_64.2.1
theorem dX11_put_97 : decode cX11_put 97 = .ok (.iaload, 1) := dgX11_put_64.2.2.1
theorem dX11_put_98 : decode cX11_put 98 = .ok (.ireturn, 1) := dgX11_put_64.2.2.2
theorem dgX11_row_0 : (decode cX11_row 0 = .ok (.aload_n 0, 1)) ∧ (decode cX11_row 1 = .ok (.iload_n 1, 1)) ∧ (decode cX11_row 2 = .ok (.invokevirtual 165, 3)) ∧ (decode cX11_row 5 = .ok (.ifCond .eq 31, 3)) ∧ (decode cX11_row 8 = .ok (.aload_n 0, 1)) ∧ (decode cX11_row 9 = .ok (.getfield 40, 3)) ∧ (decode cX11_row 12 = .ok (.iload_n 1, 1)) ∧ (decode cX11_row 13 = .ok (.baload, 1)) ∧ (decode cX11_row 14 = .ok (.ifCond .ne 22, 3)) ∧ (decode cX11_row 17 = .ok (.iload_n 2, 1)) ∧ (decode cX11_row 18 = .ok (.iconst 0, 1)) ∧ (decode cX11_row 19 = .ok (.iconst 1, 1)) ∧ (decode cX11_row 20 = .ok (.invokestatic 156, 3)) ∧ (decode cX11_row 23 = .ok (.ifCond .eq 13, 3)) ∧ (decode cX11_row 26 = .ok (.iload_n 3, 1)) ∧ (decode cX11_row 27 = .ok (.iconst (-1), 1)) := by decide +kernel
theorem dX11_row_0 : decode cX11_row 0 = .ok (.aload_n 0, 1) := dgX11_row_0.1
theorem dX11_row_1 : decode cX11_row 1 = .ok (.iload_n 1, 1) := dgX11_row_0.2.1
theorem dX11_row_2 : decode cX11_row 2 = .ok (.invokevirtual 165, 3) := dgX11_row_0.2.2.1
theorem dX11_row_5 : decode cX11_row 5 = .ok (.ifCond .eq 31, 3) := dgX11_row_0.2.2.2.1
theorem dX11_row_8 : decode cX11_row 8 = .ok (.aload_n 0, 1) := dgX11_row_0.2.2.2.2.1
theorem dX11_row_9 : decode cX11_row 9 = .ok (.getfield 40, 3) := dgX11_row_0.2.2.2.2.2.1
theorem dX11_row_12 : decode cX11_row 12 = .ok (.iload_n 1, 1) := dgX11_row_0.2.2.2.2.2.2.1
theorem dX11_row_13 : decode cX11_row 13 = .ok (.baload, 1) := dgX11_row_0.2.2.2.2.2.2.2.1
theorem dX11_row_14 : decode cX11_row 14 = .ok (.ifCond .ne 22, 3) := dgX11_row_0.2.2.2.2.2.2.2.2.1
theorem dX11_row_17 : decode cX11_row 17 = .ok (.iload_n 2, 1) := dgX11_row_0.2.2.2.2.2.2.2.2.2.1
theorem dX11_row_18 : decode cX11_row 18 = .ok (.iconst 0, 1) := dgX11_row_0.2.2.2.2.2.2.2.2.2.2.1
theorem dX11_row_19 : decode cX11_row 19 = .ok (.iconst 1, 1) := dgX11_row_0.2.2.2.2.2.2.2.2.2.2.2.1
theorem dX11_row_20 : decode cX11_row 20 = .ok (.invokestatic 156, 3) := dgX11_row_0.2.2.2.2.2.2.2.2.2.2.2.2.1
theorem dX11_row_23 : decode cX11_row 23 = .ok (.ifCond .eq 13, 3) := dgX11_row_0.2.2.2.2.2.2.2.2.2.2.2.2.2.1
theorem dX11_row_26 : decode cX11_row 26 = .ok (.iload_n 3, 1) := dgX11_row_0.2.2.2.2.2.2.2.2.2.2.2.2.2.2.1
theorem dX11_row_27 : decode cX11_row 27 = .ok (.iconst (-1), 1) := dgX11_row_0.2.2.2.2.2.2.2.2.2.2.2.2.2.2.2
theorem dgX11_row_16 : (decode cX11_row 28 = .ok (.bipush 60, 2)) ∧ (decode cX11_row 30 = .ok (.invokestatic 156, 3)) ∧ (decode cX11_row 33 = .ok (.ifCond .ne 5, 3)) ∧ (decode cX11_row 36 = .ok (.iconst 0, 1)) ∧ (decode cX11_row 37 = .ok (.ireturn, 1)) ∧ (decode cX11_row 38 = .ok (.iload_n 2, 1)) ∧ (decode cX11_row 39 = .ok (.ifCond .ne 13, 3)) ∧ (decode cX11_row 42 = .ok (.aload_n 0, 1)) ∧ (decode cX11_row 43 = .ok (.getfield 62, 3)) ∧ (decode cX11_row 46 = .ok (.iload_n 1, 1)) ∧ (decode cX11_row 47 = .ok (.iload_n 3, 1)) ∧ (decode cX11_row 48 = .ok (.iastore, 1)) ∧ (decode cX11_row 49 = .ok (.goto 10, 3)) ∧ (decode cX11_row 52 = .ok (.aload_n 0, 1)) ∧ (decode cX11_row 53 = .ok (.getfield 65, 3)) ∧ (decode cX11_row 56 = .ok (.iload_n 1, 1)) := by decide +kernel
theorem dX11_row_28 : decode cX11_row 28 = .ok (.bipush 60, 2) := dgX11_row_16.1
theorem dX11_row_30 : decode cX11_row 30 = .ok (.invokestatic 156, 3) := dgX11_row_16.2.1
theorem dX11_row_33 : decode cX11_row 33 = .ok (.ifCond .ne 5, 3) := dgX11_row_16.2.2.1
theorem dX11_row_36 : decode cX11_row 36 = .ok (.iconst 0, 1) := dgX11_row_16.2.2.2.1
theorem dX11_row_37 : decode cX11_row 37 = .ok (.ireturn, 1) := dgX11_row_16.2.2.2.2.1
theorem dX11_row_38 : decode cX11_row 38 = .ok (.iload_n 2, 1) := dgX11_row_16.2.2.2.2.2.1
theorem dX11_row_39 : decode cX11_row 39 = .ok (.ifCond .ne 13, 3) := dgX11_row_16.2.2.2.2.2.2.1
theorem dX11_row_42 : decode cX11_row 42 = .ok (.aload_n 0, 1) := dgX11_row_16.2.2.2.2.2.2.2.1
theorem dX11_row_43 : decode cX11_row 43 = .ok (.getfield 62, 3) := dgX11_row_16.2.2.2.2.2.2.2.2.1
theorem dX11_row_46 : decode cX11_row 46 = .ok (.iload_n 1, 1) := dgX11_row_16.2.2.2.2.2.2.2.2.2.1
theorem dX11_row_47 : decode cX11_row 47 = .ok (.iload_n 3, 1) := dgX11_row_16.2.2.2.2.2.2.2.2.2.2.1
theorem dX11_row_48 : decode cX11_row 48 = .ok (.iastore, 1) := dgX11_row_16.2.2.2.2.2.2.2.2.2.2.2.1
theorem dX11_row_49 : decode cX11_row 49 = .ok (.goto 10, 3) := dgX11_row_16.2.2.2.2.2.2.2.2.2.2.2.2.1
theorem dX11_row_52 : decode cX11_row 52 = .ok (.aload_n 0, 1) := dgX11_row_16.2.2.2.2.2.2.2.2.2.2.2.2.2.1
theorem dX11_row_53 : decode cX11_row 53 = .ok (.getfield 65, 3) := dgX11_row_16.2.2.2.2.2.2.2.2.2.2.2.2.2.2.1
theorem dX11_row_56 : decode cX11_row 56 = .ok (.iload_n 1, 1) := dgX11_row_16.2.2.2.2.2.2.2.2.2.2.2.2.2.2.2
theorem dgX11_row_32 : (decode cX11_row 57 = .ok (.iload_n 3, 1)) ∧ (decode cX11_row 58 = .ok (.iastore, 1)) ∧ (decode cX11_row 59 = .ok (.iconst 0, 1)) ∧ (decode cX11_row 60 = .ok (.istore 4, 2)) ∧ (decode cX11_row 62 = .ok (.iload 4, 2)) ∧ (decode cX11_row 64 = .ok (.bipush 60, 2)) ∧ (decode cX11_row 66 = .ok (.if_icmp .ge 42, 3)) ∧ (decode cX11_row 69 = .ok (.iload_n 2, 1)) ∧ (decode cX11_row 70 = .ok (.ifCond .ne 19, 3)) ∧ (decode cX11_row 73 = .ok (.aload_n 0, 1)) ∧ (decode cX11_row 74 = .ok (.getfield 68, 3)) ∧ (decode cX11_row 77 = .ok (.bipush 60, 2)) ∧ (decode cX11_row 79 = .ok (.iload_n 1, 1)) ∧ (decode cX11_row 80 = .ok (.imul, 1)) ∧ (decode cX11_row 81 = .ok (.iload 4, 2)) ∧ (decode cX11_row 83 = .ok (.iadd, 1)) := by decide +kernel
theorem dX11_row_57 : decode cX11_row 57 = .ok (.iload_n 3, 1) := dgX11_row_32.1
theorem dX11_row_58 : decode cX11_row 58 = .ok (.iastore, 1) := dgX11_row_32.2.1
theorem dX11_row_59 : decode cX11_row 59 = .ok (.iconst 0, 1) := dgX11_row_32.2.2.1
theorem dX11_row_60 : decode cX11_row 60 = .ok (.istore 4, 2) := dgX11_row_32.2.2.2.1
theorem dX11_row_62 : decode cX11_row 62 = .ok (.iload 4, 2) := dgX11_row_32.2.2.2.2.1
theorem dX11_row_64 : decode cX11_row 64 = .ok (.bipush 60, 2) := dgX11_row_32.2.2.2.2.2.1
theorem dX11_row_66 : decode cX11_row 66 = .ok (.if_icmp .ge 42, 3) := dgX11_row_32.2.2.2.2.2.2.1
theorem dX11_row_69 : decode cX11_row 69 = .ok (.iload_n 2, 1) := dgX11_row_32.2.2.2.2.2.2.2.1
theorem dX11_row_70 : decode cX11_row 70 = .ok (.ifCond .ne 19, 3) := dgX11_row_32.2.2.2.2.2.2.2.2.1
theorem dX11_row_73 : decode cX11_row 73 = .ok (.aload_n 0, 1) := dgX11_row_32.2.2.2.2.2.2.2.2.2.1
theorem dX11_row_74 : decode cX11_row 74 = .ok (.getfield 68, 3) := dgX11_row_32.2.2.2.2.2.2.2.2.2.2.1
theorem dX11_row_77 : decode cX11_row 77 = .ok (.bipush 60, 2) := dgX11_row_32.2.2.2.2.2.2.2.2.2.2.2.1
theorem dX11_row_79 : decode cX11_row 79 = .ok (.iload_n 1, 1) := dgX11_row_32.2.2.2.2.2.2.2.2.2.2.2.2.1
theorem dX11_row_80 : decode cX11_row 80 = .ok (.imul, 1) := dgX11_row_32.2.2.2.2.2.2.2.2.2.2.2.2.2.1
theorem dX11_row_81 : decode cX11_row 81 = .ok (.iload 4, 2) := dgX11_row_32.2.2.2.2.2.2.2.2.2.2.2.2.2.2.1
theorem dX11_row_83 : decode cX11_row 83 = .ok (.iadd, 1) := dgX11_row_32.2.2.2.2.2.2.2.2.2.2.2.2.2.2.2
theorem dgX11_row_48 : (decode cX11_row 84 = .ok (.fconst 0, 1)) ∧ (decode cX11_row 85 = .ok (.fastore, 1)) ∧ (decode cX11_row 86 = .ok (.goto 16, 3)) ∧ (decode cX11_row 89 = .ok (.aload_n 0, 1)) ∧ (decode cX11_row 90 = .ok (.getfield 72, 3)) ∧ (decode cX11_row 93 = .ok (.bipush 60, 2)) ∧ (decode cX11_row 95 = .ok (.iload_n 1, 1)) ∧ (decode cX11_row 96 = .ok (.imul, 1)) ∧ (decode cX11_row 97 = .ok (.iload 4, 2)) ∧ (decode cX11_row 99 = .ok (.iadd, 1)) ∧ (decode cX11_row 100 = .ok (.iconst 0, 1)) ∧ (decode cX11_row 101 = .ok (.bastore, 1)) ∧ (decode cX11_row 102 = .ok (.iinc 4 1, 3)) ∧ (decode cX11_row 105 = .ok (.goto (-43), 3)) ∧ (decode cX11_row 108 = .ok (.iconst 1, 1)) ∧ (decode cX11_row 109 = .ok (.ireturn, 1)) := by decide +kernel
theorem dX11_row_84 : decode cX11_row 84 = .ok (.fconst 0, 1) := dgX11_row_48.1
theorem dX11_row_85 : decode cX11_row 85 = .ok (.fastore, 1) := dgX11_row_48.2.1
theorem dX11_row_86 : decode cX11_row 86 = .ok (.goto 16, 3) := dgX11_row_48.2.2.1
theorem dX11_row_89 : decode cX11_row 89 = .ok (.aload_n 0, 1) := dgX11_row_48.2.2.2.1
theorem dX11_row_90 : decode cX11_row 90 = .ok (.getfield 72, 3) := dgX11_row_48.2.2.2.2.1
theorem dX11_row_93 : decode cX11_row 93 = .ok (.bipush 60, 2) := dgX11_row_48.2.2.2.2.2.1
theorem dX11_row_95 : decode cX11_row 95 = .ok (.iload_n 1, 1) := dgX11_row_48.2.2.2.2.2.2.1
theorem dX11_row_96 : decode cX11_row 96 = .ok (.imul, 1) := dgX11_row_48.2.2.2.2.2.2.2.1
theorem dX11_row_97 : decode cX11_row 97 = .ok (.iload 4, 2) := dgX11_row_48.2.2.2.2.2.2.2.2.1
theorem dX11_row_99 : decode cX11_row 99 = .ok (.iadd, 1) := dgX11_row_48.2.2.2.2.2.2.2.2.2.1
theorem dX11_row_100 : decode cX11_row 100 = .ok (.iconst 0, 1) := dgX11_row_48.2.2.2.2.2.2.2.2.2.2.1
theorem dX11_row_101 : decode cX11_row 101 = .ok (.bastore, 1) := dgX11_row_48.2.2.2.2.2.2.2.2.2.2.2.1
theorem dX11_row_102 : decode cX11_row 102 = .ok (.iinc 4 1, 3) := dgX11_row_48.2.2.2.2.2.2.2.2.2.2.2.2.1
theorem dX11_row_105 : decode cX11_row 105 = .ok (.goto (-43), 3) := dgX11_row_48.2.2.2.2.2.2.2.2.2.2.2.2.2.1
theorem dX11_row_108 : decode cX11_row 108 = .ok (.iconst 1, 1) := dgX11_row_48.2.2.2.2.2.2.2.2.2.2.2.2.2.2.1
theorem dX11_row_109 : decode cX11_row 109 = .ok (.ireturn, 1) := dgX11_row_48.2.2.2.2.2.2.2.2.2.2.2.2.2.2.2
theorem dgX11_tick_0 : (decode cX11_tick 0 = .ok (.aload_n 0, 1)) ∧ (decode cX11_tick 1 = .ok (.iload_n 1, 1)) ∧ (decode cX11_tick 2 = .ok (.invokevirtual 165, 3)) ∧ (decode cX11_tick 5 = .ok (.ifCond .eq 28, 3)) ∧ (decode cX11_tick 8 = .ok (.aload_n 0, 1)) ∧ (decode cX11_tick 9 = .ok (.getfield 40, 3)) ∧ (decode cX11_tick 12 = .ok (.iload_n 1, 1)) ∧ (decode cX11_tick 13 = .ok (.baload, 1)) ∧ (decode cX11_tick 14 = .ok (.ifCond .ne 19, 3)) ∧ (decode cX11_tick 17 = .ok (.iload_n 2, 1)) ∧ (decode cX11_tick 18 = .ok (.iconst 0, 1)) ∧ (decode cX11_tick 19 = .ok (.aload_n 0, 1)) ∧ (decode cX11_tick 20 = .ok (.getfield 62, 3)) ∧ (decode cX11_tick 23 = .ok (.iload_n 1, 1)) ∧ (decode cX11_tick 24 = .ok (.iaload, 1)) ∧ (decode cX11_tick 25 = .ok (.iconst 1, 1)) := by decide +kernel
theorem dX11_tick_0 : decode cX11_tick 0 = .ok (.aload_n 0, 1) := dgX11_tick_0.1
theorem dX11_tick_1 : decode cX11_tick 1 = .ok (.iload_n 1, 1) := dgX11_tick_0.2.1
theorem dX11_tick_2 : decode cX11_tick 2 = .ok (.invokevirtual 165, 3) := dgX11_tick_0.2.2.1
theorem dX11_tick_5 : decode cX11_tick 5 = .ok (.ifCond .eq 28, 3) := dgX11_tick_0.2.2.2.1
theorem dX11_tick_8 : decode cX11_tick 8 = .ok (.aload_n 0, 1) := dgX11_tick_0.2.2.2.2.1
theorem dX11_tick_9 : decode cX11_tick 9 = .ok (.getfield 40, 3) := dgX11_tick_0.2.2.2.2.2.1
theorem dX11_tick_12 : decode cX11_tick 12 = .ok (.iload_n 1, 1) := dgX11_tick_0.2.2.2.2.2.2.1
theorem dX11_tick_13 : decode cX11_tick 13 = .ok (.baload, 1) := dgX11_tick_0.2.2.2.2.2.2.2.1
theorem dX11_tick_14 : decode cX11_tick 14 = .ok (.ifCond .ne 19, 3) := dgX11_tick_0.2.2.2.2.2.2.2.2.1
theorem dX11_tick_17 : decode cX11_tick 17 = .ok (.iload_n 2, 1) := dgX11_tick_0.2.2.2.2.2.2.2.2.2.1
theorem dX11_tick_18 : decode cX11_tick 18 = .ok (.iconst 0, 1) := dgX11_tick_0.2.2.2.2.2.2.2.2.2.2.1
theorem dX11_tick_19 : decode cX11_tick 19 = .ok (.aload_n 0, 1) := dgX11_tick_0.2.2.2.2.2.2.2.2.2.2.2.1
theorem dX11_tick_20 : decode cX11_tick 20 = .ok (.getfield 62, 3) := dgX11_tick_0.2.2.2.2.2.2.2.2.2.2.2.2.1
theorem dX11_tick_23 : decode cX11_tick 23 = .ok (.iload_n 1, 1) := dgX11_tick_0.2.2.2.2.2.2.2.2.2.2.2.2.2.1
theorem dX11_tick_24 : decode cX11_tick 24 = .ok (.iaload, 1) := dgX11_tick_0.2.2.2.2.2.2.2.2.2.2.2.2.2.2.1
theorem dX11_tick_25 : decode cX11_tick 25 = .ok (.iconst 1, 1) := dgX11_tick_0.2.2.2.2.2.2.2.2.2.2.2.2.2.2.2
theorem dgX11_tick_16 : (decode cX11_tick 26 = .ok (.isub, 1)) ∧ (decode cX11_tick 27 = .ok (.invokestatic 156, 3)) ∧ (decode cX11_tick 30 = .ok (.ifCond .ne 5, 3)) ∧ (decode cX11_tick 33 = .ok (.iconst 0, 1)) ∧ (decode cX11_tick 34 = .ok (.ireturn, 1)) ∧ (decode cX11_tick 35 = .ok (.aload_n 0, 1)) ∧ (decode cX11_tick 36 = .ok (.getfield 68, 3)) ∧ (decode cX11_tick 39 = .ok (.bipush 60, 2)) ∧ (decode cX11_tick 41 = .ok (.iload_n 1, 1)) ∧ (decode cX11_tick 42 = .ok (.imul, 1)) ∧ (decode cX11_tick 43 = .ok (.iload_n 2, 1)) ∧ (decode cX11_tick 44 = .ok (.iadd, 1)) ∧ (decode cX11_tick 45 = .ok (.iload_n 3, 1)) ∧ (decode cX11_tick 46 = .ok (.invokestatic 169, 3)) ∧ (decode cX11_tick 49 = .ok (.fastore, 1)) ∧ (decode cX11_tick 50 = .ok (.iconst 1, 1)) := by decide +kernel
theorem dX11_tick_26 : decode cX11_tick 26 = .ok (.isub, 1) := dgX11_tick_16.1
theorem dX11_tick_27 : decode cX11_tick 27 = .ok (.invokestatic 156, 3) := dgX11_tick_16.2.1
theorem dX11_tick_30 : decode cX11_tick 30 = .ok (.ifCond .ne 5, 3) := dgX11_tick_16.2.2.1
theorem dX11_tick_33 : decode cX11_tick 33 = .ok (.iconst 0, 1) := dgX11_tick_16.2.2.2.1
theorem dX11_tick_34 : decode cX11_tick 34 = .ok (.ireturn, 1) := dgX11_tick_16.2.2.2.2.1
theorem dX11_tick_35 : decode cX11_tick 35 = .ok (.aload_n 0, 1) := dgX11_tick_16.2.2.2.2.2.1
theorem dX11_tick_36 : decode cX11_tick 36 = .ok (.getfield 68, 3) := dgX11_tick_16.2.2.2.2.2.2.1
theorem dX11_tick_39 : decode cX11_tick 39 = .ok (.bipush 60, 2) := dgX11_tick_16.2.2.2.2.2.2.2.1
theorem dX11_tick_41 : decode cX11_tick 41 = .ok (.iload_n 1, 1) := dgX11_tick_16.2.2.2.2.2.2.2.2.1
theorem dX11_tick_42 : decode cX11_tick 42 = .ok (.imul, 1) := dgX11_tick_16.2.2.2.2.2.2.2.2.2.1
theorem dX11_tick_43 : decode cX11_tick 43 = .ok (.iload_n 2, 1) := dgX11_tick_16.2.2.2.2.2.2.2.2.2.2.1
theorem dX11_tick_44 : decode cX11_tick 44 = .ok (.iadd, 1) := dgX11_tick_16.2.2.2.2.2.2.2.2.2.2.2.1
theorem dX11_tick_45 : decode cX11_tick 45 = .ok (.iload_n 3, 1) := dgX11_tick_16.2.2.2.2.2.2.2.2.2.2.2.2.1
theorem dX11_tick_46 : decode cX11_tick 46 = .ok (.invokestatic 169, 3) := dgX11_tick_16.2.2.2.2.2.2.2.2.2.2.2.2.2.1
theorem dX11_tick_49 : decode cX11_tick 49 = .ok (.fastore, 1) := dgX11_tick_16.2.2.2.2.2.2.2.2.2.2.2.2.2.2.1
theorem dX11_tick_50 : decode cX11_tick 50 = .ok (.iconst 1, 1) := dgX11_tick_16.2.2.2.2.2.2.2.2.2.2.2.2.2.2.2
theorem dX11_tick_51 : decode cX11_tick 51 = .ok (.ireturn, 1) := by decide +kernel
theorem dgX11_stir_0 : (decode cX11_stir 0 = .ok (.aload_n 0, 1)) ∧ (decode cX11_stir 1 = .ok (.iload_n 1, 1)) ∧ (decode cX11_stir 2 = .ok (.invokevirtual 165, 3)) ∧ (decode cX11_stir 5 = .ok (.ifCond .eq 28, 3)) ∧ (decode cX11_stir 8 = .ok (.aload_n 0, 1)) ∧ (decode cX11_stir 9 = .ok (.getfield 40, 3)) ∧ (decode cX11_stir 12 = .ok (.iload_n 1, 1)) ∧ (decode cX11_stir 13 = .ok (.baload, 1)) ∧ (decode cX11_stir 14 = .ok (.ifCond .ne 19, 3)) ∧ (decode cX11_stir 17 = .ok (.iload_n 2, 1)) ∧ (decode cX11_stir 18 = .ok (.iconst 0, 1)) ∧ (decode cX11_stir 19 = .ok (.aload_n 0, 1)) ∧ (decode cX11_stir 20 = .ok (.getfield 65, 3)) ∧ (decode cX11_stir 23 = .ok (.iload_n 1, 1)) ∧ (decode cX11_stir 24 = .ok (.iaload, 1)) ∧ (decode cX11_stir 25 = .ok (.iconst 1, 1)) := by decide +kernel
theorem dX11_stir_0 : decode cX11_stir 0 = .ok (.aload_n 0, 1) := dgX11_stir_0.1
theorem dX11_stir_1 : decode cX11_stir 1 = .ok (.iload_n 1, 1) := dgX11_stir_0.2.1
theorem dX11_stir_2 : decode cX11_stir 2 = .ok (.invokevirtual 165, 3) := dgX11_stir_0.2.2.1
theorem dX11_stir_5 : decode cX11_stir 5 = .ok (.ifCond .eq 28, 3) := dgX11_stir_0.2.2.2.1
theorem dX11_stir_8 : decode cX11_stir 8 = .ok (.aload_n 0, 1) := dgX11_stir_0.2.2.2.2.1
theorem dX11_stir_9 : decode cX11_stir 9 = .ok (.getfield 40, 3) := dgX11_stir_0.2.2.2.2.2.1
theorem dX11_stir_12 : decode cX11_stir 12 = .ok (.iload_n 1, 1) := dgX11_stir_0.2.2.2.2.2.2.1
theorem dX11_stir_13 : decode cX11_stir 13 = .ok (.baload, 1) := dgX11_stir_0.2.2.2.2.2.2.2.1
theorem dX11_stir_14 : decode cX11_stir 14 = .ok (.ifCond .ne 19, 3) := dgX11_stir_0.2.2.2.2.2.2.2.2.1
theorem dX11_stir_17 : decode cX11_stir 17 = .ok (.iload_n 2, 1) := dgX11_stir_0.2.2.2.2.2.2.2.2.2.1
theorem dX11_stir_18 : decode cX11_stir 18 = .ok (.iconst 0, 1) := dgX11_stir_0.2.2.2.2.2.2.2.2.2.2.1
theorem dX11_stir_19 : decode cX11_stir 19 = .ok (.aload_n 0, 1) := dgX11_stir_0.2.2.2.2.2.2.2.2.2.2.2.1
theorem dX11_stir_20 : decode cX11_stir 20 = .ok (.getfield 65, 3) := dgX11_stir_0.2.2.2.2.2.2.2.2.2.2.2.2.1
theorem dX11_stir_23 : decode cX11_stir 23 = .ok (.iload_n 1, 1) := dgX11_stir_0.2.2.2.2.2.2.2.2.2.2.2.2.2.1
theorem dX11_stir_24 : decode cX11_stir 24 = .ok (.iaload, 1) := dgX11_stir_0.2.2.2.2.2.2.2.2.2.2.2.2.2.2.1
theorem dX11_stir_25 : decode cX11_stir 25 = .ok (.iconst 1, 1) := dgX11_stir_0.2.2.2.2.2.2.2.2.2.2.2.2.2.2.2
theorem dgX11_stir_16 : (decode cX11_stir 26 = .ok (.isub, 1)) ∧ (decode cX11_stir 27 = .ok (.invokestatic 156, 3)) ∧ (decode cX11_stir 30 = .ok (.ifCond .ne 5, 3)) ∧ (decode cX11_stir 33 = .ok (.iconst 0, 1)) ∧ (decode cX11_stir 34 = .ok (.ireturn, 1)) ∧ (decode cX11_stir 35 = .ok (.aload_n 0, 1)) ∧ (decode cX11_stir 36 = .ok (.getfield 72, 3)) ∧ (decode cX11_stir 39 = .ok (.bipush 60, 2)) ∧ (decode cX11_stir 41 = .ok (.iload_n 1, 1)) ∧ (decode cX11_stir 42 = .ok (.imul, 1)) ∧ (decode cX11_stir 43 = .ok (.iload_n 2, 1)) ∧ (decode cX11_stir 44 = .ok (.iadd, 1)) ∧ (decode cX11_stir 45 = .ok (.iload_n 3, 1)) ∧ (decode cX11_stir 46 = .ok (.bastore, 1)) ∧ (decode cX11_stir 47 = .ok (.iconst 1, 1)) ∧ (decode cX11_stir 48 = .ok (.ireturn, 1)) := by decide +kernel
theorem dX11_stir_26 : decode cX11_stir 26 = .ok (.isub, 1) := dgX11_stir_16.1
theorem dX11_stir_27 : decode cX11_stir 27 = .ok (.invokestatic 156, 3) := dgX11_stir_16.2.1
theorem dX11_stir_30 : decode cX11_stir 30 = .ok (.ifCond .ne 5, 3) := dgX11_stir_16.2.2.1
theorem dX11_stir_33 : decode cX11_stir 33 = .ok (.iconst 0, 1) := dgX11_stir_16.2.2.2.1
theorem dX11_stir_34 : decode cX11_stir 34 = .ok (.ireturn, 1) := dgX11_stir_16.2.2.2.2.1
theorem dX11_stir_35 : decode cX11_stir 35 = .ok (.aload_n 0, 1) := dgX11_stir_16.2.2.2.2.2.1
theorem dX11_stir_36 : decode cX11_stir 36 = .ok (.getfield 72, 3) := dgX11_stir_16.2.2.2.2.2.2.1
theorem dX11_stir_39 : decode cX11_stir 39 = .ok (.bipush 60, 2) := dgX11_stir_16.2.2.2.2.2.2.2.1
theorem dX11_stir_41 : decode cX11_stir 41 = .ok (.iload_n 1, 1) := dgX11_stir_16.2.2.2.2.2.2.2.2.1
theorem dX11_stir_42 : decode cX11_stir 42 = .ok (.imul, 1) := dgX11_stir_16.2.2.2.2.2.2.2.2.2.1
theorem dX11_stir_43 : decode cX11_stir 43 = .ok (.iload_n 2, 1) := dgX11_stir_16.2.2.2.2.2.2.2.2.2.2.1
theorem dX11_stir_44 : decode cX11_stir 44 = .ok (.iadd, 1) := dgX11_stir_16.2.2.2.2.2.2.2.2.2.2.2.1
theorem dX11_stir_45 : decode cX11_stir 45 = .ok (.iload_n 3, 1) := dgX11_stir_16.2.2.2.2.2.2.2.2.2.2.2.2.1
theorem dX11_stir_46 : decode cX11_stir 46 = .ok (.bastore, 1) := dgX11_stir_16.2.2.2.2.2.2.2.2.2.2.2.2.2.1
theorem dX11_stir_47 : decode cX11_stir 47 = .ok (.iconst 1, 1) := dgX11_stir_16.2.2.2.2.2.2.2.2.2.2.2.2.2.2.1
theorem dX11_stir_48 : decode cX11_stir 48 = .ok (.ireturn, 1) := dgX11_stir_16.2.2.2.2.2.2.2.2.2.2.2.2.2.2.2
theorem dgX11_table_0 : (decode cX11_table 0 = .ok (.aload_n 0, 1)) ∧ (decode cX11_table 1 = .ok (.getfield 175, 3)) ∧ (decode cX11_table 4 = .ok (.bipush 16, 2)) ∧ (decode cX11_table 6 = .ok (.if_icmp .eq 36, 3)) ∧ (decode cX11_table 9 = .ok (.iload_n 2, 1)) ∧ (decode cX11_table 10 = .ok (.iconst 0, 1)) ∧ (decode cX11_table 11 = .ok (.sipush 900, 3)) ∧ (decode cX11_table 14 = .ok (.invokestatic 156, 3)) ∧ (decode cX11_table 17 = .ok (.ifCond .eq 25, 3)) ∧ (decode cX11_table 20 = .ok (.aload_n 0, 1)) ∧ (decode cX11_table 21 = .ok (.getfield 175, 3)) ∧ (decode cX11_table 24 = .ok (.ifCond .le 20, 3)) ∧ (decode cX11_table 27 = .ok (.iload_n 1, 1)) ∧ (decode cX11_table 28 = .ok (.aload_n 0, 1)) ∧ (decode cX11_table 29 = .ok (.getfield 75, 3)) ∧ (decode cX11_table 32 = .ok (.aload_n 0, 1)) := by decide +kernel
theorem dX11_table_0 : decode cX11_table 0 = .ok (.aload_n 0, 1) := dgX11_table_0.1
theorem dX11_table_1 : decode cX11_table 1 = .ok (.getfield 175, 3) := dgX11_table_0.2.1
theorem dX11_table_4 : decode cX11_table 4 = .ok (.bipush 16, 2) := dgX11_table_0.2.2.1
theorem dX11_table_6 : decode cX11_table 6 = .ok (.if_icmp .eq 36, 3) := dgX11_table_0.2.2.2.1
theorem dX11_table_9 : decode cX11_table 9 = .ok (.iload_n 2, 1) := dgX11_table_0.2.2.2.2.1
theorem dX11_table_10 : decode cX11_table 10 = .ok (.iconst 0, 1) := dgX11_table_0.2.2.2.2.2.1
theorem dX11_table_11 : decode cX11_table 11 = .ok (.sipush 900, 3) := dgX11_table_0.2.2.2.2.2.2.1
theorem dX11_table_14 : decode cX11_table 14 = .ok (.invokestatic 156, 3) := dgX11_table_0.2.2.2.2.2.2.2.1
theorem dX11_table_17 : decode cX11_table 17 = .ok (.ifCond .eq 25, 3) := dgX11_table_0.2.2.2.2.2.2.2.2.1
theorem dX11_table_20 : decode cX11_table 20 = .ok (.aload_n 0, 1) := dgX11_table_0.2.2.2.2.2.2.2.2.2.1
theorem dX11_table_21 : decode cX11_table 21 = .ok (.getfield 175, 3) := dgX11_table_0.2.2.2.2.2.2.2.2.2.2.1
theorem dX11_table_24 : decode cX11_table 24 = .ok (.ifCond .le 20, 3) := dgX11_table_0.2.2.2.2.2.2.2.2.2.2.2.1
theorem dX11_table_27 : decode cX11_table 27 = .ok (.iload_n 1, 1) := dgX11_table_0.2.2.2.2.2.2.2.2.2.2.2.2.1
theorem dX11_table_28 : decode cX11_table 28 = .ok (.aload_n 0, 1) := dgX11_table_0.2.2.2.2.2.2.2.2.2.2.2.2.2.1
theorem dX11_table_29 : decode cX11_table 29 = .ok (.getfield 75, 3) := dgX11_table_0.2.2.2.2.2.2.2.2.2.2.2.2.2.2.1
theorem dX11_table_32 : decode cX11_table 32 = .ok (.aload_n 0, 1) := dgX11_table_0.2.2.2.2.2.2.2.2.2.2.2.2.2.2.2
theorem dgX11_table_16 : (decode cX11_table 33 = .ok (.getfield 175, 3)) ∧ (decode cX11_table 36 = .ok (.iconst 1, 1)) ∧ (decode cX11_table 37 = .ok (.isub, 1)) ∧ (decode cX11_table 38 = .ok (.iaload, 1)) ∧ (decode cX11_table 39 = .ok (.if_icmp .gt 5, 3)) ∧ (decode cX11_table 42 = .ok (.iconst (-1), 1)) ∧ (decode cX11_table 43 = .ok (.ireturn, 1)) ∧ (decode cX11_table 44 = .ok (.aload_n 0, 1)) ∧ (decode cX11_table 45 = .ok (.getfield 75, 3)) ∧ (decode cX11_table 48 = .ok (.aload_n 0, 1)) ∧ (decode cX11_table 49 = .ok (.getfield 175, 3)) ∧ (decode cX11_table 52 = .ok (.iload_n 1, 1)) ∧ (decode cX11_table 53 = .ok (.iastore, 1)) ∧ (decode cX11_table 54 = .ok (.aload_n 0, 1)) ∧ (decode cX11_table 55 = .ok (.getfield 78, 3)) ∧ (decode cX11_table 58 = .ok (.aload_n 0, 1)) := by decide +kernel
theorem dX11_table_33 : decode cX11_table 33 = .ok (.getfield 175, 3) := dgX11_table_16.1
theorem dX11_table_36 : decode cX11_table 36 = .ok (.iconst 1, 1) := dgX11_table_16.2.1
theorem dX11_table_37 : decode cX11_table 37 = .ok (.isub, 1) := dgX11_table_16.2.2.1
theorem dX11_table_38 : decode cX11_table 38 = .ok (.iaload, 1) := dgX11_table_16.2.2.2.1
theorem dX11_table_39 : decode cX11_table 39 = .ok (.if_icmp .gt 5, 3) := dgX11_table_16.2.2.2.2.1
theorem dX11_table_42 : decode cX11_table 42 = .ok (.iconst (-1), 1) := dgX11_table_16.2.2.2.2.2.1
theorem dX11_table_43 : decode cX11_table 43 = .ok (.ireturn, 1) := dgX11_table_16.2.2.2.2.2.2.1
theorem dX11_table_44 : decode cX11_table 44 = .ok (.aload_n 0, 1) := dgX11_table_16.2.2.2.2.2.2.2.1
theorem dX11_table_45 : decode cX11_table 45 = .ok (.getfield 75, 3) := dgX11_table_16.2.2.2.2.2.2.2.2.1
theorem dX11_table_48 : decode cX11_table 48 = .ok (.aload_n 0, 1) := dgX11_table_16.2.2.2.2.2.2.2.2.2.1
theorem dX11_table_49 : decode cX11_table 49 = .ok (.getfield 175, 3) := dgX11_table_16.2.2.2.2.2.2.2.2.2.2.1
theorem dX11_table_52 : decode cX11_table 52 = .ok (.iload_n 1, 1) := dgX11_table_16.2.2.2.2.2.2.2.2.2.2.2.1
theorem dX11_table_53 : decode cX11_table 53 = .ok (.iastore, 1) := dgX11_table_16.2.2.2.2.2.2.2.2.2.2.2.2.1
theorem dX11_table_54 : decode cX11_table 54 = .ok (.aload_n 0, 1) := dgX11_table_16.2.2.2.2.2.2.2.2.2.2.2.2.2.1
theorem dX11_table_55 : decode cX11_table 55 = .ok (.getfield 78, 3) := dgX11_table_16.2.2.2.2.2.2.2.2.2.2.2.2.2.2.1
theorem dX11_table_58 : decode cX11_table 58 = .ok (.aload_n 0, 1) := dgX11_table_16.2.2.2.2.2.2.2.2.2.2.2.2.2.2.2
theorem dgX11_table_32 : (decode cX11_table 59 = .ok (.getfield 175, 3)) ∧ (decode cX11_table 62 = .ok (.iload_n 2, 1)) ∧ (decode cX11_table 63 = .ok (.iastore, 1)) ∧ (decode cX11_table 64 = .ok (.aload_n 0, 1)) ∧ (decode cX11_table 65 = .ok (.dup, 1)) ∧ (decode cX11_table 66 = .ok (.getfield 175, 3)) ∧ (decode cX11_table 69 = .ok (.iconst 1, 1)) ∧ (decode cX11_table 70 = .ok (.iadd, 1)) ∧ (decode cX11_table 71 = .ok (.putfield 175, 3)) ∧ (decode cX11_table 74 = .ok (.aload_n 0, 1)) ∧ (decode cX11_table 75 = .ok (.getfield 175, 3)) ∧ (decode cX11_table 78 = .ok (.ireturn, 1)) := by decide +kernel
theorem dX11_table_59 : decode cX11_table 59 = .ok (.getfield 175, 3) := dgX11_table_32.1
theorem dX11_table_62 : decode cX11_table 62 = .ok (.iload_n 2, 1) := dgX11_table_32.2.1
theorem dX11_table_63 : decode cX11_table 63 = .ok (.iastore, 1) := dgX11_table_32.2.2.1
theorem dX11_table_64 : decode cX11_table 64 = .ok (.aload_n 0, 1) := dgX11_table_32.2.2.2.1
theorem dX11_table_65 : decode cX11_table 65 = .ok (.dup, 1) := dgX11_table_32.2.2.2.2.1
theorem dX11_table_66 : decode cX11_table 66 = .ok (.getfield 175, 3) := dgX11_table_32.2.2.2.2.2.1
theorem dX11_table_69 : decode cX11_table 69 = .ok (.iconst 1, 1) := dgX11_table_32.2.2.2.2.2.2.1
theorem dX11_table_70 : decode cX11_table 70 = .ok (.iadd, 1) := dgX11_table_32.2.2.2.2.2.2.2.1
theorem dX11_table_71 : decode cX11_table 71 = .ok (.putfield 175, 3) := dgX11_table_32.2.2.2.2.2.2.2.2.1
theorem dX11_table_74 : decode cX11_table 74 = .ok (.aload_n 0, 1) := dgX11_table_32.2.2.2.2.2.2.2.2.2.1
theorem dX11_table_75 : decode cX11_table 75 = .ok (.getfield 175, 3) := dgX11_table_32.2.2.2.2.2.2.2.2.2.2.1
theorem dX11_table_78 : decode cX11_table 78 = .ok (.ireturn, 1) := dgX11_table_32.2.2.2.2.2.2.2.2.2.2.2
theorem dgX11_grain_0 : (decode cX11_grain 0 = .ok (.aload_n 0, 1)) ∧ (decode cX11_grain 1 = .ok (.iload_n 1, 1)) ∧ (decode cX11_grain 2 = .ok (.putfield 178, 3)) ∧ (decode cX11_grain 5 = .ok (.aload_n 0, 1)) ∧ (decode cX11_grain 6 = .ok (.iload_n 2, 1)) ∧ (decode cX11_grain 7 = .ok (.putfield 81, 3)) ∧ (decode cX11_grain 10 = .ok (.iconst 1, 1)) ∧ (decode cX11_grain 11 = .ok (.ireturn, 1)) := by decide +kernel
theorem dX11_grain_0 : decode cX11_grain 0 = .ok (.aload_n 0, 1) := dgX11_grain_0.1
theorem dX11_grain_1 : decode cX11_grain 1 = .ok (.iload_n 1, 1) := dgX11_grain_0.2.1
theorem dX11_grain_2 : decode cX11_grain 2 = .ok (.putfield 178, 3) := dgX11_grain_0.2.2.1
theorem dX11_grain_5 : decode cX11_grain 5 = .ok (.aload_n 0, 1) := dgX11_grain_0.2.2.2.1
theorem dX11_grain_6 : decode cX11_grain 6 = .ok (.iload_n 2, 1) := dgX11_grain_0.2.2.2.2.1
theorem dX11_grain_7 : decode cX11_grain 7 = .ok (.putfield 81, 3) := dgX11_grain_0.2.2.2.2.2.1
theorem dX11_grain_10 : decode cX11_grain 10 = .ok (.iconst 1, 1) := dgX11_grain_0.2.2.2.2.2.2.1
theorem dX11_grain_11 : decode cX11_grain 11 = .ok (.ireturn, 1) := dgX11_grain_0.2.2.2.2.2.2.2
theorem dgX11_bounds_0 : (decode cX11_bounds 0 = .ok (.iload_n 1, 1)) ∧ (decode cX11_bounds 1 = .ok (.iconst 0, 1)) ∧ (decode cX11_bounds 2 = .ok (.iconst 5, 1)) ∧ (decode cX11_bounds 3 = .ok (.invokestatic 156, 3)) ∧ (decode cX11_bounds 6 = .ok (.ifCond .ne 5, 3)) ∧ (decode cX11_bounds 9 = .ok (.iconst 0, 1)) ∧ (decode cX11_bounds 10 = .ok (.ireturn, 1)) ∧ (decode cX11_bounds 11 = .ok (.aload_n 0, 1)) ∧ (decode cX11_bounds 12 = .ok (.getfield 85, 3)) ∧ (decode cX11_bounds 15 = .ok (.iload_n 1, 1)) ∧ (decode cX11_bounds 16 = .ok (.iload_n 2, 1)) ∧ (decode cX11_bounds 17 = .ok (.iastore, 1)) ∧ (decode cX11_bounds 18 = .ok (.aload_n 0, 1)) ∧ (decode cX11_bounds 19 = .ok (.getfield 88, 3)) ∧ (decode cX11_bounds 22 = .ok (.iload_n 1, 1)) ∧ (decode cX11_bounds 23 = .ok (.iload_n 3, 1)) := by decide +kernel
theorem dX11_bounds_0 : decode cX11_bounds 0 = .ok (.iload_n 1, 1) := dgX11_bounds_0.1
theorem dX11_bounds_1 : decode cX11_bounds 1 = .ok (.iconst 0, 1) := dgX11_bounds_0.2.1
theorem dX11_bounds_2 : decode cX11_bounds 2 = .ok (.iconst 5, 1) := dgX11_bounds_0.2.2.1
theorem dX11_bounds_3 : decode cX11_bounds 3 = .ok (.invokestatic 156, 3) := dgX11_bounds_0.2.2.2.1
theorem dX11_bounds_6 : decode cX11_bounds 6 = .ok (.ifCond .ne 5, 3) := dgX11_bounds_0.2.2.2.2.1
theorem dX11_bounds_9 : decode cX11_bounds 9 = .ok (.iconst 0, 1) := dgX11_bounds_0.2.2.2.2.2.1
theorem dX11_bounds_10 : decode cX11_bounds 10 = .ok (.ireturn, 1) := dgX11_bounds_0.2.2.2.2.2.2.1
theorem dX11_bounds_11 : decode cX11_bounds 11 = .ok (.aload_n 0, 1) := dgX11_bounds_0.2.2.2.2.2.2.2.1
theorem dX11_bounds_12 : decode cX11_bounds 12 = .ok (.getfield 85, 3) := dgX11_bounds_0.2.2.2.2.2.2.2.2.1
theorem dX11_bounds_15 : decode cX11_bounds 15 = .ok (.iload_n 1, 1) := dgX11_bounds_0.2.2.2.2.2.2.2.2.2.1
theorem dX11_bounds_16 : decode cX11_bounds 16 = .ok (.iload_n 2, 1) := dgX11_bounds_0.2.2.2.2.2.2.2.2.2.2.1
theorem dX11_bounds_17 : decode cX11_bounds 17 = .ok (.iastore, 1) := dgX11_bounds_0.2.2.2.2.2.2.2.2.2.2.2.1
theorem dX11_bounds_18 : decode cX11_bounds 18 = .ok (.aload_n 0, 1) := dgX11_bounds_0.2.2.2.2.2.2.2.2.2.2.2.2.1
theorem dX11_bounds_19 : decode cX11_bounds 19 = .ok (.getfield 88, 3) := dgX11_bounds_0.2.2.2.2.2.2.2.2.2.2.2.2.2.1
theorem dX11_bounds_22 : decode cX11_bounds 22 = .ok (.iload_n 1, 1) := dgX11_bounds_0.2.2.2.2.2.2.2.2.2.2.2.2.2.2.1
theorem dX11_bounds_23 : decode cX11_bounds 23 = .ok (.iload_n 3, 1) := dgX11_bounds_0.2.2.2.2.2.2.2.2.2.2.2.2.2.2.2
theorem dgX11_bounds_16 : (decode cX11_bounds 24 = .ok (.iastore, 1)) ∧ (decode cX11_bounds 25 = .ok (.iconst 1, 1)) ∧ (decode cX11_bounds 26 = .ok (.ireturn, 1)) := by decide +kernel
theorem dX11_bounds_24 : decode cX11_bounds 24 = .ok (.iastore, 1) := dgX11_bounds_16.1
theorem dX11_bounds_25 : decode cX11_bounds 25 = .ok (.iconst 1, 1) := dgX11_bounds_16.2.1
theorem dX11_bounds_26 : decode cX11_bounds 26 = .ok (.ireturn, 1) := dgX11_bounds_16.2.2
theorem dgX11_isRead_0 : (decode cX11_isRead 0 = .ok (.aload_n 0, 1)) ∧ (decode cX11_isRead 1 = .ok (.getfield 68, 3)) ∧ (decode cX11_isRead 4 = .ok (.bipush 60, 2)) ∧ (decode cX11_isRead 6 = .ok (.iload_n 1, 1)) ∧ (decode cX11_isRead 7 = .ok (.imul, 1)) ∧ (decode cX11_isRead 8 = .ok (.iload_n 2, 1)) ∧ (decode cX11_isRead 9 = .ok (.iadd, 1)) ∧ (decode cX11_isRead 10 = .ok (.faload, 1)) ∧ (decode cX11_isRead 11 = .ok (.fstore_n 3, 1)) ∧ (decode cX11_isRead 12 = .ok (.iload_n 2, 1)) ∧ (decode cX11_isRead 13 = .ok (.aload_n 0, 1)) ∧ (decode cX11_isRead 14 = .ok (.getfield 62, 3)) ∧ (decode cX11_isRead 17 = .ok (.iload_n 1, 1)) ∧ (decode cX11_isRead 18 = .ok (.iaload, 1)) ∧ (decode cX11_isRead 19 = .ok (.if_icmp .ge 13, 3)) ∧ (decode cX11_isRead 22 = .ok (.fload_n 3, 1)) := by decide +kernel
theorem dX11_isRead_0 : decode cX11_isRead 0 = .ok (.aload_n 0, 1) := dgX11_isRead_0.1
theorem dX11_isRead_1 : decode cX11_isRead 1 = .ok (.getfield 68, 3) := dgX11_isRead_0.2.1
theorem dX11_isRead_4 : decode cX11_isRead 4 = .ok (.bipush 60, 2) := dgX11_isRead_0.2.2.1
theorem dX11_isRead_6 : decode cX11_isRead 6 = .ok (.iload_n 1, 1) := dgX11_isRead_0.2.2.2.1
theorem dX11_isRead_7 : decode cX11_isRead 7 = .ok (.imul, 1) := dgX11_isRead_0.2.2.2.2.1
theorem dX11_isRead_8 : decode cX11_isRead 8 = .ok (.iload_n 2, 1) := dgX11_isRead_0.2.2.2.2.2.1
theorem dX11_isRead_9 : decode cX11_isRead 9 = .ok (.iadd, 1) := dgX11_isRead_0.2.2.2.2.2.2.1
theorem dX11_isRead_10 : decode cX11_isRead 10 = .ok (.faload, 1) := dgX11_isRead_0.2.2.2.2.2.2.2.1
theorem dX11_isRead_11 : decode cX11_isRead 11 = .ok (.fstore_n 3, 1) := dgX11_isRead_0.2.2.2.2.2.2.2.2.1
theorem dX11_isRead_12 : decode cX11_isRead 12 = .ok (.iload_n 2, 1) := dgX11_isRead_0.2.2.2.2.2.2.2.2.2.1
theorem dX11_isRead_13 : decode cX11_isRead 13 = .ok (.aload_n 0, 1) := dgX11_isRead_0.2.2.2.2.2.2.2.2.2.2.1
theorem dX11_isRead_14 : decode cX11_isRead 14 = .ok (.getfield 62, 3) := dgX11_isRead_0.2.2.2.2.2.2.2.2.2.2.2.1
theorem dX11_isRead_17 : decode cX11_isRead 17 = .ok (.iload_n 1, 1) := dgX11_isRead_0.2.2.2.2.2.2.2.2.2.2.2.2.1
theorem dX11_isRead_18 : decode cX11_isRead 18 = .ok (.iaload, 1) := dgX11_isRead_0.2.2.2.2.2.2.2.2.2.2.2.2.2.1
theorem dX11_isRead_19 : decode cX11_isRead 19 = .ok (.if_icmp .ge 13, 3) := dgX11_isRead_0.2.2.2.2.2.2.2.2.2.2.2.2.2.2.1
theorem dX11_isRead_22 : decode cX11_isRead 22 = .ok (.fload_n 3, 1) := dgX11_isRead_0.2.2.2.2.2.2.2.2.2.2.2.2.2.2.2
theorem dgX11_isRead_16 : (decode cX11_isRead 23 = .ok (.fload_n 3, 1)) ∧ (decode cX11_isRead 24 = .ok (.fcmp .l, 1)) ∧ (decode cX11_isRead 25 = .ok (.ifCond .ne 7, 3)) ∧ (decode cX11_isRead 28 = .ok (.iconst 1, 1)) ∧ (decode cX11_isRead 29 = .ok (.goto 4, 3)) ∧ (decode cX11_isRead 32 = .ok (.iconst 0, 1)) ∧ (decode cX11_isRead 33 = .ok (.ireturn, 1)) := by decide +kernel
theorem dX11_isRead_23 : decode cX11_isRead 23 = .ok (.fload_n 3, 1) := dgX11_isRead_16.1
theorem dX11_isRead_24 : decode cX11_isRead 24 = .ok (.fcmp .l, 1) := dgX11_isRead_16.2.1
theorem dX11_isRead_25 : decode cX11_isRead 25 = .ok (.ifCond .ne 7, 3) := dgX11_isRead_16.2.2.1
theorem dX11_isRead_28 : decode cX11_isRead 28 = .ok (.iconst 1, 1) := dgX11_isRead_16.2.2.2.1
theorem dX11_isRead_29 : decode cX11_isRead 29 = .ok (.goto 4, 3) := dgX11_isRead_16.2.2.2.2.1
theorem dX11_isRead_32 : decode cX11_isRead 32 = .ok (.iconst 0, 1) := dgX11_isRead_16.2.2.2.2.2.1
theorem dX11_isRead_33 : decode cX11_isRead 33 = .ok (.ireturn, 1) := dgX11_isRead_16.2.2.2.2.2.2
theorem dgX11_degree_0 : (decode cX11_degree 0 = .ok (.ldc 181, 2)) ∧ (decode cX11_degree 2 = .ok (.aload_n 0, 1)) ∧ (decode cX11_degree 3 = .ok (.getfield 68, 3)) ∧ (decode cX11_degree 6 = .ok (.bipush 60, 2)) ∧ (decode cX11_degree 8 = .ok (.iload_n 1, 1)) ∧ (decode cX11_degree 9 = .ok (.imul, 1)) ∧ (decode cX11_degree 10 = .ok (.iload_n 2, 1)) ∧ (decode cX11_degree 11 = .ok (.iadd, 1)) ∧ (decode cX11_degree 12 = .ok (.faload, 1)) ∧ (decode cX11_degree 13 = .ok (.fmul, 1)) ∧ (decode cX11_degree 14 = .ok (.f2i, 1)) ∧ (decode cX11_degree 15 = .ok (.ireturn, 1)) := by decide +kernel
theorem dX11_degree_0 : decode cX11_degree 0 = .ok (.ldc 181, 2) := dgX11_degree_0.1
theorem dX11_degree_2 : decode cX11_degree 2 = .ok (.aload_n 0, 1) := dgX11_degree_0.2.1
theorem dX11_degree_3 : decode cX11_degree 3 = .ok (.getfield 68, 3) := dgX11_degree_0.2.2.1
theorem dX11_degree_6 : decode cX11_degree 6 = .ok (.bipush 60, 2) := dgX11_degree_0.2.2.2.1
theorem dX11_degree_8 : decode cX11_degree 8 = .ok (.iload_n 1, 1) := dgX11_degree_0.2.2.2.2.1
theorem dX11_degree_9 : decode cX11_degree 9 = .ok (.imul, 1) := dgX11_degree_0.2.2.2.2.2.1
theorem dX11_degree_10 : decode cX11_degree 10 = .ok (.iload_n 2, 1) := dgX11_degree_0.2.2.2.2.2.2.1
theorem dX11_degree_11 : decode cX11_degree 11 = .ok (.iadd, 1) := dgX11_degree_0.2.2.2.2.2.2.2.1
theorem dX11_degree_12 : decode cX11_degree 12 = .ok (.faload, 1) := dgX11_degree_0.2.2.2.2.2.2.2.2.1
theorem dX11_degree_13 : decode cX11_degree 13 = .ok (.fmul, 1) := dgX11_degree_0.2.2.2.2.2.2.2.2.2.1
theorem dX11_degree_14 : decode cX11_degree 14 = .ok (.f2i, 1) := dgX11_degree_0.2.2.2.2.2.2.2.2.2.2.1
theorem dX11_degree_15 : decode cX11_degree 15 = .ok (.ireturn, 1) := dgX11_degree_0.2.2.2.2.2.2.2.2.2.2.2
theorem dgX11_lossOf_0 : (decode cX11_lossOf 0 = .ok (.iconst 0, 1)) ∧ (decode cX11_lossOf 1 = .ok (.istore_n 3, 1)) ∧ (decode cX11_lossOf 2 = .ok (.iconst 0, 1)) ∧ (decode cX11_lossOf 3 = .ok (.istore 4, 2)) ∧ (decode cX11_lossOf 5 = .ok (.iload 4, 2)) ∧ (decode cX11_lossOf 7 = .ok (.aload_n 0, 1)) ∧ (decode cX11_lossOf 8 = .ok (.getfield 175, 3)) ∧ (decode cX11_lossOf 11 = .ok (.if_icmp .ge 37, 3)) ∧ (decode cX11_lossOf 14 = .ok (.iload_n 2, 1)) ∧ (decode cX11_lossOf 15 = .ok (.ifCond .eq 33, 3)) ∧ (decode cX11_lossOf 18 = .ok (.aload_n 0, 1)) ∧ (decode cX11_lossOf 19 = .ok (.getfield 75, 3)) ∧ (decode cX11_lossOf 22 = .ok (.iload 4, 2)) ∧ (decode cX11_lossOf 24 = .ok (.iaload, 1)) ∧ (decode cX11_lossOf 25 = .ok (.aload_n 0, 1)) ∧ (decode cX11_lossOf 26 = .ok (.getfield 31, 3)) := by decide +kernel
theorem dX11_lossOf_0 : decode cX11_lossOf 0 = .ok (.iconst 0, 1) := dgX11_lossOf_0.1
theorem dX11_lossOf_1 : decode cX11_lossOf 1 = .ok (.istore_n 3, 1) := dgX11_lossOf_0.2.1
theorem dX11_lossOf_2 : decode cX11_lossOf 2 = .ok (.iconst 0, 1) := dgX11_lossOf_0.2.2.1
theorem dX11_lossOf_3 : decode cX11_lossOf 3 = .ok (.istore 4, 2) := dgX11_lossOf_0.2.2.2.1
theorem dX11_lossOf_5 : decode cX11_lossOf 5 = .ok (.iload 4, 2) := dgX11_lossOf_0.2.2.2.2.1
theorem dX11_lossOf_7 : decode cX11_lossOf 7 = .ok (.aload_n 0, 1) := dgX11_lossOf_0.2.2.2.2.2.1
theorem dX11_lossOf_8 : decode cX11_lossOf 8 = .ok (.getfield 175, 3) := dgX11_lossOf_0.2.2.2.2.2.2.1
theorem dX11_lossOf_11 : decode cX11_lossOf 11 = .ok (.if_icmp .ge 37, 3) := dgX11_lossOf_0.2.2.2.2.2.2.2.1
theorem dX11_lossOf_14 : decode cX11_lossOf 14 = .ok (.iload_n 2, 1) := dgX11_lossOf_0.2.2.2.2.2.2.2.2.1
theorem dX11_lossOf_15 : decode cX11_lossOf 15 = .ok (.ifCond .eq 33, 3) := dgX11_lossOf_0.2.2.2.2.2.2.2.2.2.1
theorem dX11_lossOf_18 : decode cX11_lossOf 18 = .ok (.aload_n 0, 1) := dgX11_lossOf_0.2.2.2.2.2.2.2.2.2.2.1
theorem dX11_lossOf_19 : decode cX11_lossOf 19 = .ok (.getfield 75, 3) := dgX11_lossOf_0.2.2.2.2.2.2.2.2.2.2.2.1
theorem dX11_lossOf_22 : decode cX11_lossOf 22 = .ok (.iload 4, 2) := dgX11_lossOf_0.2.2.2.2.2.2.2.2.2.2.2.2.1
theorem dX11_lossOf_24 : decode cX11_lossOf 24 = .ok (.iaload, 1) := dgX11_lossOf_0.2.2.2.2.2.2.2.2.2.2.2.2.2.1
theorem dX11_lossOf_25 : decode cX11_lossOf 25 = .ok (.aload_n 0, 1) := dgX11_lossOf_0.2.2.2.2.2.2.2.2.2.2.2.2.2.2.1
theorem dX11_lossOf_26 : decode cX11_lossOf 26 = .ok (.getfield 31, 3) := dgX11_lossOf_0.2.2.2.2.2.2.2.2.2.2.2.2.2.2.2
theorem dgX11_lossOf_16 : (decode cX11_lossOf 29 = .ok (.iload_n 1, 1)) ∧ (decode cX11_lossOf 30 = .ok (.iaload, 1)) ∧ (decode cX11_lossOf 31 = .ok (.if_icmp .gt 11, 3)) ∧ (decode cX11_lossOf 34 = .ok (.aload_n 0, 1)) ∧ (decode cX11_lossOf 35 = .ok (.getfield 78, 3)) ∧ (decode cX11_lossOf 38 = .ok (.iload 4, 2)) ∧ (decode cX11_lossOf 40 = .ok (.iaload, 1)) ∧ (decode cX11_lossOf 41 = .ok (.istore_n 3, 1)) ∧ (decode cX11_lossOf 42 = .ok (.iinc 4 1, 3)) ∧ (decode cX11_lossOf 45 = .ok (.goto (-40), 3)) ∧ (decode cX11_lossOf 48 = .ok (.iload_n 3, 1)) ∧ (decode cX11_lossOf 49 = .ok (.ireturn, 1)) := by decide +kernel
theorem dX11_lossOf_29 : decode cX11_lossOf 29 = .ok (.iload_n 1, 1) := dgX11_lossOf_16.1
theorem dX11_lossOf_30 : decode cX11_lossOf 30 = .ok (.iaload, 1) := dgX11_lossOf_16.2.1
theorem dX11_lossOf_31 : decode cX11_lossOf 31 = .ok (.if_icmp .gt 11, 3) := dgX11_lossOf_16.2.2.1
theorem dX11_lossOf_34 : decode cX11_lossOf 34 = .ok (.aload_n 0, 1) := dgX11_lossOf_16.2.2.2.1
theorem dX11_lossOf_35 : decode cX11_lossOf 35 = .ok (.getfield 78, 3) := dgX11_lossOf_16.2.2.2.2.1
theorem dX11_lossOf_38 : decode cX11_lossOf 38 = .ok (.iload 4, 2) := dgX11_lossOf_16.2.2.2.2.2.1
theorem dX11_lossOf_40 : decode cX11_lossOf 40 = .ok (.iaload, 1) := dgX11_lossOf_16.2.2.2.2.2.2.1
theorem dX11_lossOf_41 : decode cX11_lossOf 41 = .ok (.istore_n 3, 1) := dgX11_lossOf_16.2.2.2.2.2.2.2.1
theorem dX11_lossOf_42 : decode cX11_lossOf 42 = .ok (.iinc 4 1, 3) := dgX11_lossOf_16.2.2.2.2.2.2.2.2.1
theorem dX11_lossOf_45 : decode cX11_lossOf 45 = .ok (.goto (-40), 3) := dgX11_lossOf_16.2.2.2.2.2.2.2.2.2.1
theorem dX11_lossOf_48 : decode cX11_lossOf 48 = .ok (.iload_n 3, 1) := dgX11_lossOf_16.2.2.2.2.2.2.2.2.2.2.1
theorem dX11_lossOf_49 : decode cX11_lossOf 49 = .ok (.ireturn, 1) := dgX11_lossOf_16.2.2.2.2.2.2.2.2.2.2.2
theorem dgX11_cook_0 : (decode cX11_cook 0 = .ok (.aload_n 0, 1)) ∧ (decode cX11_cook 1 = .ok (.iload_n 1, 1)) ∧ (decode cX11_cook 2 = .ok (.invokevirtual 165, 3)) ∧ (decode cX11_cook 5 = .ok (.ifCond .eq 31, 3)) ∧ (decode cX11_cook 8 = .ok (.iload_n 2, 1)) ∧ (decode cX11_cook 9 = .ok (.iconst 1, 1)) ∧ (decode cX11_cook 10 = .ok (.bipush 60, 2)) ∧ (decode cX11_cook 12 = .ok (.invokestatic 156, 3)) ∧ (decode cX11_cook 15 = .ok (.ifCond .eq 21, 3)) ∧ (decode cX11_cook 18 = .ok (.aload_n 0, 1)) ∧ (decode cX11_cook 19 = .ok (.getfield 40, 3)) ∧ (decode cX11_cook 22 = .ok (.iload_n 1, 1)) ∧ (decode cX11_cook 23 = .ok (.baload, 1)) ∧ (decode cX11_cook 24 = .ok (.ifCond .ne 12, 3)) ∧ (decode cX11_cook 27 = .ok (.aload_n 0, 1)) ∧ (decode cX11_cook 28 = .ok (.getfield 19, 3)) := by decide +kernel
theorem dX11_cook_0 : decode cX11_cook 0 = .ok (.aload_n 0, 1) := dgX11_cook_0.1
theorem dX11_cook_1 : decode cX11_cook 1 = .ok (.iload_n 1, 1) := dgX11_cook_0.2.1
theorem dX11_cook_2 : decode cX11_cook 2 = .ok (.invokevirtual 165, 3) := dgX11_cook_0.2.2.1
theorem dX11_cook_5 : decode cX11_cook 5 = .ok (.ifCond .eq 31, 3) := dgX11_cook_0.2.2.2.1
theorem dX11_cook_8 : decode cX11_cook 8 = .ok (.iload_n 2, 1) := dgX11_cook_0.2.2.2.2.1
theorem dX11_cook_9 : decode cX11_cook 9 = .ok (.iconst 1, 1) := dgX11_cook_0.2.2.2.2.2.1
theorem dX11_cook_10 : decode cX11_cook 10 = .ok (.bipush 60, 2) := dgX11_cook_0.2.2.2.2.2.2.1
theorem dX11_cook_12 : decode cX11_cook 12 = .ok (.invokestatic 156, 3) := dgX11_cook_0.2.2.2.2.2.2.2.1
theorem dX11_cook_15 : decode cX11_cook 15 = .ok (.ifCond .eq 21, 3) := dgX11_cook_0.2.2.2.2.2.2.2.2.1
theorem dX11_cook_18 : decode cX11_cook 18 = .ok (.aload_n 0, 1) := dgX11_cook_0.2.2.2.2.2.2.2.2.2.1
theorem dX11_cook_19 : decode cX11_cook 19 = .ok (.getfield 40, 3) := dgX11_cook_0.2.2.2.2.2.2.2.2.2.2.1
theorem dX11_cook_22 : decode cX11_cook 22 = .ok (.iload_n 1, 1) := dgX11_cook_0.2.2.2.2.2.2.2.2.2.2.2.1
theorem dX11_cook_23 : decode cX11_cook 23 = .ok (.baload, 1) := dgX11_cook_0.2.2.2.2.2.2.2.2.2.2.2.2.1
theorem dX11_cook_24 : decode cX11_cook 24 = .ok (.ifCond .ne 12, 3) := dgX11_cook_0.2.2.2.2.2.2.2.2.2.2.2.2.2.1
theorem dX11_cook_27 : decode cX11_cook 27 = .ok (.aload_n 0, 1) := dgX11_cook_0.2.2.2.2.2.2.2.2.2.2.2.2.2.2.1
theorem dX11_cook_28 : decode cX11_cook 28 = .ok (.getfield 19, 3) := dgX11_cook_0.2.2.2.2.2.2.2.2.2.2.2.2.2.2.2
theorem dgX11_cook_16 : (decode cX11_cook 31 = .ok (.iload_n 1, 1)) ∧ (decode cX11_cook 32 = .ok (.iaload, 1)) ∧ (decode cX11_cook 33 = .ok (.ifCond .ne 5, 3)) ∧ (decode cX11_cook 36 = .ok (.iconst (-1), 1)) ∧ (decode cX11_cook 37 = .ok (.ireturn, 1)) ∧ (decode cX11_cook 38 = .ok (.aload_n 0, 1)) ∧ (decode cX11_cook 39 = .ok (.getfield 40, 3)) ∧ (decode cX11_cook 42 = .ok (.iload_n 1, 1)) ∧ (decode cX11_cook 43 = .ok (.iconst 1, 1)) ∧ (decode cX11_cook 44 = .ok (.bastore, 1)) ∧ (decode cX11_cook 45 = .ok (.iload_n 2, 1)) ∧ (decode cX11_cook 46 = .ok (.istore_n 3, 1)) ∧ (decode cX11_cook 47 = .ok (.aload_n 0, 1)) ∧ (decode cX11_cook 48 = .ok (.getfield 62, 3)) ∧ (decode cX11_cook 51 = .ok (.iload_n 1, 1)) ∧ (decode cX11_cook 52 = .ok (.iaload, 1)) := by decide +kernel
theorem dX11_cook_31 : decode cX11_cook 31 = .ok (.iload_n 1, 1) := dgX11_cook_16.1
theorem dX11_cook_32 : decode cX11_cook 32 = .ok (.iaload, 1) := dgX11_cook_16.2.1
theorem dX11_cook_33 : decode cX11_cook 33 = .ok (.ifCond .ne 5, 3) := dgX11_cook_16.2.2.1
theorem dX11_cook_36 : decode cX11_cook 36 = .ok (.iconst (-1), 1) := dgX11_cook_16.2.2.2.1
theorem dX11_cook_37 : decode cX11_cook 37 = .ok (.ireturn, 1) := dgX11_cook_16.2.2.2.2.1
theorem dX11_cook_38 : decode cX11_cook 38 = .ok (.aload_n 0, 1) := dgX11_cook_16.2.2.2.2.2.1
theorem dX11_cook_39 : decode cX11_cook 39 = .ok (.getfield 40, 3) := dgX11_cook_16.2.2.2.2.2.2.1
theorem dX11_cook_42 : decode cX11_cook 42 = .ok (.iload_n 1, 1) := dgX11_cook_16.2.2.2.2.2.2.2.1
theorem dX11_cook_43 : decode cX11_cook 43 = .ok (.iconst 1, 1) := dgX11_cook_16.2.2.2.2.2.2.2.2.1
theorem dX11_cook_44 : decode cX11_cook 44 = .ok (.bastore, 1) := dgX11_cook_16.2.2.2.2.2.2.2.2.2.1
theorem dX11_cook_45 : decode cX11_cook 45 = .ok (.iload_n 2, 1) := dgX11_cook_16.2.2.2.2.2.2.2.2.2.2.1
theorem dX11_cook_46 : decode cX11_cook 46 = .ok (.istore_n 3, 1) := dgX11_cook_16.2.2.2.2.2.2.2.2.2.2.2.1
theorem dX11_cook_47 : decode cX11_cook 47 = .ok (.aload_n 0, 1) := dgX11_cook_16.2.2.2.2.2.2.2.2.2.2.2.2.1
theorem dX11_cook_48 : decode cX11_cook 48 = .ok (.getfield 62, 3) := dgX11_cook_16.2.2.2.2.2.2.2.2.2.2.2.2.2.1
theorem dX11_cook_51 : decode cX11_cook 51 = .ok (.iload_n 1, 1) := dgX11_cook_16.2.2.2.2.2.2.2.2.2.2.2.2.2.2.1
theorem dX11_cook_52 : decode cX11_cook 52 = .ok (.iaload, 1) := dgX11_cook_16.2.2.2.2.2.2.2.2.2.2.2.2.2.2.2
theorem dgX11_cook_32 : (decode cX11_cook 53 = .ok (.iload_n 2, 1)) ∧ (decode cX11_cook 54 = .ok (.if_icmp .ge 30, 3)) ∧ (decode cX11_cook 57 = .ok (.aload_n 0, 1)) ∧ (decode cX11_cook 58 = .ok (.getfield 62, 3)) ∧ (decode cX11_cook 61 = .ok (.iload_n 1, 1)) ∧ (decode cX11_cook 62 = .ok (.iaload, 1)) ∧ (decode cX11_cook 63 = .ok (.ifCond .ge 7, 3)) ∧ (decode cX11_cook 66 = .ok (.iconst 0, 1)) ∧ (decode cX11_cook 67 = .ok (.goto 9, 3)) ∧ (decode cX11_cook 70 = .ok (.aload_n 0, 1)) ∧ (decode cX11_cook 71 = .ok (.getfield 62, 3)) ∧ (decode cX11_cook 74 = .ok (.iload_n 1, 1)) ∧ (decode cX11_cook 75 = .ok (.iaload, 1)) ∧ (decode cX11_cook 76 = .ok (.istore_n 3, 1)) ∧ (decode cX11_cook 77 = .ok (.aload_n 0, 1)) ∧ (decode cX11_cook 78 = .ok (.getfield 37, 3)) := by decide +kernel
theorem dX11_cook_53 : decode cX11_cook 53 = .ok (.iload_n 2, 1) := dgX11_cook_32.1
theorem dX11_cook_54 : decode cX11_cook 54 = .ok (.if_icmp .ge 30, 3) := dgX11_cook_32.2.1
theorem dX11_cook_57 : decode cX11_cook 57 = .ok (.aload_n 0, 1) := dgX11_cook_32.2.2.1
theorem dX11_cook_58 : decode cX11_cook 58 = .ok (.getfield 62, 3) := dgX11_cook_32.2.2.2.1
theorem dX11_cook_61 : decode cX11_cook 61 = .ok (.iload_n 1, 1) := dgX11_cook_32.2.2.2.2.1
theorem dX11_cook_62 : decode cX11_cook 62 = .ok (.iaload, 1) := dgX11_cook_32.2.2.2.2.2.1
theorem dX11_cook_63 : decode cX11_cook 63 = .ok (.ifCond .ge 7, 3) := dgX11_cook_32.2.2.2.2.2.2.1
theorem dX11_cook_66 : decode cX11_cook 66 = .ok (.iconst 0, 1) := dgX11_cook_32.2.2.2.2.2.2.2.1
theorem dX11_cook_67 : decode cX11_cook 67 = .ok (.goto 9, 3) := dgX11_cook_32.2.2.2.2.2.2.2.2.1
theorem dX11_cook_70 : decode cX11_cook 70 = .ok (.aload_n 0, 1) := dgX11_cook_32.2.2.2.2.2.2.2.2.2.1
theorem dX11_cook_71 : decode cX11_cook 71 = .ok (.getfield 62, 3) := dgX11_cook_32.2.2.2.2.2.2.2.2.2.2.1
theorem dX11_cook_74 : decode cX11_cook 74 = .ok (.iload_n 1, 1) := dgX11_cook_32.2.2.2.2.2.2.2.2.2.2.2.1
theorem dX11_cook_75 : decode cX11_cook 75 = .ok (.iaload, 1) := dgX11_cook_32.2.2.2.2.2.2.2.2.2.2.2.2.1
theorem dX11_cook_76 : decode cX11_cook 76 = .ok (.istore_n 3, 1) := dgX11_cook_32.2.2.2.2.2.2.2.2.2.2.2.2.2.1
theorem dX11_cook_77 : decode cX11_cook 77 = .ok (.aload_n 0, 1) := dgX11_cook_32.2.2.2.2.2.2.2.2.2.2.2.2.2.2.1
theorem dX11_cook_78 : decode cX11_cook 78 = .ok (.getfield 37, 3) := dgX11_cook_32.2.2.2.2.2.2.2.2.2.2.2.2.2.2.2
theorem dgX11_cook_48 : (decode cX11_cook 81 = .ok (.iload_n 1, 1)) ∧ (decode cX11_cook 82 = .ok (.iload_n 3, 1)) ∧ (decode cX11_cook 83 = .ok (.iastore, 1)) ∧ (decode cX11_cook 84 = .ok (.iconst (-1), 1)) ∧ (decode cX11_cook 85 = .ok (.istore 4, 2)) ∧ (decode cX11_cook 87 = .ok (.iconst 0, 1)) ∧ (decode cX11_cook 88 = .ok (.istore 5, 2)) ∧ (decode cX11_cook 90 = .ok (.iload 5, 2)) ∧ (decode cX11_cook 92 = .ok (.iload_n 3, 1)) ∧ (decode cX11_cook 93 = .ok (.if_icmp .ge 60, 3)) ∧ (decode cX11_cook 96 = .ok (.aload_n 0, 1)) ∧ (decode cX11_cook 97 = .ok (.iload_n 1, 1)) ∧ (decode cX11_cook 98 = .ok (.iload 5, 2)) ∧ (decode cX11_cook 100 = .ok (.invokevirtual 182, 3)) ∧ (decode cX11_cook 103 = .ok (.ifCond .eq 44, 3)) ∧ (decode cX11_cook 106 = .ok (.iload 4, 2)) := by decide +kernel
theorem dX11_cook_81 : decode cX11_cook 81 = .ok (.iload_n 1, 1) := dgX11_cook_48.1
theorem dX11_cook_82 : decode cX11_cook 82 = .ok (.iload_n 3, 1) := dgX11_cook_48.2.1
theorem dX11_cook_83 : decode cX11_cook 83 = .ok (.iastore, 1) := dgX11_cook_48.2.2.1
theorem dX11_cook_84 : decode cX11_cook 84 = .ok (.iconst (-1), 1) := dgX11_cook_48.2.2.2.1
theorem dX11_cook_85 : decode cX11_cook 85 = .ok (.istore 4, 2) := dgX11_cook_48.2.2.2.2.1
theorem dX11_cook_87 : decode cX11_cook 87 = .ok (.iconst 0, 1) := dgX11_cook_48.2.2.2.2.2.1
theorem dX11_cook_88 : decode cX11_cook 88 = .ok (.istore 5, 2) := dgX11_cook_48.2.2.2.2.2.2.1
theorem dX11_cook_90 : decode cX11_cook 90 = .ok (.iload 5, 2) := dgX11_cook_48.2.2.2.2.2.2.2.1
theorem dX11_cook_92 : decode cX11_cook 92 = .ok (.iload_n 3, 1) := dgX11_cook_48.2.2.2.2.2.2.2.2.1
theorem dX11_cook_93 : decode cX11_cook 93 = .ok (.if_icmp .ge 60, 3) := dgX11_cook_48.2.2.2.2.2.2.2.2.2.1
theorem dX11_cook_96 : decode cX11_cook 96 = .ok (.aload_n 0, 1) := dgX11_cook_48.2.2.2.2.2.2.2.2.2.2.1
theorem dX11_cook_97 : decode cX11_cook 97 = .ok (.iload_n 1, 1) := dgX11_cook_48.2.2.2.2.2.2.2.2.2.2.2.1
theorem dX11_cook_98 : decode cX11_cook 98 = .ok (.iload 5, 2) := dgX11_cook_48.2.2.2.2.2.2.2.2.2.2.2.2.1
theorem dX11_cook_100 : decode cX11_cook 100 = .ok (.invokevirtual 182, 3) := dgX11_cook_48.2.2.2.2.2.2.2.2.2.2.2.2.2.1
theorem dX11_cook_103 : decode cX11_cook 103 = .ok (.ifCond .eq 44, 3) := dgX11_cook_48.2.2.2.2.2.2.2.2.2.2.2.2.2.2.1
theorem dX11_cook_106 : decode cX11_cook 106 = .ok (.iload 4, 2) := dgX11_cook_48.2.2.2.2.2.2.2.2.2.2.2.2.2.2.2
theorem dgX11_cook_64 : (decode cX11_cook 108 = .ok (.ifCond .lt 22, 3)) ∧ (decode cX11_cook 111 = .ok (.aload_n 0, 1)) ∧ (decode cX11_cook 112 = .ok (.iload_n 1, 1)) ∧ (decode cX11_cook 113 = .ok (.iload 5, 2)) ∧ (decode cX11_cook 115 = .ok (.invokevirtual 186, 3)) ∧ (decode cX11_cook 118 = .ok (.aload_n 0, 1)) ∧ (decode cX11_cook 119 = .ok (.getfield 31, 3)) ∧ (decode cX11_cook 122 = .ok (.iload_n 1, 1)) ∧ (decode cX11_cook 123 = .ok (.iaload, 1)) ∧ (decode cX11_cook 124 = .ok (.if_icmp .gt 6, 3)) ∧ (decode cX11_cook 127 = .ok (.goto 20, 3)) ∧ (decode cX11_cook 130 = .ok (.iload 5, 2)) ∧ (decode cX11_cook 132 = .ok (.istore 4, 2)) ∧ (decode cX11_cook 134 = .ok (.aload_n 0, 1)) ∧ (decode cX11_cook 135 = .ok (.getfield 31, 3)) ∧ (decode cX11_cook 138 = .ok (.iload_n 1, 1)) := by decide +kernel
theorem dX11_cook_108 : decode cX11_cook 108 = .ok (.ifCond .lt 22, 3) := dgX11_cook_64.1
theorem dX11_cook_111 : decode cX11_cook 111 = .ok (.aload_n 0, 1) := dgX11_cook_64.2.1
theorem dX11_cook_112 : decode cX11_cook 112 = .ok (.iload_n 1, 1) := dgX11_cook_64.2.2.1
theorem dX11_cook_113 : decode cX11_cook 113 = .ok (.iload 5, 2) := dgX11_cook_64.2.2.2.1
theorem dX11_cook_115 : decode cX11_cook 115 = .ok (.invokevirtual 186, 3) := dgX11_cook_64.2.2.2.2.1
theorem dX11_cook_118 : decode cX11_cook 118 = .ok (.aload_n 0, 1) := dgX11_cook_64.2.2.2.2.2.1
theorem dX11_cook_119 : decode cX11_cook 119 = .ok (.getfield 31, 3) := dgX11_cook_64.2.2.2.2.2.2.1
theorem dX11_cook_122 : decode cX11_cook 122 = .ok (.iload_n 1, 1) := dgX11_cook_64.2.2.2.2.2.2.2.1
theorem dX11_cook_123 : decode cX11_cook 123 = .ok (.iaload, 1) := dgX11_cook_64.2.2.2.2.2.2.2.2.1
theorem dX11_cook_124 : decode cX11_cook 124 = .ok (.if_icmp .gt 6, 3) := dgX11_cook_64.2.2.2.2.2.2.2.2.2.1
theorem dX11_cook_127 : decode cX11_cook 127 = .ok (.goto 20, 3) := dgX11_cook_64.2.2.2.2.2.2.2.2.2.2.1
theorem dX11_cook_130 : decode cX11_cook 130 = .ok (.iload 5, 2) := dgX11_cook_64.2.2.2.2.2.2.2.2.2.2.2.1
theorem dX11_cook_132 : decode cX11_cook 132 = .ok (.istore 4, 2) := dgX11_cook_64.2.2.2.2.2.2.2.2.2.2.2.2.1
theorem dX11_cook_134 : decode cX11_cook 134 = .ok (.aload_n 0, 1) := dgX11_cook_64.2.2.2.2.2.2.2.2.2.2.2.2.2.1
theorem dX11_cook_135 : decode cX11_cook 135 = .ok (.getfield 31, 3) := dgX11_cook_64.2.2.2.2.2.2.2.2.2.2.2.2.2.2.1
theorem dX11_cook_138 : decode cX11_cook 138 = .ok (.iload_n 1, 1) := dgX11_cook_64.2.2.2.2.2.2.2.2.2.2.2.2.2.2.2
theorem dgX11_cook_80 : (decode cX11_cook 139 = .ok (.aload_n 0, 1)) ∧ (decode cX11_cook 140 = .ok (.iload_n 1, 1)) ∧ (decode cX11_cook 141 = .ok (.iload 5, 2)) ∧ (decode cX11_cook 143 = .ok (.invokevirtual 186, 3)) ∧ (decode cX11_cook 146 = .ok (.iastore, 1)) ∧ (decode cX11_cook 147 = .ok (.iinc 5 1, 3)) ∧ (decode cX11_cook 150 = .ok (.goto (-60), 3)) ∧ (decode cX11_cook 153 = .ok (.iload 4, 2)) ∧ (decode cX11_cook 155 = .ok (.iconst 1, 1)) ∧ (decode cX11_cook 156 = .ok (.iadd, 1)) ∧ (decode cX11_cook 157 = .ok (.istore 5, 2)) ∧ (decode cX11_cook 159 = .ok (.iload 5, 2)) ∧ (decode cX11_cook 161 = .ok (.iload_n 3, 1)) ∧ (decode cX11_cook 162 = .ok (.if_icmp .ge 100, 3)) ∧ (decode cX11_cook 165 = .ok (.iload 4, 2)) ∧ (decode cX11_cook 167 = .ok (.ifCond .lt 95, 3)) := by decide +kernel
theorem dX11_cook_139 : decode cX11_cook 139 = .ok (.aload_n 0, 1) := dgX11_cook_80.1
theorem dX11_cook_140 : decode cX11_cook 140 = .ok (.iload_n 1, 1) := dgX11_cook_80.2.1
theorem dX11_cook_141 : decode cX11_cook 141 = .ok (.iload 5, 2) := dgX11_cook_80.2.2.1
theorem dX11_cook_143 : decode cX11_cook 143 = .ok (.invokevirtual 186, 3) := dgX11_cook_80.2.2.2.1
theorem dX11_cook_146 : decode cX11_cook 146 = .ok (.iastore, 1) := dgX11_cook_80.2.2.2.2.1
theorem dX11_cook_147 : decode cX11_cook 147 = .ok (.iinc 5 1, 3) := dgX11_cook_80.2.2.2.2.2.1
theorem dX11_cook_150 : decode cX11_cook 150 = .ok (.goto (-60), 3) := dgX11_cook_80.2.2.2.2.2.2.1
theorem dX11_cook_153 : decode cX11_cook 153 = .ok (.iload 4, 2) := dgX11_cook_80.2.2.2.2.2.2.2.1
theorem dX11_cook_155 : decode cX11_cook 155 = .ok (.iconst 1, 1) := dgX11_cook_80.2.2.2.2.2.2.2.2.1
theorem dX11_cook_156 : decode cX11_cook 156 = .ok (.iadd, 1) := dgX11_cook_80.2.2.2.2.2.2.2.2.2.1
theorem dX11_cook_157 : decode cX11_cook 157 = .ok (.istore 5, 2) := dgX11_cook_80.2.2.2.2.2.2.2.2.2.2.1
theorem dX11_cook_159 : decode cX11_cook 159 = .ok (.iload 5, 2) := dgX11_cook_80.2.2.2.2.2.2.2.2.2.2.2.1
theorem dX11_cook_161 : decode cX11_cook 161 = .ok (.iload_n 3, 1) := dgX11_cook_80.2.2.2.2.2.2.2.2.2.2.2.2.1
theorem dX11_cook_162 : decode cX11_cook 162 = .ok (.if_icmp .ge 100, 3) := dgX11_cook_80.2.2.2.2.2.2.2.2.2.2.2.2.2.1
theorem dX11_cook_165 : decode cX11_cook 165 = .ok (.iload 4, 2) := dgX11_cook_80.2.2.2.2.2.2.2.2.2.2.2.2.2.2.1
theorem dX11_cook_167 : decode cX11_cook 167 = .ok (.ifCond .lt 95, 3) := dgX11_cook_80.2.2.2.2.2.2.2.2.2.2.2.2.2.2.2
theorem dgX11_cook_96 : (decode cX11_cook 170 = .ok (.aload_n 0, 1)) ∧ (decode cX11_cook 171 = .ok (.getfield 34, 3)) ∧ (decode cX11_cook 174 = .ok (.iload_n 1, 1)) ∧ (decode cX11_cook 175 = .ok (.iaload, 1)) ∧ (decode cX11_cook 176 = .ok (.ifCond .ge 86, 3)) ∧ (decode cX11_cook 179 = .ok (.iload 5, 2)) ∧ (decode cX11_cook 181 = .ok (.aload_n 0, 1)) ∧ (decode cX11_cook 182 = .ok (.getfield 65, 3)) ∧ (decode cX11_cook 185 = .ok (.iload_n 1, 1)) ∧ (decode cX11_cook 186 = .ok (.iaload, 1)) ∧ (decode cX11_cook 187 = .ok (.if_icmp .ge 22, 3)) ∧ (decode cX11_cook 190 = .ok (.aload_n 0, 1)) ∧ (decode cX11_cook 191 = .ok (.getfield 72, 3)) ∧ (decode cX11_cook 194 = .ok (.bipush 60, 2)) ∧ (decode cX11_cook 196 = .ok (.iload_n 1, 1)) ∧ (decode cX11_cook 197 = .ok (.imul, 1)) := by decide +kernel
theorem dX11_cook_170 : decode cX11_cook 170 = .ok (.aload_n 0, 1) := dgX11_cook_96.1
theorem dX11_cook_171 : decode cX11_cook 171 = .ok (.getfield 34, 3) := dgX11_cook_96.2.1
theorem dX11_cook_174 : decode cX11_cook 174 = .ok (.iload_n 1, 1) := dgX11_cook_96.2.2.1
theorem dX11_cook_175 : decode cX11_cook 175 = .ok (.iaload, 1) := dgX11_cook_96.2.2.2.1
theorem dX11_cook_176 : decode cX11_cook 176 = .ok (.ifCond .ge 86, 3) := dgX11_cook_96.2.2.2.2.1
theorem dX11_cook_179 : decode cX11_cook 179 = .ok (.iload 5, 2) := dgX11_cook_96.2.2.2.2.2.1
theorem dX11_cook_181 : decode cX11_cook 181 = .ok (.aload_n 0, 1) := dgX11_cook_96.2.2.2.2.2.2.1
theorem dX11_cook_182 : decode cX11_cook 182 = .ok (.getfield 65, 3) := dgX11_cook_96.2.2.2.2.2.2.2.1
theorem dX11_cook_185 : decode cX11_cook 185 = .ok (.iload_n 1, 1) := dgX11_cook_96.2.2.2.2.2.2.2.2.1
theorem dX11_cook_186 : decode cX11_cook 186 = .ok (.iaload, 1) := dgX11_cook_96.2.2.2.2.2.2.2.2.2.1
theorem dX11_cook_187 : decode cX11_cook 187 = .ok (.if_icmp .ge 22, 3) := dgX11_cook_96.2.2.2.2.2.2.2.2.2.2.1
theorem dX11_cook_190 : decode cX11_cook 190 = .ok (.aload_n 0, 1) := dgX11_cook_96.2.2.2.2.2.2.2.2.2.2.2.1
theorem dX11_cook_191 : decode cX11_cook 191 = .ok (.getfield 72, 3) := dgX11_cook_96.2.2.2.2.2.2.2.2.2.2.2.2.1
theorem dX11_cook_194 : decode cX11_cook 194 = .ok (.bipush 60, 2) := dgX11_cook_96.2.2.2.2.2.2.2.2.2.2.2.2.2.1
theorem dX11_cook_196 : decode cX11_cook 196 = .ok (.iload_n 1, 1) := dgX11_cook_96.2.2.2.2.2.2.2.2.2.2.2.2.2.2.1
theorem dX11_cook_197 : decode cX11_cook 197 = .ok (.imul, 1) := dgX11_cook_96.2.2.2.2.2.2.2.2.2.2.2.2.2.2.2
theorem dgX11_cook_112 : (decode cX11_cook 198 = .ok (.iload 5, 2)) ∧ (decode cX11_cook 200 = .ok (.iadd, 1)) ∧ (decode cX11_cook 201 = .ok (.baload, 1)) ∧ (decode cX11_cook 202 = .ok (.ifCond .eq 7, 3)) ∧ (decode cX11_cook 205 = .ok (.iconst 1, 1)) ∧ (decode cX11_cook 206 = .ok (.goto 4, 3)) ∧ (decode cX11_cook 209 = .ok (.iconst 0, 1)) ∧ (decode cX11_cook 210 = .ok (.istore 6, 2)) ∧ (decode cX11_cook 212 = .ok (.iload 6, 2)) ∧ (decode cX11_cook 214 = .ok (.ifCond .eq 42, 3)) ∧ (decode cX11_cook 217 = .ok (.aload_n 0, 1)) ∧ (decode cX11_cook 218 = .ok (.iload_n 1, 1)) ∧ (decode cX11_cook 219 = .ok (.iload 5, 2)) ∧ (decode cX11_cook 221 = .ok (.invokevirtual 182, 3)) ∧ (decode cX11_cook 224 = .ok (.ifCond .eq 32, 3)) ∧ (decode cX11_cook 227 = .ok (.aload_n 0, 1)) := by decide +kernel
theorem dX11_cook_198 : decode cX11_cook 198 = .ok (.iload 5, 2) := dgX11_cook_112.1
theorem dX11_cook_200 : decode cX11_cook 200 = .ok (.iadd, 1) := dgX11_cook_112.2.1
theorem dX11_cook_201 : decode cX11_cook 201 = .ok (.baload, 1) := dgX11_cook_112.2.2.1
theorem dX11_cook_202 : decode cX11_cook 202 = .ok (.ifCond .eq 7, 3) := dgX11_cook_112.2.2.2.1
theorem dX11_cook_205 : decode cX11_cook 205 = .ok (.iconst 1, 1) := dgX11_cook_112.2.2.2.2.1
theorem dX11_cook_206 : decode cX11_cook 206 = .ok (.goto 4, 3) := dgX11_cook_112.2.2.2.2.2.1
theorem dX11_cook_209 : decode cX11_cook 209 = .ok (.iconst 0, 1) := dgX11_cook_112.2.2.2.2.2.2.1
theorem dX11_cook_210 : decode cX11_cook 210 = .ok (.istore 6, 2) := dgX11_cook_112.2.2.2.2.2.2.2.1
theorem dX11_cook_212 : decode cX11_cook 212 = .ok (.iload 6, 2) := dgX11_cook_112.2.2.2.2.2.2.2.2.1
theorem dX11_cook_214 : decode cX11_cook 214 = .ok (.ifCond .eq 42, 3) := dgX11_cook_112.2.2.2.2.2.2.2.2.2.1
theorem dX11_cook_217 : decode cX11_cook 217 = .ok (.aload_n 0, 1) := dgX11_cook_112.2.2.2.2.2.2.2.2.2.2.1
theorem dX11_cook_218 : decode cX11_cook 218 = .ok (.iload_n 1, 1) := dgX11_cook_112.2.2.2.2.2.2.2.2.2.2.2.1
theorem dX11_cook_219 : decode cX11_cook 219 = .ok (.iload 5, 2) := dgX11_cook_112.2.2.2.2.2.2.2.2.2.2.2.2.1
theorem dX11_cook_221 : decode cX11_cook 221 = .ok (.invokevirtual 182, 3) := dgX11_cook_112.2.2.2.2.2.2.2.2.2.2.2.2.2.1
theorem dX11_cook_224 : decode cX11_cook 224 = .ok (.ifCond .eq 32, 3) := dgX11_cook_112.2.2.2.2.2.2.2.2.2.2.2.2.2.2.1
theorem dX11_cook_227 : decode cX11_cook 227 = .ok (.aload_n 0, 1) := dgX11_cook_112.2.2.2.2.2.2.2.2.2.2.2.2.2.2.2
theorem dgX11_cook_128 : (decode cX11_cook 228 = .ok (.iload_n 1, 1)) ∧ (decode cX11_cook 229 = .ok (.iload 5, 2)) ∧ (decode cX11_cook 231 = .ok (.invokevirtual 186, 3)) ∧ (decode cX11_cook 234 = .ok (.aload_n 0, 1)) ∧ (decode cX11_cook 235 = .ok (.getfield 178, 3)) ∧ (decode cX11_cook 238 = .ok (.aload_n 0, 1)) ∧ (decode cX11_cook 239 = .ok (.getfield 81, 3)) ∧ (decode cX11_cook 242 = .ok (.invokestatic 156, 3)) ∧ (decode cX11_cook 245 = .ok (.ifCond .eq 11, 3)) ∧ (decode cX11_cook 248 = .ok (.aload_n 0, 1)) ∧ (decode cX11_cook 249 = .ok (.getfield 34, 3)) ∧ (decode cX11_cook 252 = .ok (.iload_n 1, 1)) ∧ (decode cX11_cook 253 = .ok (.iload 5, 2)) ∧ (decode cX11_cook 255 = .ok (.iastore, 1)) ∧ (decode cX11_cook 256 = .ok (.iinc 5 1, 3)) ∧ (decode cX11_cook 259 = .ok (.goto (-100), 3)) := by decide +kernel
theorem dX11_cook_228 : decode cX11_cook 228 = .ok (.iload_n 1, 1) := dgX11_cook_128.1
theorem dX11_cook_229 : decode cX11_cook 229 = .ok (.iload 5, 2) := dgX11_cook_128.2.1
theorem dX11_cook_231 : decode cX11_cook 231 = .ok (.invokevirtual 186, 3) := dgX11_cook_128.2.2.1
theorem dX11_cook_234 : decode cX11_cook 234 = .ok (.aload_n 0, 1) := dgX11_cook_128.2.2.2.1
theorem dX11_cook_235 : decode cX11_cook 235 = .ok (.getfield 178, 3) := dgX11_cook_128.2.2.2.2.1
theorem dX11_cook_238 : decode cX11_cook 238 = .ok (.aload_n 0, 1) := dgX11_cook_128.2.2.2.2.2.1
theorem dX11_cook_239 : decode cX11_cook 239 = .ok (.getfield 81, 3) := dgX11_cook_128.2.2.2.2.2.2.1
theorem dX11_cook_242 : decode cX11_cook 242 = .ok (.invokestatic 156, 3) := dgX11_cook_128.2.2.2.2.2.2.2.1
theorem dX11_cook_245 : decode cX11_cook 245 = .ok (.ifCond .eq 11, 3) := dgX11_cook_128.2.2.2.2.2.2.2.2.1
theorem dX11_cook_248 : decode cX11_cook 248 = .ok (.aload_n 0, 1) := dgX11_cook_128.2.2.2.2.2.2.2.2.2.1
theorem dX11_cook_249 : decode cX11_cook 249 = .ok (.getfield 34, 3) := dgX11_cook_128.2.2.2.2.2.2.2.2.2.2.1
theorem dX11_cook_252 : decode cX11_cook 252 = .ok (.iload_n 1, 1) := dgX11_cook_128.2.2.2.2.2.2.2.2.2.2.2.1
theorem dX11_cook_253 : decode cX11_cook 253 = .ok (.iload 5, 2) := dgX11_cook_128.2.2.2.2.2.2.2.2.2.2.2.2.1
theorem dX11_cook_255 : decode cX11_cook 255 = .ok (.iastore, 1) := dgX11_cook_128.2.2.2.2.2.2.2.2.2.2.2.2.2.1
theorem dX11_cook_256 : decode cX11_cook 256 = .ok (.iinc 5 1, 3) := dgX11_cook_128.2.2.2.2.2.2.2.2.2.2.2.2.2.2.1
theorem dX11_cook_259 : decode cX11_cook 259 = .ok (.goto (-100), 3) := dgX11_cook_128.2.2.2.2.2.2.2.2.2.2.2.2.2.2.2
theorem dgX11_cook_144 : (decode cX11_cook 262 = .ok (.aload_n 0, 1)) ∧ (decode cX11_cook 263 = .ok (.getfield 28, 3)) ∧ (decode cX11_cook 266 = .ok (.iload_n 1, 1)) ∧ (decode cX11_cook 267 = .ok (.aload_n 0, 1)) ∧ (decode cX11_cook 268 = .ok (.iload_n 1, 1)) ∧ (decode cX11_cook 269 = .ok (.iload 4, 2)) ∧ (decode cX11_cook 271 = .ok (.ifCond .lt 7, 3)) ∧ (decode cX11_cook 274 = .ok (.iconst 1, 1)) ∧ (decode cX11_cook 275 = .ok (.goto 4, 3)) ∧ (decode cX11_cook 278 = .ok (.iconst 0, 1)) ∧ (decode cX11_cook 279 = .ok (.invokevirtual 190, 3)) ∧ (decode cX11_cook 282 = .ok (.iastore, 1)) ∧ (decode cX11_cook 283 = .ok (.aload_n 0, 1)) ∧ (decode cX11_cook 284 = .ok (.getfield 25, 3)) ∧ (decode cX11_cook 287 = .ok (.iload_n 1, 1)) ∧ (decode cX11_cook 288 = .ok (.aload_n 0, 1)) := by decide +kernel
theorem dX11_cook_262 : decode cX11_cook 262 = .ok (.aload_n 0, 1) := dgX11_cook_144.1
theorem dX11_cook_263 : decode cX11_cook 263 = .ok (.getfield 28, 3) := dgX11_cook_144.2.1
theorem dX11_cook_266 : decode cX11_cook 266 = .ok (.iload_n 1, 1) := dgX11_cook_144.2.2.1
theorem dX11_cook_267 : decode cX11_cook 267 = .ok (.aload_n 0, 1) := dgX11_cook_144.2.2.2.1
theorem dX11_cook_268 : decode cX11_cook 268 = .ok (.iload_n 1, 1) := dgX11_cook_144.2.2.2.2.1
theorem dX11_cook_269 : decode cX11_cook 269 = .ok (.iload 4, 2) := dgX11_cook_144.2.2.2.2.2.1
theorem dX11_cook_271 : decode cX11_cook 271 = .ok (.ifCond .lt 7, 3) := dgX11_cook_144.2.2.2.2.2.2.1
theorem dX11_cook_274 : decode cX11_cook 274 = .ok (.iconst 1, 1) := dgX11_cook_144.2.2.2.2.2.2.2.1
theorem dX11_cook_275 : decode cX11_cook 275 = .ok (.goto 4, 3) := dgX11_cook_144.2.2.2.2.2.2.2.2.1
theorem dX11_cook_278 : decode cX11_cook 278 = .ok (.iconst 0, 1) := dgX11_cook_144.2.2.2.2.2.2.2.2.2.1
theorem dX11_cook_279 : decode cX11_cook 279 = .ok (.invokevirtual 190, 3) := dgX11_cook_144.2.2.2.2.2.2.2.2.2.2.1
theorem dX11_cook_282 : decode cX11_cook 282 = .ok (.iastore, 1) := dgX11_cook_144.2.2.2.2.2.2.2.2.2.2.2.1
theorem dX11_cook_283 : decode cX11_cook 283 = .ok (.aload_n 0, 1) := dgX11_cook_144.2.2.2.2.2.2.2.2.2.2.2.2.1
theorem dX11_cook_284 : decode cX11_cook 284 = .ok (.getfield 25, 3) := dgX11_cook_144.2.2.2.2.2.2.2.2.2.2.2.2.2.1
theorem dX11_cook_287 : decode cX11_cook 287 = .ok (.iload_n 1, 1) := dgX11_cook_144.2.2.2.2.2.2.2.2.2.2.2.2.2.2.1
theorem dX11_cook_288 : decode cX11_cook 288 = .ok (.aload_n 0, 1) := dgX11_cook_144.2.2.2.2.2.2.2.2.2.2.2.2.2.2.2
theorem dgX11_cook_160 : (decode cX11_cook 289 = .ok (.getfield 19, 3)) ∧ (decode cX11_cook 292 = .ok (.iload_n 1, 1)) ∧ (decode cX11_cook 293 = .ok (.iaload, 1)) ∧ (decode cX11_cook 294 = .ok (.i2l, 1)) ∧ (decode cX11_cook 295 = .ok (.aload_n 0, 1)) ∧ (decode cX11_cook 296 = .ok (.getfield 28, 3)) ∧ (decode cX11_cook 299 = .ok (.iload_n 1, 1)) ∧ (decode cX11_cook 300 = .ok (.iaload, 1)) ∧ (decode cX11_cook 301 = .ok (.i2l, 1)) ∧ (decode cX11_cook 302 = .ok (.lmul, 1)) ∧ (decode cX11_cook 303 = .ok (.ldc2_w 194, 3)) ∧ (decode cX11_cook 306 = .ok (.ldiv, 1)) ∧ (decode cX11_cook 307 = .ok (.l2i, 1)) ∧ (decode cX11_cook 308 = .ok (.iastore, 1)) ∧ (decode cX11_cook 309 = .ok (.aload_n 0, 1)) ∧ (decode cX11_cook 310 = .ok (.getfield 19, 3)) := by decide +kernel
theorem dX11_cook_289 : decode cX11_cook 289 = .ok (.getfield 19, 3) := dgX11_cook_160.1
theorem dX11_cook_292 : decode cX11_cook 292 = .ok (.iload_n 1, 1) := dgX11_cook_160.2.1
theorem dX11_cook_293 : decode cX11_cook 293 = .ok (.iaload, 1) := dgX11_cook_160.2.2.1
theorem dX11_cook_294 : decode cX11_cook 294 = .ok (.i2l, 1) := dgX11_cook_160.2.2.2.1
theorem dX11_cook_295 : decode cX11_cook 295 = .ok (.aload_n 0, 1) := dgX11_cook_160.2.2.2.2.1
theorem dX11_cook_296 : decode cX11_cook 296 = .ok (.getfield 28, 3) := dgX11_cook_160.2.2.2.2.2.1
theorem dX11_cook_299 : decode cX11_cook 299 = .ok (.iload_n 1, 1) := dgX11_cook_160.2.2.2.2.2.2.1
theorem dX11_cook_300 : decode cX11_cook 300 = .ok (.iaload, 1) := dgX11_cook_160.2.2.2.2.2.2.2.1
theorem dX11_cook_301 : decode cX11_cook 301 = .ok (.i2l, 1) := dgX11_cook_160.2.2.2.2.2.2.2.2.1
theorem dX11_cook_302 : decode cX11_cook 302 = .ok (.lmul, 1) := dgX11_cook_160.2.2.2.2.2.2.2.2.2.1
theorem dX11_cook_303 : decode cX11_cook 303 = .ok (.ldc2_w 194, 3) := dgX11_cook_160.2.2.2.2.2.2.2.2.2.2.1
theorem dX11_cook_306 : decode cX11_cook 306 = .ok (.ldiv, 1) := dgX11_cook_160.2.2.2.2.2.2.2.2.2.2.2.1
theorem dX11_cook_307 : decode cX11_cook 307 = .ok (.l2i, 1) := dgX11_cook_160.2.2.2.2.2.2.2.2.2.2.2.2.1
theorem dX11_cook_308 : decode cX11_cook 308 = .ok (.iastore, 1) := dgX11_cook_160.2.2.2.2.2.2.2.2.2.2.2.2.2.1
theorem dX11_cook_309 : decode cX11_cook 309 = .ok (.aload_n 0, 1) := dgX11_cook_160.2.2.2.2.2.2.2.2.2.2.2.2.2.2.1
theorem dX11_cook_310 : decode cX11_cook 310 = .ok (.getfield 19, 3) := dgX11_cook_160.2.2.2.2.2.2.2.2.2.2.2.2.2.2.2
theorem dgX11_cook_176 : (decode cX11_cook 313 = .ok (.iload_n 1, 1)) ∧ (decode cX11_cook 314 = .ok (.dup2, 1)) ∧ (decode cX11_cook 315 = .ok (.iaload, 1)) ∧ (decode cX11_cook 316 = .ok (.aload_n 0, 1)) ∧ (decode cX11_cook 317 = .ok (.getfield 25, 3)) ∧ (decode cX11_cook 320 = .ok (.iload_n 1, 1)) ∧ (decode cX11_cook 321 = .ok (.iaload, 1)) ∧ (decode cX11_cook 322 = .ok (.isub, 1)) ∧ (decode cX11_cook 323 = .ok (.iastore, 1)) ∧ (decode cX11_cook 324 = .ok (.aload_n 0, 1)) ∧ (decode cX11_cook 325 = .ok (.getfield 19, 3)) ∧ (decode cX11_cook 328 = .ok (.iload_n 1, 1)) ∧ (decode cX11_cook 329 = .ok (.iaload, 1)) ∧ (decode cX11_cook 330 = .ok (.ireturn, 1)) := by decide +kernel
theorem dX11_cook_313 : decode cX11_cook 313 = .ok (.iload_n 1, 1) := dgX11_cook_176.1
theorem dX11_cook_314 : decode cX11_cook 314 = .ok (.dup2, 1) := dgX11_cook_176.2.1
theorem dX11_cook_315 : decode cX11_cook 315 = .ok (.iaload, 1) := dgX11_cook_176.2.2.1
theorem dX11_cook_316 : decode cX11_cook 316 = .ok (.aload_n 0, 1) := dgX11_cook_176.2.2.2.1
theorem dX11_cook_317 : decode cX11_cook 317 = .ok (.getfield 25, 3) := dgX11_cook_176.2.2.2.2.1
theorem dX11_cook_320 : decode cX11_cook 320 = .ok (.iload_n 1, 1) := dgX11_cook_176.2.2.2.2.2.1
theorem dX11_cook_321 : decode cX11_cook 321 = .ok (.iaload, 1) := dgX11_cook_176.2.2.2.2.2.2.1
theorem dX11_cook_322 : decode cX11_cook 322 = .ok (.isub, 1) := dgX11_cook_176.2.2.2.2.2.2.2.1
theorem dX11_cook_323 : decode cX11_cook 323 = .ok (.iastore, 1) := dgX11_cook_176.2.2.2.2.2.2.2.2.1
theorem dX11_cook_324 : decode cX11_cook 324 = .ok (.aload_n 0, 1) := dgX11_cook_176.2.2.2.2.2.2.2.2.2.1
theorem dX11_cook_325 : decode cX11_cook 325 = .ok (.getfield 19, 3) := dgX11_cook_176.2.2.2.2.2.2.2.2.2.2.1
theorem dX11_cook_328 : decode cX11_cook 328 = .ok (.iload_n 1, 1) := dgX11_cook_176.2.2.2.2.2.2.2.2.2.2.2.1
theorem dX11_cook_329 : decode cX11_cook 329 = .ok (.iaload, 1) := dgX11_cook_176.2.2.2.2.2.2.2.2.2.2.2.2.1
theorem dX11_cook_330 : decode cX11_cook 330 = .ok (.ireturn, 1) := dgX11_cook_176.2.2.2.2.2.2.2.2.2.2.2.2.2
theorem dgX11_vouch_0 : (decode cX11_vouch 0 = .ok (.aload_n 0, 1)) ∧ (decode cX11_vouch 1 = .ok (.iload_n 1, 1)) ∧ (decode cX11_vouch 2 = .ok (.invokevirtual 165, 3)) ∧ (decode cX11_vouch 5 = .ok (.ifCond .eq 12, 3)) ∧ (decode cX11_vouch 8 = .ok (.aload_n 0, 1)) ∧ (decode cX11_vouch 9 = .ok (.getfield 40, 3)) ∧ (decode cX11_vouch 12 = .ok (.iload_n 1, 1)) ∧ (decode cX11_vouch 13 = .ok (.baload, 1)) ∧ (decode cX11_vouch 14 = .ok (.ifCond .ne 5, 3)) ∧ (decode cX11_vouch 17 = .ok (.iconst 0, 1)) ∧ (decode cX11_vouch 18 = .ok (.ireturn, 1)) ∧ (decode cX11_vouch 19 = .ok (.aload_n 0, 1)) ∧ (decode cX11_vouch 20 = .ok (.getfield 44, 3)) ∧ (decode cX11_vouch 23 = .ok (.iload_n 1, 1)) ∧ (decode cX11_vouch 24 = .ok (.iconst 1, 1)) ∧ (decode cX11_vouch 25 = .ok (.bastore, 1)) := by decide +kernel
theorem dX11_vouch_0 : decode cX11_vouch 0 = .ok (.aload_n 0, 1) := dgX11_vouch_0.1
theorem dX11_vouch_1 : decode cX11_vouch 1 = .ok (.iload_n 1, 1) := dgX11_vouch_0.2.1
theorem dX11_vouch_2 : decode cX11_vouch 2 = .ok (.invokevirtual 165, 3) := dgX11_vouch_0.2.2.1
theorem dX11_vouch_5 : decode cX11_vouch 5 = .ok (.ifCond .eq 12, 3) := dgX11_vouch_0.2.2.2.1
theorem dX11_vouch_8 : decode cX11_vouch 8 = .ok (.aload_n 0, 1) := dgX11_vouch_0.2.2.2.2.1
theorem dX11_vouch_9 : decode cX11_vouch 9 = .ok (.getfield 40, 3) := dgX11_vouch_0.2.2.2.2.2.1
theorem dX11_vouch_12 : decode cX11_vouch 12 = .ok (.iload_n 1, 1) := dgX11_vouch_0.2.2.2.2.2.2.1
theorem dX11_vouch_13 : decode cX11_vouch 13 = .ok (.baload, 1) := dgX11_vouch_0.2.2.2.2.2.2.2.1
theorem dX11_vouch_14 : decode cX11_vouch 14 = .ok (.ifCond .ne 5, 3) := dgX11_vouch_0.2.2.2.2.2.2.2.2.1
theorem dX11_vouch_17 : decode cX11_vouch 17 = .ok (.iconst 0, 1) := dgX11_vouch_0.2.2.2.2.2.2.2.2.2.1
theorem dX11_vouch_18 : decode cX11_vouch 18 = .ok (.ireturn, 1) := dgX11_vouch_0.2.2.2.2.2.2.2.2.2.2.1
theorem dX11_vouch_19 : decode cX11_vouch 19 = .ok (.aload_n 0, 1) := dgX11_vouch_0.2.2.2.2.2.2.2.2.2.2.2.1
theorem dX11_vouch_20 : decode cX11_vouch 20 = .ok (.getfield 44, 3) := dgX11_vouch_0.2.2.2.2.2.2.2.2.2.2.2.2.1
theorem dX11_vouch_23 : decode cX11_vouch 23 = .ok (.iload_n 1, 1) := dgX11_vouch_0.2.2.2.2.2.2.2.2.2.2.2.2.2.1
theorem dX11_vouch_24 : decode cX11_vouch 24 = .ok (.iconst 1, 1) := dgX11_vouch_0.2.2.2.2.2.2.2.2.2.2.2.2.2.2.1
theorem dX11_vouch_25 : decode cX11_vouch 25 = .ok (.bastore, 1) := dgX11_vouch_0.2.2.2.2.2.2.2.2.2.2.2.2.2.2.2
theorem dgX11_vouch_16 : (decode cX11_vouch 26 = .ok (.iconst 1, 1)) ∧ (decode cX11_vouch 27 = .ok (.ireturn, 1)) := by decide +kernel
theorem dX11_vouch_26 : decode cX11_vouch 26 = .ok (.iconst 1, 1) := dgX11_vouch_16.1
theorem dX11_vouch_27 : decode cX11_vouch 27 = .ok (.ireturn, 1) := dgX11_vouch_16.2
theorem dgX11_why_0 : (decode cX11_why 0 = .ok (.aload_n 0, 1)) ∧ (decode cX11_why 1 = .ok (.iload_n 1, 1)) ∧ (decode cX11_why 2 = .ok (.invokevirtual 165, 3)) ∧ (decode cX11_why 5 = .ok (.ifCond .ne 5, 3)) ∧ (decode cX11_why 8 = .ok (.iconst (-1), 1)) ∧ (decode cX11_why 9 = .ok (.ireturn, 1)) ∧ (decode cX11_why 10 = .ok (.aload_n 0, 1)) ∧ (decode cX11_why 11 = .ok (.getfield 16, 3)) ∧ (decode cX11_why 14 = .ok (.iload_n 1, 1)) ∧ (decode cX11_why 15 = .ok (.iaload, 1)) ∧ (decode cX11_why 16 = .ok (.istore_n 2, 1)) ∧ (decode cX11_why 17 = .ok (.aload_n 0, 1)) ∧ (decode cX11_why 18 = .ok (.getfield 34, 3)) ∧ (decode cX11_why 21 = .ok (.iload_n 1, 1)) ∧ (decode cX11_why 22 = .ok (.iaload, 1)) ∧ (decode cX11_why 23 = .ok (.ifCond .lt 7, 3)) := by decide +kernel
theorem dX11_why_0 : decode cX11_why 0 = .ok (.aload_n 0, 1) := dgX11_why_0.1
theorem dX11_why_1 : decode cX11_why 1 = .ok (.iload_n 1, 1) := dgX11_why_0.2.1
theorem dX11_why_2 : decode cX11_why 2 = .ok (.invokevirtual 165, 3) := dgX11_why_0.2.2.1
theorem dX11_why_5 : decode cX11_why 5 = .ok (.ifCond .ne 5, 3) := dgX11_why_0.2.2.2.1
theorem dX11_why_8 : decode cX11_why 8 = .ok (.iconst (-1), 1) := dgX11_why_0.2.2.2.2.1
theorem dX11_why_9 : decode cX11_why 9 = .ok (.ireturn, 1) := dgX11_why_0.2.2.2.2.2.1
theorem dX11_why_10 : decode cX11_why 10 = .ok (.aload_n 0, 1) := dgX11_why_0.2.2.2.2.2.2.1
theorem dX11_why_11 : decode cX11_why 11 = .ok (.getfield 16, 3) := dgX11_why_0.2.2.2.2.2.2.2.1
theorem dX11_why_14 : decode cX11_why 14 = .ok (.iload_n 1, 1) := dgX11_why_0.2.2.2.2.2.2.2.2.1
theorem dX11_why_15 : decode cX11_why 15 = .ok (.iaload, 1) := dgX11_why_0.2.2.2.2.2.2.2.2.2.1
theorem dX11_why_16 : decode cX11_why 16 = .ok (.istore_n 2, 1) := dgX11_why_0.2.2.2.2.2.2.2.2.2.2.1
theorem dX11_why_17 : decode cX11_why 17 = .ok (.aload_n 0, 1) := dgX11_why_0.2.2.2.2.2.2.2.2.2.2.2.1
theorem dX11_why_18 : decode cX11_why 18 = .ok (.getfield 34, 3) := dgX11_why_0.2.2.2.2.2.2.2.2.2.2.2.2.1
theorem dX11_why_21 : decode cX11_why 21 = .ok (.iload_n 1, 1) := dgX11_why_0.2.2.2.2.2.2.2.2.2.2.2.2.2.1
theorem dX11_why_22 : decode cX11_why 22 = .ok (.iaload, 1) := dgX11_why_0.2.2.2.2.2.2.2.2.2.2.2.2.2.2.1
theorem dX11_why_23 : decode cX11_why 23 = .ok (.ifCond .lt 7, 3) := dgX11_why_0.2.2.2.2.2.2.2.2.2.2.2.2.2.2.2
theorem dgX11_why_16 : (decode cX11_why 26 = .ok (.iconst 1, 1)) ∧ (decode cX11_why 27 = .ok (.goto 4, 3)) ∧ (decode cX11_why 30 = .ok (.iconst 0, 1)) ∧ (decode cX11_why 31 = .ok (.istore_n 3, 1)) ∧ (decode cX11_why 32 = .ok (.aload_n 0, 1)) ∧ (decode cX11_why 33 = .ok (.getfield 40, 3)) ∧ (decode cX11_why 36 = .ok (.iload_n 1, 1)) ∧ (decode cX11_why 37 = .ok (.baload, 1)) ∧ (decode cX11_why 38 = .ok (.ifCond .ne 5, 3)) ∧ (decode cX11_why 41 = .ok (.iconst 1, 1)) ∧ (decode cX11_why 42 = .ok (.ireturn, 1)) ∧ (decode cX11_why 43 = .ok (.aload_n 0, 1)) ∧ (decode cX11_why 44 = .ok (.getfield 44, 3)) ∧ (decode cX11_why 47 = .ok (.iload_n 1, 1)) ∧ (decode cX11_why 48 = .ok (.baload, 1)) ∧ (decode cX11_why 49 = .ok (.ifCond .eq 5, 3)) := by decide +kernel
theorem dX11_why_26 : decode cX11_why 26 = .ok (.iconst 1, 1) := dgX11_why_16.1
theorem dX11_why_27 : decode cX11_why 27 = .ok (.goto 4, 3) := dgX11_why_16.2.1
theorem dX11_why_30 : decode cX11_why 30 = .ok (.iconst 0, 1) := dgX11_why_16.2.2.1
theorem dX11_why_31 : decode cX11_why 31 = .ok (.istore_n 3, 1) := dgX11_why_16.2.2.2.1
theorem dX11_why_32 : decode cX11_why 32 = .ok (.aload_n 0, 1) := dgX11_why_16.2.2.2.2.1
theorem dX11_why_33 : decode cX11_why 33 = .ok (.getfield 40, 3) := dgX11_why_16.2.2.2.2.2.1
theorem dX11_why_36 : decode cX11_why 36 = .ok (.iload_n 1, 1) := dgX11_why_16.2.2.2.2.2.2.1
theorem dX11_why_37 : decode cX11_why 37 = .ok (.baload, 1) := dgX11_why_16.2.2.2.2.2.2.2.1
theorem dX11_why_38 : decode cX11_why 38 = .ok (.ifCond .ne 5, 3) := dgX11_why_16.2.2.2.2.2.2.2.2.1
theorem dX11_why_41 : decode cX11_why 41 = .ok (.iconst 1, 1) := dgX11_why_16.2.2.2.2.2.2.2.2.2.1
theorem dX11_why_42 : decode cX11_why 42 = .ok (.ireturn, 1) := dgX11_why_16.2.2.2.2.2.2.2.2.2.2.1
theorem dX11_why_43 : decode cX11_why 43 = .ok (.aload_n 0, 1) := dgX11_why_16.2.2.2.2.2.2.2.2.2.2.2.1
theorem dX11_why_44 : decode cX11_why 44 = .ok (.getfield 44, 3) := dgX11_why_16.2.2.2.2.2.2.2.2.2.2.2.2.1
theorem dX11_why_47 : decode cX11_why 47 = .ok (.iload_n 1, 1) := dgX11_why_16.2.2.2.2.2.2.2.2.2.2.2.2.2.1
theorem dX11_why_48 : decode cX11_why 48 = .ok (.baload, 1) := dgX11_why_16.2.2.2.2.2.2.2.2.2.2.2.2.2.2.1
theorem dX11_why_49 : decode cX11_why 49 = .ok (.ifCond .eq 5, 3) := dgX11_why_16.2.2.2.2.2.2.2.2.2.2.2.2.2.2.2
theorem dgX11_why_32 : (decode cX11_why 52 = .ok (.iconst 0, 1)) ∧ (decode cX11_why 53 = .ok (.ireturn, 1)) ∧ (decode cX11_why 54 = .ok (.aload_n 0, 1)) ∧ (decode cX11_why 55 = .ok (.getfield 37, 3)) ∧ (decode cX11_why 58 = .ok (.iload_n 1, 1)) ∧ (decode cX11_why 59 = .ok (.iaload, 1)) ∧ (decode cX11_why 60 = .ok (.ifCond .lt 5, 3)) ∧ (decode cX11_why 63 = .ok (.iconst 2, 1)) ∧ (decode cX11_why 64 = .ok (.ireturn, 1)) ∧ (decode cX11_why 65 = .ok (.aload_n 0, 1)) ∧ (decode cX11_why 66 = .ok (.getfield 28, 3)) ∧ (decode cX11_why 69 = .ok (.iload_n 1, 1)) ∧ (decode cX11_why 70 = .ok (.iaload, 1)) ∧ (decode cX11_why 71 = .ok (.aload_n 0, 1)) ∧ (decode cX11_why 72 = .ok (.getfield 85, 3)) ∧ (decode cX11_why 75 = .ok (.iload_n 2, 1)) := by decide +kernel
theorem dX11_why_52 : decode cX11_why 52 = .ok (.iconst 0, 1) := dgX11_why_32.1
theorem dX11_why_53 : decode cX11_why 53 = .ok (.ireturn, 1) := dgX11_why_32.2.1
theorem dX11_why_54 : decode cX11_why 54 = .ok (.aload_n 0, 1) := dgX11_why_32.2.2.1
theorem dX11_why_55 : decode cX11_why 55 = .ok (.getfield 37, 3) := dgX11_why_32.2.2.2.1
theorem dX11_why_58 : decode cX11_why 58 = .ok (.iload_n 1, 1) := dgX11_why_32.2.2.2.2.1
theorem dX11_why_59 : decode cX11_why 59 = .ok (.iaload, 1) := dgX11_why_32.2.2.2.2.2.1
theorem dX11_why_60 : decode cX11_why 60 = .ok (.ifCond .lt 5, 3) := dgX11_why_32.2.2.2.2.2.2.1
theorem dX11_why_63 : decode cX11_why 63 = .ok (.iconst 2, 1) := dgX11_why_32.2.2.2.2.2.2.2.1
theorem dX11_why_64 : decode cX11_why 64 = .ok (.ireturn, 1) := dgX11_why_32.2.2.2.2.2.2.2.2.1
theorem dX11_why_65 : decode cX11_why 65 = .ok (.aload_n 0, 1) := dgX11_why_32.2.2.2.2.2.2.2.2.2.1
theorem dX11_why_66 : decode cX11_why 66 = .ok (.getfield 28, 3) := dgX11_why_32.2.2.2.2.2.2.2.2.2.2.1
theorem dX11_why_69 : decode cX11_why 69 = .ok (.iload_n 1, 1) := dgX11_why_32.2.2.2.2.2.2.2.2.2.2.2.1
theorem dX11_why_70 : decode cX11_why 70 = .ok (.iaload, 1) := dgX11_why_32.2.2.2.2.2.2.2.2.2.2.2.2.1
theorem dX11_why_71 : decode cX11_why 71 = .ok (.aload_n 0, 1) := dgX11_why_32.2.2.2.2.2.2.2.2.2.2.2.2.2.1
theorem dX11_why_72 : decode cX11_why 72 = .ok (.getfield 85, 3) := dgX11_why_32.2.2.2.2.2.2.2.2.2.2.2.2.2.2.1
theorem dX11_why_75 : decode cX11_why 75 = .ok (.iload_n 2, 1) := dgX11_why_32.2.2.2.2.2.2.2.2.2.2.2.2.2.2.2
theorem dgX11_why_48 : (decode cX11_why 76 = .ok (.iaload, 1)) ∧ (decode cX11_why 77 = .ok (.if_icmp .ge 5, 3)) ∧ (decode cX11_why 80 = .ok (.iconst 3, 1)) ∧ (decode cX11_why 81 = .ok (.ireturn, 1)) ∧ (decode cX11_why 82 = .ok (.aload_n 0, 1)) ∧ (decode cX11_why 83 = .ok (.getfield 28, 3)) ∧ (decode cX11_why 86 = .ok (.iload_n 1, 1)) ∧ (decode cX11_why 87 = .ok (.iaload, 1)) ∧ (decode cX11_why 88 = .ok (.aload_n 0, 1)) ∧ (decode cX11_why 89 = .ok (.getfield 88, 3)) ∧ (decode cX11_why 92 = .ok (.iload_n 2, 1)) ∧ (decode cX11_why 93 = .ok (.iaload, 1)) ∧ (decode cX11_why 94 = .ok (.if_icmp .le 5, 3)) ∧ (decode cX11_why 97 = .ok (.iconst 4, 1)) ∧ (decode cX11_why 98 = .ok (.ireturn, 1)) ∧ (decode cX11_why 99 = .ok (.iload_n 2, 1)) := by decide +kernel
theorem dX11_why_76 : decode cX11_why 76 = .ok (.iaload, 1) := dgX11_why_48.1
theorem dX11_why_77 : decode cX11_why 77 = .ok (.if_icmp .ge 5, 3) := dgX11_why_48.2.1
theorem dX11_why_80 : decode cX11_why 80 = .ok (.iconst 3, 1) := dgX11_why_48.2.2.1
theorem dX11_why_81 : decode cX11_why 81 = .ok (.ireturn, 1) := dgX11_why_48.2.2.2.1
theorem dX11_why_82 : decode cX11_why 82 = .ok (.aload_n 0, 1) := dgX11_why_48.2.2.2.2.1
theorem dX11_why_83 : decode cX11_why 83 = .ok (.getfield 28, 3) := dgX11_why_48.2.2.2.2.2.1
theorem dX11_why_86 : decode cX11_why 86 = .ok (.iload_n 1, 1) := dgX11_why_48.2.2.2.2.2.2.1
theorem dX11_why_87 : decode cX11_why 87 = .ok (.iaload, 1) := dgX11_why_48.2.2.2.2.2.2.2.1
theorem dX11_why_88 : decode cX11_why 88 = .ok (.aload_n 0, 1) := dgX11_why_48.2.2.2.2.2.2.2.2.1
theorem dX11_why_89 : decode cX11_why 89 = .ok (.getfield 88, 3) := dgX11_why_48.2.2.2.2.2.2.2.2.2.1
theorem dX11_why_92 : decode cX11_why 92 = .ok (.iload_n 2, 1) := dgX11_why_48.2.2.2.2.2.2.2.2.2.2.1
theorem dX11_why_93 : decode cX11_why 93 = .ok (.iaload, 1) := dgX11_why_48.2.2.2.2.2.2.2.2.2.2.2.1
theorem dX11_why_94 : decode cX11_why 94 = .ok (.if_icmp .le 5, 3) := dgX11_why_48.2.2.2.2.2.2.2.2.2.2.2.2.1
theorem dX11_why_97 : decode cX11_why 97 = .ok (.iconst 4, 1) := dgX11_why_48.2.2.2.2.2.2.2.2.2.2.2.2.2.1
theorem dX11_why_98 : decode cX11_why 98 = .ok (.ireturn, 1) := dgX11_why_48.2.2.2.2.2.2.2.2.2.2.2.2.2.2.1
theorem dX11_why_99 : decode cX11_why 99 = .ok (.iload_n 2, 1) := dgX11_why_48.2.2.2.2.2.2.2.2.2.2.2.2.2.2.2
theorem dgX11_why_64 : (decode cX11_why 100 = .ok (.iconst 1, 1)) ∧ (decode cX11_why 101 = .ok (.if_icmp .eq 13, 3)) ∧ (decode cX11_why 104 = .ok (.iload_n 2, 1)) ∧ (decode cX11_why 105 = .ok (.iconst 3, 1)) ∧ (decode cX11_why 106 = .ok (.if_icmp .eq 8, 3)) ∧ (decode cX11_why 109 = .ok (.iload_n 2, 1)) ∧ (decode cX11_why 110 = .ok (.iconst 4, 1)) ∧ (decode cX11_why 111 = .ok (.if_icmp .ne 9, 3)) ∧ (decode cX11_why 114 = .ok (.iload_n 3, 1)) ∧ (decode cX11_why 115 = .ok (.ifCond .ne 5, 3)) ∧ (decode cX11_why 118 = .ok (.iconst 5, 1)) ∧ (decode cX11_why 119 = .ok (.ireturn, 1)) ∧ (decode cX11_why 120 = .ok (.iload_n 2, 1)) ∧ (decode cX11_why 121 = .ok (.iconst 2, 1)) ∧ (decode cX11_why 122 = .ok (.if_icmp .ne 12, 3)) ∧ (decode cX11_why 125 = .ok (.iload_n 3, 1)) := by decide +kernel
theorem dX11_why_100 : decode cX11_why 100 = .ok (.iconst 1, 1) := dgX11_why_64.1
theorem dX11_why_101 : decode cX11_why 101 = .ok (.if_icmp .eq 13, 3) := dgX11_why_64.2.1
theorem dX11_why_104 : decode cX11_why 104 = .ok (.iload_n 2, 1) := dgX11_why_64.2.2.1
theorem dX11_why_105 : decode cX11_why 105 = .ok (.iconst 3, 1) := dgX11_why_64.2.2.2.1
theorem dX11_why_106 : decode cX11_why 106 = .ok (.if_icmp .eq 8, 3) := dgX11_why_64.2.2.2.2.1
theorem dX11_why_109 : decode cX11_why 109 = .ok (.iload_n 2, 1) := dgX11_why_64.2.2.2.2.2.1
theorem dX11_why_110 : decode cX11_why 110 = .ok (.iconst 4, 1) := dgX11_why_64.2.2.2.2.2.2.1
theorem dX11_why_111 : decode cX11_why 111 = .ok (.if_icmp .ne 9, 3) := dgX11_why_64.2.2.2.2.2.2.2.1
theorem dX11_why_114 : decode cX11_why 114 = .ok (.iload_n 3, 1) := dgX11_why_64.2.2.2.2.2.2.2.2.1
theorem dX11_why_115 : decode cX11_why 115 = .ok (.ifCond .ne 5, 3) := dgX11_why_64.2.2.2.2.2.2.2.2.2.1
theorem dX11_why_118 : decode cX11_why 118 = .ok (.iconst 5, 1) := dgX11_why_64.2.2.2.2.2.2.2.2.2.2.1
theorem dX11_why_119 : decode cX11_why 119 = .ok (.ireturn, 1) := dgX11_why_64.2.2.2.2.2.2.2.2.2.2.2.1
theorem dX11_why_120 : decode cX11_why 120 = .ok (.iload_n 2, 1) := dgX11_why_64.2.2.2.2.2.2.2.2.2.2.2.2.1
theorem dX11_why_121 : decode cX11_why 121 = .ok (.iconst 2, 1) := dgX11_why_64.2.2.2.2.2.2.2.2.2.2.2.2.2.1
theorem dX11_why_122 : decode cX11_why 122 = .ok (.if_icmp .ne 12, 3) := dgX11_why_64.2.2.2.2.2.2.2.2.2.2.2.2.2.2.1
theorem dX11_why_125 : decode cX11_why 125 = .ok (.iload_n 3, 1) := dgX11_why_64.2.2.2.2.2.2.2.2.2.2.2.2.2.2.2
theorem dgX11_why_80 : (decode cX11_why 126 = .ok (.ifCond .eq 8, 3)) ∧ (decode cX11_why 129 = .ok (.bipush 6, 2)) ∧ (decode cX11_why 131 = .ok (.goto 4, 3)) ∧ (decode cX11_why 134 = .ok (.iconst 0, 1)) ∧ (decode cX11_why 135 = .ok (.ireturn, 1)) := by decide +kernel
theorem dX11_why_126 : decode cX11_why 126 = .ok (.ifCond .eq 8, 3) := dgX11_why_80.1
theorem dX11_why_129 : decode cX11_why 129 = .ok (.bipush 6, 2) := dgX11_why_80.2.1
theorem dX11_why_131 : decode cX11_why 131 = .ok (.goto 4, 3) := dgX11_why_80.2.2.1
theorem dX11_why_134 : decode cX11_why 134 = .ok (.iconst 0, 1) := dgX11_why_80.2.2.2.1
theorem dX11_why_135 : decode cX11_why 135 = .ok (.ireturn, 1) := dgX11_why_80.2.2.2.2
theorem dgX11_isGood_0 : (decode cX11_isGood 0 = .ok (.aload_n 0, 1)) ∧ (decode cX11_isGood 1 = .ok (.iload_n 1, 1)) ∧ (decode cX11_isGood 2 = .ok (.invokevirtual 165, 3)) ∧ (decode cX11_isGood 5 = .ok (.ifCond .eq 15, 3)) ∧ (decode cX11_isGood 8 = .ok (.aload_n 0, 1)) ∧ (decode cX11_isGood 9 = .ok (.iload_n 1, 1)) ∧ (decode cX11_isGood 10 = .ok (.invokevirtual 196, 3)) ∧ (decode cX11_isGood 13 = .ok (.ifCond .ne 7, 3)) ∧ (decode cX11_isGood 16 = .ok (.iconst 1, 1)) ∧ (decode cX11_isGood 17 = .ok (.goto 4, 3)) ∧ (decode cX11_isGood 20 = .ok (.iconst 0, 1)) ∧ (decode cX11_isGood 21 = .ok (.ireturn, 1)) := by decide +kernel
theorem dX11_isGood_0 : decode cX11_isGood 0 = .ok (.aload_n 0, 1) := dgX11_isGood_0.1
theorem dX11_isGood_1 : decode cX11_isGood 1 = .ok (.iload_n 1, 1) := dgX11_isGood_0.2.1
theorem dX11_isGood_2 : decode cX11_isGood 2 = .ok (.invokevirtual 165, 3) := dgX11_isGood_0.2.2.1
theorem dX11_isGood_5 : decode cX11_isGood 5 = .ok (.ifCond .eq 15, 3) := dgX11_isGood_0.2.2.2.1
theorem dX11_isGood_8 : decode cX11_isGood 8 = .ok (.aload_n 0, 1) := dgX11_isGood_0.2.2.2.2.1
theorem dX11_isGood_9 : decode cX11_isGood 9 = .ok (.iload_n 1, 1) := dgX11_isGood_0.2.2.2.2.2.1
theorem dX11_isGood_10 : decode cX11_isGood 10 = .ok (.invokevirtual 196, 3) := dgX11_isGood_0.2.2.2.2.2.2.1
theorem dX11_isGood_13 : decode cX11_isGood 13 = .ok (.ifCond .ne 7, 3) := dgX11_isGood_0.2.2.2.2.2.2.2.1
theorem dX11_isGood_16 : decode cX11_isGood 16 = .ok (.iconst 1, 1) := dgX11_isGood_0.2.2.2.2.2.2.2.2.1
theorem dX11_isGood_17 : decode cX11_isGood 17 = .ok (.goto 4, 3) := dgX11_isGood_0.2.2.2.2.2.2.2.2.2.1
theorem dX11_isGood_20 : decode cX11_isGood 20 = .ok (.iconst 0, 1) := dgX11_isGood_0.2.2.2.2.2.2.2.2.2.2.1
theorem dX11_isGood_21 : decode cX11_isGood 21 = .ok (.ireturn, 1) := dgX11_isGood_0.2.2.2.2.2.2.2.2.2.2.2
theorem dgX11_batchOf_0 : (decode cX11_batchOf 0 = .ok (.aload_n 0, 1)) ∧ (decode cX11_batchOf 1 = .ok (.iload_n 1, 1)) ∧ (decode cX11_batchOf 2 = .ok (.invokevirtual 165, 3)) ∧ (decode cX11_batchOf 5 = .ok (.ifCond .ne 5, 3)) ∧ (decode cX11_batchOf 8 = .ok (.iconst (-1), 1)) ∧ (decode cX11_batchOf 9 = .ok (.ireturn, 1)) ∧ (decode cX11_batchOf 10 = .ok (.iload_n 2, 1)) ∧ (decode cX11_batchOf 11 = .ok (.tableswitch 190 0 12 #[65, 72, 79, 86, 93, 100, 107, 122, 147, 162, 169, 176, 183], 65)) ∧ (decode cX11_batchOf 76 = .ok (.aload_n 0, 1)) ∧ (decode cX11_batchOf 77 = .ok (.getfield 16, 3)) ∧ (decode cX11_batchOf 80 = .ok (.iload_n 1, 1)) ∧ (decode cX11_batchOf 81 = .ok (.iaload, 1)) ∧ (decode cX11_batchOf 82 = .ok (.ireturn, 1)) ∧ (decode cX11_batchOf 83 = .ok (.aload_n 0, 1)) ∧ (decode cX11_batchOf 84 = .ok (.getfield 19, 3)) ∧ (decode cX11_batchOf 87 = .ok (.iload_n 1, 1)) := by decide +kernel
theorem dX11_batchOf_0 : decode cX11_batchOf 0 = .ok (.aload_n 0, 1) := dgX11_batchOf_0.1
theorem dX11_batchOf_1 : decode cX11_batchOf 1 = .ok (.iload_n 1, 1) := dgX11_batchOf_0.2.1
theorem dX11_batchOf_2 : decode cX11_batchOf 2 = .ok (.invokevirtual 165, 3) := dgX11_batchOf_0.2.2.1
theorem dX11_batchOf_5 : decode cX11_batchOf 5 = .ok (.ifCond .ne 5, 3) := dgX11_batchOf_0.2.2.2.1
theorem dX11_batchOf_8 : decode cX11_batchOf 8 = .ok (.iconst (-1), 1) := dgX11_batchOf_0.2.2.2.2.1
theorem dX11_batchOf_9 : decode cX11_batchOf 9 = .ok (.ireturn, 1) := dgX11_batchOf_0.2.2.2.2.2.1
theorem dX11_batchOf_10 : decode cX11_batchOf 10 = .ok (.iload_n 2, 1) := dgX11_batchOf_0.2.2.2.2.2.2.1
theorem dX11_batchOf_11 : decode cX11_batchOf 11 = .ok (.tableswitch 190 0 12 #[65, 72, 79, 86, 93, 100, 107, 122, 147, 162, 169, 176, 183], 65) := dgX11_batchOf_0.2.2.2.2.2.2.2.1
theorem dX11_batchOf_76 : decode cX11_batchOf 76 = .ok (.aload_n 0, 1) := dgX11_batchOf_0.2.2.2.2.2.2.2.2.1
theorem dX11_batchOf_77 : decode cX11_batchOf 77 = .ok (.getfield 16, 3) := dgX11_batchOf_0.2.2.2.2.2.2.2.2.2.1
theorem dX11_batchOf_80 : decode cX11_batchOf 80 = .ok (.iload_n 1, 1) := dgX11_batchOf_0.2.2.2.2.2.2.2.2.2.2.1
theorem dX11_batchOf_81 : decode cX11_batchOf 81 = .ok (.iaload, 1) := dgX11_batchOf_0.2.2.2.2.2.2.2.2.2.2.2.1
theorem dX11_batchOf_82 : decode cX11_batchOf 82 = .ok (.ireturn, 1) := dgX11_batchOf_0.2.2.2.2.2.2.2.2.2.2.2.2.1
theorem dX11_batchOf_83 : decode cX11_batchOf 83 = .ok (.aload_n 0, 1) := dgX11_batchOf_0.2.2.2.2.2.2.2.2.2.2.2.2.2.1
theorem dX11_batchOf_84 : decode cX11_batchOf 84 = .ok (.getfield 19, 3) := dgX11_batchOf_0.2.2.2.2.2.2.2.2.2.2.2.2.2.2.1
theorem dX11_batchOf_87 : decode cX11_batchOf 87 = .ok (.iload_n 1, 1) := dgX11_batchOf_0.2.2.2.2.2.2.2.2.2.2.2.2.2.2.2
theorem dgX11_batchOf_16 : (decode cX11_batchOf 88 = .ok (.iaload, 1)) ∧ (decode cX11_batchOf 89 = .ok (.ireturn, 1)) ∧ (decode cX11_batchOf 90 = .ok (.aload_n 0, 1)) ∧ (decode cX11_batchOf 91 = .ok (.getfield 22, 3)) ∧ (decode cX11_batchOf 94 = .ok (.iload_n 1, 1)) ∧ (decode cX11_batchOf 95 = .ok (.iaload, 1)) ∧ (decode cX11_batchOf 96 = .ok (.ireturn, 1)) ∧ (decode cX11_batchOf 97 = .ok (.aload_n 0, 1)) ∧ (decode cX11_batchOf 98 = .ok (.getfield 25, 3)) ∧ (decode cX11_batchOf 101 = .ok (.iload_n 1, 1)) ∧ (decode cX11_batchOf 102 = .ok (.iaload, 1)) ∧ (decode cX11_batchOf 103 = .ok (.ireturn, 1)) ∧ (decode cX11_batchOf 104 = .ok (.aload_n 0, 1)) ∧ (decode cX11_batchOf 105 = .ok (.getfield 28, 3)) ∧ (decode cX11_batchOf 108 = .ok (.iload_n 1, 1)) ∧ (decode cX11_batchOf 109 = .ok (.iaload, 1)) := by decide +kernel
theorem dX11_batchOf_88 : decode cX11_batchOf 88 = .ok (.iaload, 1) := dgX11_batchOf_16.1
theorem dX11_batchOf_89 : decode cX11_batchOf 89 = .ok (.ireturn, 1) := dgX11_batchOf_16.2.1
theorem dX11_batchOf_90 : decode cX11_batchOf 90 = .ok (.aload_n 0, 1) := dgX11_batchOf_16.2.2.1
theorem dX11_batchOf_91 : decode cX11_batchOf 91 = .ok (.getfield 22, 3) := dgX11_batchOf_16.2.2.2.1
theorem dX11_batchOf_94 : decode cX11_batchOf 94 = .ok (.iload_n 1, 1) := dgX11_batchOf_16.2.2.2.2.1
theorem dX11_batchOf_95 : decode cX11_batchOf 95 = .ok (.iaload, 1) := dgX11_batchOf_16.2.2.2.2.2.1
theorem dX11_batchOf_96 : decode cX11_batchOf 96 = .ok (.ireturn, 1) := dgX11_batchOf_16.2.2.2.2.2.2.1
theorem dX11_batchOf_97 : decode cX11_batchOf 97 = .ok (.aload_n 0, 1) := dgX11_batchOf_16.2.2.2.2.2.2.2.1
theorem dX11_batchOf_98 : decode cX11_batchOf 98 = .ok (.getfield 25, 3) := dgX11_batchOf_16.2.2.2.2.2.2.2.2.1
theorem dX11_batchOf_101 : decode cX11_batchOf 101 = .ok (.iload_n 1, 1) := dgX11_batchOf_16.2.2.2.2.2.2.2.2.2.1
theorem dX11_batchOf_102 : decode cX11_batchOf 102 = .ok (.iaload, 1) := dgX11_batchOf_16.2.2.2.2.2.2.2.2.2.2.1
theorem dX11_batchOf_103 : decode cX11_batchOf 103 = .ok (.ireturn, 1) := dgX11_batchOf_16.2.2.2.2.2.2.2.2.2.2.2.1
theorem dX11_batchOf_104 : decode cX11_batchOf 104 = .ok (.aload_n 0, 1) := dgX11_batchOf_16.2.2.2.2.2.2.2.2.2.2.2.2.1
theorem dX11_batchOf_105 : decode cX11_batchOf 105 = .ok (.getfield 28, 3) := dgX11_batchOf_16.2.2.2.2.2.2.2.2.2.2.2.2.2.1
theorem dX11_batchOf_108 : decode cX11_batchOf 108 = .ok (.iload_n 1, 1) := dgX11_batchOf_16.2.2.2.2.2.2.2.2.2.2.2.2.2.2.1
theorem dX11_batchOf_109 : decode cX11_batchOf 109 = .ok (.iaload, 1) := dgX11_batchOf_16.2.2.2.2.2.2.2.2.2.2.2.2.2.2.2
theorem dgX11_batchOf_32 : (decode cX11_batchOf 110 = .ok (.ireturn, 1)) ∧ (decode cX11_batchOf 111 = .ok (.aload_n 0, 1)) ∧ (decode cX11_batchOf 112 = .ok (.getfield 31, 3)) ∧ (decode cX11_batchOf 115 = .ok (.iload_n 1, 1)) ∧ (decode cX11_batchOf 116 = .ok (.iaload, 1)) ∧ (decode cX11_batchOf 117 = .ok (.ireturn, 1)) ∧ (decode cX11_batchOf 118 = .ok (.aload_n 0, 1)) ∧ (decode cX11_batchOf 119 = .ok (.getfield 34, 3)) ∧ (decode cX11_batchOf 122 = .ok (.iload_n 1, 1)) ∧ (decode cX11_batchOf 123 = .ok (.iaload, 1)) ∧ (decode cX11_batchOf 124 = .ok (.ifCond .lt 7, 3)) ∧ (decode cX11_batchOf 127 = .ok (.iconst 1, 1)) ∧ (decode cX11_batchOf 128 = .ok (.goto 4, 3)) ∧ (decode cX11_batchOf 131 = .ok (.iconst 0, 1)) ∧ (decode cX11_batchOf 132 = .ok (.ireturn, 1)) ∧ (decode cX11_batchOf 133 = .ok (.aload_n 0, 1)) := by decide +kernel
theorem dX11_batchOf_110 : decode cX11_batchOf 110 = .ok (.ireturn, 1) := dgX11_batchOf_32.1
theorem dX11_batchOf_111 : decode cX11_batchOf 111 = .ok (.aload_n 0, 1) := dgX11_batchOf_32.2.1
theorem dX11_batchOf_112 : decode cX11_batchOf 112 = .ok (.getfield 31, 3) := dgX11_batchOf_32.2.2.1
theorem dX11_batchOf_115 : decode cX11_batchOf 115 = .ok (.iload_n 1, 1) := dgX11_batchOf_32.2.2.2.1
theorem dX11_batchOf_116 : decode cX11_batchOf 116 = .ok (.iaload, 1) := dgX11_batchOf_32.2.2.2.2.1
theorem dX11_batchOf_117 : decode cX11_batchOf 117 = .ok (.ireturn, 1) := dgX11_batchOf_32.2.2.2.2.2.1
theorem dX11_batchOf_118 : decode cX11_batchOf 118 = .ok (.aload_n 0, 1) := dgX11_batchOf_32.2.2.2.2.2.2.1
theorem dX11_batchOf_119 : decode cX11_batchOf 119 = .ok (.getfield 34, 3) := dgX11_batchOf_32.2.2.2.2.2.2.2.1
theorem dX11_batchOf_122 : decode cX11_batchOf 122 = .ok (.iload_n 1, 1) := dgX11_batchOf_32.2.2.2.2.2.2.2.2.1
theorem dX11_batchOf_123 : decode cX11_batchOf 123 = .ok (.iaload, 1) := dgX11_batchOf_32.2.2.2.2.2.2.2.2.2.1
theorem dX11_batchOf_124 : decode cX11_batchOf 124 = .ok (.ifCond .lt 7, 3) := dgX11_batchOf_32.2.2.2.2.2.2.2.2.2.2.1
theorem dX11_batchOf_127 : decode cX11_batchOf 127 = .ok (.iconst 1, 1) := dgX11_batchOf_32.2.2.2.2.2.2.2.2.2.2.2.1
theorem dX11_batchOf_128 : decode cX11_batchOf 128 = .ok (.goto 4, 3) := dgX11_batchOf_32.2.2.2.2.2.2.2.2.2.2.2.2.1
theorem dX11_batchOf_131 : decode cX11_batchOf 131 = .ok (.iconst 0, 1) := dgX11_batchOf_32.2.2.2.2.2.2.2.2.2.2.2.2.2.1
theorem dX11_batchOf_132 : decode cX11_batchOf 132 = .ok (.ireturn, 1) := dgX11_batchOf_32.2.2.2.2.2.2.2.2.2.2.2.2.2.2.1
theorem dX11_batchOf_133 : decode cX11_batchOf 133 = .ok (.aload_n 0, 1) := dgX11_batchOf_32.2.2.2.2.2.2.2.2.2.2.2.2.2.2.2
theorem dgX11_batchOf_48 : (decode cX11_batchOf 134 = .ok (.getfield 37, 3)) ∧ (decode cX11_batchOf 137 = .ok (.iload_n 1, 1)) ∧ (decode cX11_batchOf 138 = .ok (.iaload, 1)) ∧ (decode cX11_batchOf 139 = .ok (.ifCond .lt 12, 3)) ∧ (decode cX11_batchOf 142 = .ok (.aload_n 0, 1)) ∧ (decode cX11_batchOf 143 = .ok (.getfield 37, 3)) ∧ (decode cX11_batchOf 146 = .ok (.iload_n 1, 1)) ∧ (decode cX11_batchOf 147 = .ok (.iaload, 1)) ∧ (decode cX11_batchOf 148 = .ok (.goto 9, 3)) ∧ (decode cX11_batchOf 151 = .ok (.aload_n 0, 1)) ∧ (decode cX11_batchOf 152 = .ok (.getfield 34, 3)) ∧ (decode cX11_batchOf 155 = .ok (.iload_n 1, 1)) ∧ (decode cX11_batchOf 156 = .ok (.iaload, 1)) ∧ (decode cX11_batchOf 157 = .ok (.ireturn, 1)) ∧ (decode cX11_batchOf 158 = .ok (.aload_n 0, 1)) ∧ (decode cX11_batchOf 159 = .ok (.getfield 44, 3)) := by decide +kernel
theorem dX11_batchOf_134 : decode cX11_batchOf 134 = .ok (.getfield 37, 3) := dgX11_batchOf_48.1
theorem dX11_batchOf_137 : decode cX11_batchOf 137 = .ok (.iload_n 1, 1) := dgX11_batchOf_48.2.1
theorem dX11_batchOf_138 : decode cX11_batchOf 138 = .ok (.iaload, 1) := dgX11_batchOf_48.2.2.1
theorem dX11_batchOf_139 : decode cX11_batchOf 139 = .ok (.ifCond .lt 12, 3) := dgX11_batchOf_48.2.2.2.1
theorem dX11_batchOf_142 : decode cX11_batchOf 142 = .ok (.aload_n 0, 1) := dgX11_batchOf_48.2.2.2.2.1
theorem dX11_batchOf_143 : decode cX11_batchOf 143 = .ok (.getfield 37, 3) := dgX11_batchOf_48.2.2.2.2.2.1
theorem dX11_batchOf_146 : decode cX11_batchOf 146 = .ok (.iload_n 1, 1) := dgX11_batchOf_48.2.2.2.2.2.2.1
theorem dX11_batchOf_147 : decode cX11_batchOf 147 = .ok (.iaload, 1) := dgX11_batchOf_48.2.2.2.2.2.2.2.1
theorem dX11_batchOf_148 : decode cX11_batchOf 148 = .ok (.goto 9, 3) := dgX11_batchOf_48.2.2.2.2.2.2.2.2.1
theorem dX11_batchOf_151 : decode cX11_batchOf 151 = .ok (.aload_n 0, 1) := dgX11_batchOf_48.2.2.2.2.2.2.2.2.2.1
theorem dX11_batchOf_152 : decode cX11_batchOf 152 = .ok (.getfield 34, 3) := dgX11_batchOf_48.2.2.2.2.2.2.2.2.2.2.1
theorem dX11_batchOf_155 : decode cX11_batchOf 155 = .ok (.iload_n 1, 1) := dgX11_batchOf_48.2.2.2.2.2.2.2.2.2.2.2.1
theorem dX11_batchOf_156 : decode cX11_batchOf 156 = .ok (.iaload, 1) := dgX11_batchOf_48.2.2.2.2.2.2.2.2.2.2.2.2.1
theorem dX11_batchOf_157 : decode cX11_batchOf 157 = .ok (.ireturn, 1) := dgX11_batchOf_48.2.2.2.2.2.2.2.2.2.2.2.2.2.1
theorem dX11_batchOf_158 : decode cX11_batchOf 158 = .ok (.aload_n 0, 1) := dgX11_batchOf_48.2.2.2.2.2.2.2.2.2.2.2.2.2.2.1
theorem dX11_batchOf_159 : decode cX11_batchOf 159 = .ok (.getfield 44, 3) := dgX11_batchOf_48.2.2.2.2.2.2.2.2.2.2.2.2.2.2.2
theorem dgX11_batchOf_64 : (decode cX11_batchOf 162 = .ok (.iload_n 1, 1)) ∧ (decode cX11_batchOf 163 = .ok (.baload, 1)) ∧ (decode cX11_batchOf 164 = .ok (.ifCond .eq 7, 3)) ∧ (decode cX11_batchOf 167 = .ok (.iconst 1, 1)) ∧ (decode cX11_batchOf 168 = .ok (.goto 4, 3)) ∧ (decode cX11_batchOf 171 = .ok (.iconst 0, 1)) ∧ (decode cX11_batchOf 172 = .ok (.ireturn, 1)) ∧ (decode cX11_batchOf 173 = .ok (.aload_n 0, 1)) ∧ (decode cX11_batchOf 174 = .ok (.getfield 47, 3)) ∧ (decode cX11_batchOf 177 = .ok (.iload_n 1, 1)) ∧ (decode cX11_batchOf 178 = .ok (.iaload, 1)) ∧ (decode cX11_batchOf 179 = .ok (.ireturn, 1)) ∧ (decode cX11_batchOf 180 = .ok (.aload_n 0, 1)) ∧ (decode cX11_batchOf 181 = .ok (.getfield 50, 3)) ∧ (decode cX11_batchOf 184 = .ok (.iload_n 1, 1)) ∧ (decode cX11_batchOf 185 = .ok (.iaload, 1)) := by decide +kernel
theorem dX11_batchOf_162 : decode cX11_batchOf 162 = .ok (.iload_n 1, 1) := dgX11_batchOf_64.1
theorem dX11_batchOf_163 : decode cX11_batchOf 163 = .ok (.baload, 1) := dgX11_batchOf_64.2.1
theorem dX11_batchOf_164 : decode cX11_batchOf 164 = .ok (.ifCond .eq 7, 3) := dgX11_batchOf_64.2.2.1
theorem dX11_batchOf_167 : decode cX11_batchOf 167 = .ok (.iconst 1, 1) := dgX11_batchOf_64.2.2.2.1
theorem dX11_batchOf_168 : decode cX11_batchOf 168 = .ok (.goto 4, 3) := dgX11_batchOf_64.2.2.2.2.1
theorem dX11_batchOf_171 : decode cX11_batchOf 171 = .ok (.iconst 0, 1) := dgX11_batchOf_64.2.2.2.2.2.1
theorem dX11_batchOf_172 : decode cX11_batchOf 172 = .ok (.ireturn, 1) := dgX11_batchOf_64.2.2.2.2.2.2.1
theorem dX11_batchOf_173 : decode cX11_batchOf 173 = .ok (.aload_n 0, 1) := dgX11_batchOf_64.2.2.2.2.2.2.2.1
theorem dX11_batchOf_174 : decode cX11_batchOf 174 = .ok (.getfield 47, 3) := dgX11_batchOf_64.2.2.2.2.2.2.2.2.1
theorem dX11_batchOf_177 : decode cX11_batchOf 177 = .ok (.iload_n 1, 1) := dgX11_batchOf_64.2.2.2.2.2.2.2.2.2.1
theorem dX11_batchOf_178 : decode cX11_batchOf 178 = .ok (.iaload, 1) := dgX11_batchOf_64.2.2.2.2.2.2.2.2.2.2.1
theorem dX11_batchOf_179 : decode cX11_batchOf 179 = .ok (.ireturn, 1) := dgX11_batchOf_64.2.2.2.2.2.2.2.2.2.2.2.1
theorem dX11_batchOf_180 : decode cX11_batchOf 180 = .ok (.aload_n 0, 1) := dgX11_batchOf_64.2.2.2.2.2.2.2.2.2.2.2.2.1
theorem dX11_batchOf_181 : decode cX11_batchOf 181 = .ok (.getfield 50, 3) := dgX11_batchOf_64.2.2.2.2.2.2.2.2.2.2.2.2.2.1
theorem dX11_batchOf_184 : decode cX11_batchOf 184 = .ok (.iload_n 1, 1) := dgX11_batchOf_64.2.2.2.2.2.2.2.2.2.2.2.2.2.2.1
theorem dX11_batchOf_185 : decode cX11_batchOf 185 = .ok (.iaload, 1) := dgX11_batchOf_64.2.2.2.2.2.2.2.2.2.2.2.2.2.2.2
theorem dgX11_batchOf_80 : (decode cX11_batchOf 186 = .ok (.ireturn, 1)) ∧ (decode cX11_batchOf 187 = .ok (.aload_n 0, 1)) ∧ (decode cX11_batchOf 188 = .ok (.getfield 53, 3)) ∧ (decode cX11_batchOf 191 = .ok (.iload_n 1, 1)) ∧ (decode cX11_batchOf 192 = .ok (.iaload, 1)) ∧ (decode cX11_batchOf 193 = .ok (.ireturn, 1)) ∧ (decode cX11_batchOf 194 = .ok (.aload_n 0, 1)) ∧ (decode cX11_batchOf 195 = .ok (.getfield 56, 3)) ∧ (decode cX11_batchOf 198 = .ok (.iload_n 1, 1)) ∧ (decode cX11_batchOf 199 = .ok (.iaload, 1)) ∧ (decode cX11_batchOf 200 = .ok (.ireturn, 1)) ∧ (decode cX11_batchOf 201 = .ok (.iconst (-1), 1)) ∧ (decode cX11_batchOf 202 = .ok (.ireturn, 1)) := by decide +kernel
theorem dX11_batchOf_186 : decode cX11_batchOf 186 = .ok (.ireturn, 1) := dgX11_batchOf_80.1
theorem dX11_batchOf_187 : decode cX11_batchOf 187 = .ok (.aload_n 0, 1) := dgX11_batchOf_80.2.1
theorem dX11_batchOf_188 : decode cX11_batchOf 188 = .ok (.getfield 53, 3) := dgX11_batchOf_80.2.2.1
theorem dX11_batchOf_191 : decode cX11_batchOf 191 = .ok (.iload_n 1, 1) := dgX11_batchOf_80.2.2.2.1
theorem dX11_batchOf_192 : decode cX11_batchOf 192 = .ok (.iaload, 1) := dgX11_batchOf_80.2.2.2.2.1
theorem dX11_batchOf_193 : decode cX11_batchOf 193 = .ok (.ireturn, 1) := dgX11_batchOf_80.2.2.2.2.2.1
theorem dX11_batchOf_194 : decode cX11_batchOf 194 = .ok (.aload_n 0, 1) := dgX11_batchOf_80.2.2.2.2.2.2.1
theorem dX11_batchOf_195 : decode cX11_batchOf 195 = .ok (.getfield 56, 3) := dgX11_batchOf_80.2.2.2.2.2.2.2.1
theorem dX11_batchOf_198 : decode cX11_batchOf 198 = .ok (.iload_n 1, 1) := dgX11_batchOf_80.2.2.2.2.2.2.2.2.1
theorem dX11_batchOf_199 : decode cX11_batchOf 199 = .ok (.iaload, 1) := dgX11_batchOf_80.2.2.2.2.2.2.2.2.2.1
theorem dX11_batchOf_200 : decode cX11_batchOf 200 = .ok (.ireturn, 1) := dgX11_batchOf_80.2.2.2.2.2.2.2.2.2.2.1
theorem dX11_batchOf_201 : decode cX11_batchOf 201 = .ok (.iconst (-1), 1) := dgX11_batchOf_80.2.2.2.2.2.2.2.2.2.2.2.1
theorem dX11_batchOf_202 : decode cX11_batchOf 202 = .ok (.ireturn, 1) := dgX11_batchOf_80.2.2.2.2.2.2.2.2.2.2.2.2
theorem dgX11_temper_0 : (decode cX11_temper 0 = .ok (.iload_n 2, 1)) ∧ (decode cX11_temper 1 = .ok (.iload_n 3, 1)) ∧ (decode cX11_temper 2 = .ok (.if_icmp .ge 32, 3)) ∧ (decode cX11_temper 5 = .ok (.iload_n 3, 1)) ∧ (decode cX11_temper 6 = .ok (.iload 4, 2)) ∧ (decode cX11_temper 8 = .ok (.if_icmp .gt 26, 3)) ∧ (decode cX11_temper 11 = .ok (.iload 4, 2)) ∧ (decode cX11_temper 13 = .ok (.iload_n 1, 1)) ∧ (decode cX11_temper 14 = .ok (.if_icmp .ge 20, 3)) ∧ (decode cX11_temper 17 = .ok (.iload 5, 2)) ∧ (decode cX11_temper 19 = .ok (.iload_n 3, 1)) ∧ (decode cX11_temper 20 = .ok (.if_icmp .gt 14, 3)) ∧ (decode cX11_temper 23 = .ok (.iload 6, 2)) ∧ (decode cX11_temper 25 = .ok (.iconst 1, 1)) ∧ (decode cX11_temper 26 = .ok (.bipush 20, 2)) ∧ (decode cX11_temper 28 = .ok (.invokestatic 156, 3)) := by decide +kernel
theorem dX11_temper_0 : decode cX11_temper 0 = .ok (.iload_n 2, 1) := dgX11_temper_0.1
theorem dX11_temper_1 : decode cX11_temper 1 = .ok (.iload_n 3, 1) := dgX11_temper_0.2.1
theorem dX11_temper_2 : decode cX11_temper 2 = .ok (.if_icmp .ge 32, 3) := dgX11_temper_0.2.2.1
theorem dX11_temper_5 : decode cX11_temper 5 = .ok (.iload_n 3, 1) := dgX11_temper_0.2.2.2.1
theorem dX11_temper_6 : decode cX11_temper 6 = .ok (.iload 4, 2) := dgX11_temper_0.2.2.2.2.1
theorem dX11_temper_8 : decode cX11_temper 8 = .ok (.if_icmp .gt 26, 3) := dgX11_temper_0.2.2.2.2.2.1
theorem dX11_temper_11 : decode cX11_temper 11 = .ok (.iload 4, 2) := dgX11_temper_0.2.2.2.2.2.2.1
theorem dX11_temper_13 : decode cX11_temper 13 = .ok (.iload_n 1, 1) := dgX11_temper_0.2.2.2.2.2.2.2.1
theorem dX11_temper_14 : decode cX11_temper 14 = .ok (.if_icmp .ge 20, 3) := dgX11_temper_0.2.2.2.2.2.2.2.2.1
theorem dX11_temper_17 : decode cX11_temper 17 = .ok (.iload 5, 2) := dgX11_temper_0.2.2.2.2.2.2.2.2.2.1
theorem dX11_temper_19 : decode cX11_temper 19 = .ok (.iload_n 3, 1) := dgX11_temper_0.2.2.2.2.2.2.2.2.2.2.1
theorem dX11_temper_20 : decode cX11_temper 20 = .ok (.if_icmp .gt 14, 3) := dgX11_temper_0.2.2.2.2.2.2.2.2.2.2.2.1
theorem dX11_temper_23 : decode cX11_temper 23 = .ok (.iload 6, 2) := dgX11_temper_0.2.2.2.2.2.2.2.2.2.2.2.2.1
theorem dX11_temper_25 : decode cX11_temper 25 = .ok (.iconst 1, 1) := dgX11_temper_0.2.2.2.2.2.2.2.2.2.2.2.2.2.1
theorem dX11_temper_26 : decode cX11_temper 26 = .ok (.bipush 20, 2) := dgX11_temper_0.2.2.2.2.2.2.2.2.2.2.2.2.2.2.1
theorem dX11_temper_28 : decode cX11_temper 28 = .ok (.invokestatic 156, 3) := dgX11_temper_0.2.2.2.2.2.2.2.2.2.2.2.2.2.2.2
theorem dgX11_temper_16 : (decode cX11_temper 31 = .ok (.ifCond .ne 5, 3)) ∧ (decode cX11_temper 34 = .ok (.iconst 0, 1)) ∧ (decode cX11_temper 35 = .ok (.ireturn, 1)) ∧ (decode cX11_temper 36 = .ok (.aload_n 0, 1)) ∧ (decode cX11_temper 37 = .ok (.getfield 91, 3)) ∧ (decode cX11_temper 40 = .ok (.iconst 0, 1)) ∧ (decode cX11_temper 41 = .ok (.iload_n 1, 1)) ∧ (decode cX11_temper 42 = .ok (.iastore, 1)) ∧ (decode cX11_temper 43 = .ok (.aload_n 0, 1)) ∧ (decode cX11_temper 44 = .ok (.getfield 91, 3)) ∧ (decode cX11_temper 47 = .ok (.iconst 1, 1)) ∧ (decode cX11_temper 48 = .ok (.iload_n 2, 1)) ∧ (decode cX11_temper 49 = .ok (.iastore, 1)) ∧ (decode cX11_temper 50 = .ok (.aload_n 0, 1)) ∧ (decode cX11_temper 51 = .ok (.getfield 91, 3)) ∧ (decode cX11_temper 54 = .ok (.iconst 2, 1)) := by decide +kernel
theorem dX11_temper_31 : decode cX11_temper 31 = .ok (.ifCond .ne 5, 3) := dgX11_temper_16.1
theorem dX11_temper_34 : decode cX11_temper 34 = .ok (.iconst 0, 1) := dgX11_temper_16.2.1
theorem dX11_temper_35 : decode cX11_temper 35 = .ok (.ireturn, 1) := dgX11_temper_16.2.2.1
theorem dX11_temper_36 : decode cX11_temper 36 = .ok (.aload_n 0, 1) := dgX11_temper_16.2.2.2.1
theorem dX11_temper_37 : decode cX11_temper 37 = .ok (.getfield 91, 3) := dgX11_temper_16.2.2.2.2.1
theorem dX11_temper_40 : decode cX11_temper 40 = .ok (.iconst 0, 1) := dgX11_temper_16.2.2.2.2.2.1
theorem dX11_temper_41 : decode cX11_temper 41 = .ok (.iload_n 1, 1) := dgX11_temper_16.2.2.2.2.2.2.1
theorem dX11_temper_42 : decode cX11_temper 42 = .ok (.iastore, 1) := dgX11_temper_16.2.2.2.2.2.2.2.1
theorem dX11_temper_43 : decode cX11_temper 43 = .ok (.aload_n 0, 1) := dgX11_temper_16.2.2.2.2.2.2.2.2.1
theorem dX11_temper_44 : decode cX11_temper 44 = .ok (.getfield 91, 3) := dgX11_temper_16.2.2.2.2.2.2.2.2.2.1
theorem dX11_temper_47 : decode cX11_temper 47 = .ok (.iconst 1, 1) := dgX11_temper_16.2.2.2.2.2.2.2.2.2.2.1
theorem dX11_temper_48 : decode cX11_temper 48 = .ok (.iload_n 2, 1) := dgX11_temper_16.2.2.2.2.2.2.2.2.2.2.2.1
theorem dX11_temper_49 : decode cX11_temper 49 = .ok (.iastore, 1) := dgX11_temper_16.2.2.2.2.2.2.2.2.2.2.2.2.1
theorem dX11_temper_50 : decode cX11_temper 50 = .ok (.aload_n 0, 1) := dgX11_temper_16.2.2.2.2.2.2.2.2.2.2.2.2.2.1
theorem dX11_temper_51 : decode cX11_temper 51 = .ok (.getfield 91, 3) := dgX11_temper_16.2.2.2.2.2.2.2.2.2.2.2.2.2.2.1
theorem dX11_temper_54 : decode cX11_temper 54 = .ok (.iconst 2, 1) := dgX11_temper_16.2.2.2.2.2.2.2.2.2.2.2.2.2.2.2
theorem dgX11_temper_32 : (decode cX11_temper 55 = .ok (.iload_n 3, 1)) ∧ (decode cX11_temper 56 = .ok (.iastore, 1)) ∧ (decode cX11_temper 57 = .ok (.aload_n 0, 1)) ∧ (decode cX11_temper 58 = .ok (.getfield 91, 3)) ∧ (decode cX11_temper 61 = .ok (.iconst 3, 1)) ∧ (decode cX11_temper 62 = .ok (.iload 4, 2)) ∧ (decode cX11_temper 64 = .ok (.iastore, 1)) ∧ (decode cX11_temper 65 = .ok (.aload_n 0, 1)) ∧ (decode cX11_temper 66 = .ok (.getfield 91, 3)) ∧ (decode cX11_temper 69 = .ok (.iconst 4, 1)) ∧ (decode cX11_temper 70 = .ok (.iload 5, 2)) ∧ (decode cX11_temper 72 = .ok (.iastore, 1)) ∧ (decode cX11_temper 73 = .ok (.aload_n 0, 1)) ∧ (decode cX11_temper 74 = .ok (.getfield 91, 3)) ∧ (decode cX11_temper 77 = .ok (.iconst 5, 1)) ∧ (decode cX11_temper 78 = .ok (.iload 6, 2)) := by decide +kernel
theorem dX11_temper_55 : decode cX11_temper 55 = .ok (.iload_n 3, 1) := dgX11_temper_32.1
theorem dX11_temper_56 : decode cX11_temper 56 = .ok (.iastore, 1) := dgX11_temper_32.2.1
theorem dX11_temper_57 : decode cX11_temper 57 = .ok (.aload_n 0, 1) := dgX11_temper_32.2.2.1
theorem dX11_temper_58 : decode cX11_temper 58 = .ok (.getfield 91, 3) := dgX11_temper_32.2.2.2.1
theorem dX11_temper_61 : decode cX11_temper 61 = .ok (.iconst 3, 1) := dgX11_temper_32.2.2.2.2.1
theorem dX11_temper_62 : decode cX11_temper 62 = .ok (.iload 4, 2) := dgX11_temper_32.2.2.2.2.2.1
theorem dX11_temper_64 : decode cX11_temper 64 = .ok (.iastore, 1) := dgX11_temper_32.2.2.2.2.2.2.1
theorem dX11_temper_65 : decode cX11_temper 65 = .ok (.aload_n 0, 1) := dgX11_temper_32.2.2.2.2.2.2.2.1
theorem dX11_temper_66 : decode cX11_temper 66 = .ok (.getfield 91, 3) := dgX11_temper_32.2.2.2.2.2.2.2.2.1
theorem dX11_temper_69 : decode cX11_temper 69 = .ok (.iconst 4, 1) := dgX11_temper_32.2.2.2.2.2.2.2.2.2.1
theorem dX11_temper_70 : decode cX11_temper 70 = .ok (.iload 5, 2) := dgX11_temper_32.2.2.2.2.2.2.2.2.2.2.1
theorem dX11_temper_72 : decode cX11_temper 72 = .ok (.iastore, 1) := dgX11_temper_32.2.2.2.2.2.2.2.2.2.2.2.1
theorem dX11_temper_73 : decode cX11_temper 73 = .ok (.aload_n 0, 1) := dgX11_temper_32.2.2.2.2.2.2.2.2.2.2.2.2.1
theorem dX11_temper_74 : decode cX11_temper 74 = .ok (.getfield 91, 3) := dgX11_temper_32.2.2.2.2.2.2.2.2.2.2.2.2.2.1
theorem dX11_temper_77 : decode cX11_temper 77 = .ok (.iconst 5, 1) := dgX11_temper_32.2.2.2.2.2.2.2.2.2.2.2.2.2.2.1
theorem dX11_temper_78 : decode cX11_temper 78 = .ok (.iload 6, 2) := dgX11_temper_32.2.2.2.2.2.2.2.2.2.2.2.2.2.2.2
theorem dgX11_temper_48 : (decode cX11_temper 80 = .ok (.iastore, 1)) ∧ (decode cX11_temper 81 = .ok (.iconst 0, 1)) ∧ (decode cX11_temper 82 = .ok (.istore 7, 2)) ∧ (decode cX11_temper 84 = .ok (.iload 7, 2)) ∧ (decode cX11_temper 86 = .ok (.aload_n 0, 1)) ∧ (decode cX11_temper 87 = .ok (.getfield 153, 3)) ∧ (decode cX11_temper 90 = .ok (.if_icmp .ge 25, 3)) ∧ (decode cX11_temper 93 = .ok (.aload_n 0, 1)) ∧ (decode cX11_temper 94 = .ok (.getfield 47, 3)) ∧ (decode cX11_temper 97 = .ok (.iload 7, 2)) ∧ (decode cX11_temper 99 = .ok (.iconst 0, 1)) ∧ (decode cX11_temper 100 = .ok (.iastore, 1)) ∧ (decode cX11_temper 101 = .ok (.aload_n 0, 1)) ∧ (decode cX11_temper 102 = .ok (.getfield 50, 3)) ∧ (decode cX11_temper 105 = .ok (.iload 7, 2)) ∧ (decode cX11_temper 107 = .ok (.iconst 0, 1)) := by decide +kernel
theorem dX11_temper_80 : decode cX11_temper 80 = .ok (.iastore, 1) := dgX11_temper_48.1
theorem dX11_temper_81 : decode cX11_temper 81 = .ok (.iconst 0, 1) := dgX11_temper_48.2.1
theorem dX11_temper_82 : decode cX11_temper 82 = .ok (.istore 7, 2) := dgX11_temper_48.2.2.1
theorem dX11_temper_84 : decode cX11_temper 84 = .ok (.iload 7, 2) := dgX11_temper_48.2.2.2.1
theorem dX11_temper_86 : decode cX11_temper 86 = .ok (.aload_n 0, 1) := dgX11_temper_48.2.2.2.2.1
theorem dX11_temper_87 : decode cX11_temper 87 = .ok (.getfield 153, 3) := dgX11_temper_48.2.2.2.2.2.1
theorem dX11_temper_90 : decode cX11_temper 90 = .ok (.if_icmp .ge 25, 3) := dgX11_temper_48.2.2.2.2.2.2.1
theorem dX11_temper_93 : decode cX11_temper 93 = .ok (.aload_n 0, 1) := dgX11_temper_48.2.2.2.2.2.2.2.1
theorem dX11_temper_94 : decode cX11_temper 94 = .ok (.getfield 47, 3) := dgX11_temper_48.2.2.2.2.2.2.2.2.1
theorem dX11_temper_97 : decode cX11_temper 97 = .ok (.iload 7, 2) := dgX11_temper_48.2.2.2.2.2.2.2.2.2.1
theorem dX11_temper_99 : decode cX11_temper 99 = .ok (.iconst 0, 1) := dgX11_temper_48.2.2.2.2.2.2.2.2.2.2.1
theorem dX11_temper_100 : decode cX11_temper 100 = .ok (.iastore, 1) := dgX11_temper_48.2.2.2.2.2.2.2.2.2.2.2.1
theorem dX11_temper_101 : decode cX11_temper 101 = .ok (.aload_n 0, 1) := dgX11_temper_48.2.2.2.2.2.2.2.2.2.2.2.2.1
theorem dX11_temper_102 : decode cX11_temper 102 = .ok (.getfield 50, 3) := dgX11_temper_48.2.2.2.2.2.2.2.2.2.2.2.2.2.1
theorem dX11_temper_105 : decode cX11_temper 105 = .ok (.iload 7, 2) := dgX11_temper_48.2.2.2.2.2.2.2.2.2.2.2.2.2.2.1
theorem dX11_temper_107 : decode cX11_temper 107 = .ok (.iconst 0, 1) := dgX11_temper_48.2.2.2.2.2.2.2.2.2.2.2.2.2.2.2
theorem dgX11_temper_64 : (decode cX11_temper 108 = .ok (.iastore, 1)) ∧ (decode cX11_temper 109 = .ok (.iinc 7 1, 3)) ∧ (decode cX11_temper 112 = .ok (.goto (-28), 3)) ∧ (decode cX11_temper 115 = .ok (.iconst 1, 1)) ∧ (decode cX11_temper 116 = .ok (.ireturn, 1)) := by decide +kernel
theorem dX11_temper_108 : decode cX11_temper 108 = .ok (.iastore, 1) := dgX11_temper_64.1
theorem dX11_temper_109 : decode cX11_temper 109 = .ok (.iinc 7 1, 3) := dgX11_temper_64.2.1
theorem dX11_temper_112 : decode cX11_temper 112 = .ok (.goto (-28), 3) := dgX11_temper_64.2.2.1
theorem dX11_temper_115 : decode cX11_temper 115 = .ok (.iconst 1, 1) := dgX11_temper_64.2.2.2.1
theorem dX11_temper_116 : decode cX11_temper 116 = .ok (.ireturn, 1) := dgX11_temper_64.2.2.2.2
theorem dgX11_heat_0 : (decode cX11_heat 0 = .ok (.aload_n 0, 1)) ∧ (decode cX11_heat 1 = .ok (.iload_n 1, 1)) ∧ (decode cX11_heat 2 = .ok (.invokevirtual 165, 3)) ∧ (decode cX11_heat 5 = .ok (.ifCond .eq 22, 3)) ∧ (decode cX11_heat 8 = .ok (.aload_n 0, 1)) ∧ (decode cX11_heat 9 = .ok (.getfield 40, 3)) ∧ (decode cX11_heat 12 = .ok (.iload_n 1, 1)) ∧ (decode cX11_heat 13 = .ok (.baload, 1)) ∧ (decode cX11_heat 14 = .ok (.ifCond .eq 13, 3)) ∧ (decode cX11_heat 17 = .ok (.aload_n 0, 1)) ∧ (decode cX11_heat 18 = .ok (.getfield 16, 3)) ∧ (decode cX11_heat 21 = .ok (.iload_n 1, 1)) ∧ (decode cX11_heat 22 = .ok (.iaload, 1)) ∧ (decode cX11_heat 23 = .ok (.iconst 5, 1)) ∧ (decode cX11_heat 24 = .ok (.if_icmp .eq 5, 3)) ∧ (decode cX11_heat 27 = .ok (.iconst (-1), 1)) := by decide +kernel
theorem dX11_heat_0 : decode cX11_heat 0 = .ok (.aload_n 0, 1) := dgX11_heat_0.1
theorem dX11_heat_1 : decode cX11_heat 1 = .ok (.iload_n 1, 1) := dgX11_heat_0.2.1
theorem dX11_heat_2 : decode cX11_heat 2 = .ok (.invokevirtual 165, 3) := dgX11_heat_0.2.2.1
theorem dX11_heat_5 : decode cX11_heat 5 = .ok (.ifCond .eq 22, 3) := dgX11_heat_0.2.2.2.1
theorem dX11_heat_8 : decode cX11_heat 8 = .ok (.aload_n 0, 1) := dgX11_heat_0.2.2.2.2.1
theorem dX11_heat_9 : decode cX11_heat 9 = .ok (.getfield 40, 3) := dgX11_heat_0.2.2.2.2.2.1
theorem dX11_heat_12 : decode cX11_heat 12 = .ok (.iload_n 1, 1) := dgX11_heat_0.2.2.2.2.2.2.1
theorem dX11_heat_13 : decode cX11_heat 13 = .ok (.baload, 1) := dgX11_heat_0.2.2.2.2.2.2.2.1
theorem dX11_heat_14 : decode cX11_heat 14 = .ok (.ifCond .eq 13, 3) := dgX11_heat_0.2.2.2.2.2.2.2.2.1
theorem dX11_heat_17 : decode cX11_heat 17 = .ok (.aload_n 0, 1) := dgX11_heat_0.2.2.2.2.2.2.2.2.2.1
theorem dX11_heat_18 : decode cX11_heat 18 = .ok (.getfield 16, 3) := dgX11_heat_0.2.2.2.2.2.2.2.2.2.2.1
theorem dX11_heat_21 : decode cX11_heat 21 = .ok (.iload_n 1, 1) := dgX11_heat_0.2.2.2.2.2.2.2.2.2.2.2.1
theorem dX11_heat_22 : decode cX11_heat 22 = .ok (.iaload, 1) := dgX11_heat_0.2.2.2.2.2.2.2.2.2.2.2.2.1
theorem dX11_heat_23 : decode cX11_heat 23 = .ok (.iconst 5, 1) := dgX11_heat_0.2.2.2.2.2.2.2.2.2.2.2.2.2.1
theorem dX11_heat_24 : decode cX11_heat 24 = .ok (.if_icmp .eq 5, 3) := dgX11_heat_0.2.2.2.2.2.2.2.2.2.2.2.2.2.2.1
theorem dX11_heat_27 : decode cX11_heat 27 = .ok (.iconst (-1), 1) := dgX11_heat_0.2.2.2.2.2.2.2.2.2.2.2.2.2.2.2
theorem dgX11_heat_16 : (decode cX11_heat 28 = .ok (.ireturn, 1)) ∧ (decode cX11_heat 29 = .ok (.aload_n 0, 1)) ∧ (decode cX11_heat 30 = .ok (.getfield 47, 3)) ∧ (decode cX11_heat 33 = .ok (.iload_n 1, 1)) ∧ (decode cX11_heat 34 = .ok (.iaload, 1)) ∧ (decode cX11_heat 35 = .ok (.istore_n 3, 1)) ∧ (decode cX11_heat 36 = .ok (.iload_n 3, 1)) ∧ (decode cX11_heat 37 = .ok (.iconst 1, 1)) ∧ (decode cX11_heat 38 = .ok (.if_icmp .le 13, 3)) ∧ (decode cX11_heat 41 = .ok (.iload_n 2, 1)) ∧ (decode cX11_heat 42 = .ok (.aload_n 0, 1)) ∧ (decode cX11_heat 43 = .ok (.getfield 91, 3)) ∧ (decode cX11_heat 46 = .ok (.iconst 3, 1)) ∧ (decode cX11_heat 47 = .ok (.iaload, 1)) ∧ (decode cX11_heat 48 = .ok (.if_icmp .gt 18, 3)) ∧ (decode cX11_heat 51 = .ok (.iload_n 3, 1)) := by decide +kernel
theorem dX11_heat_28 : decode cX11_heat 28 = .ok (.ireturn, 1) := dgX11_heat_16.1
theorem dX11_heat_29 : decode cX11_heat 29 = .ok (.aload_n 0, 1) := dgX11_heat_16.2.1
theorem dX11_heat_30 : decode cX11_heat 30 = .ok (.getfield 47, 3) := dgX11_heat_16.2.2.1
theorem dX11_heat_33 : decode cX11_heat 33 = .ok (.iload_n 1, 1) := dgX11_heat_16.2.2.2.1
theorem dX11_heat_34 : decode cX11_heat 34 = .ok (.iaload, 1) := dgX11_heat_16.2.2.2.2.1
theorem dX11_heat_35 : decode cX11_heat 35 = .ok (.istore_n 3, 1) := dgX11_heat_16.2.2.2.2.2.1
theorem dX11_heat_36 : decode cX11_heat 36 = .ok (.iload_n 3, 1) := dgX11_heat_16.2.2.2.2.2.2.1
theorem dX11_heat_37 : decode cX11_heat 37 = .ok (.iconst 1, 1) := dgX11_heat_16.2.2.2.2.2.2.2.1
theorem dX11_heat_38 : decode cX11_heat 38 = .ok (.if_icmp .le 13, 3) := dgX11_heat_16.2.2.2.2.2.2.2.2.1
theorem dX11_heat_41 : decode cX11_heat 41 = .ok (.iload_n 2, 1) := dgX11_heat_16.2.2.2.2.2.2.2.2.2.1
theorem dX11_heat_42 : decode cX11_heat 42 = .ok (.aload_n 0, 1) := dgX11_heat_16.2.2.2.2.2.2.2.2.2.2.1
theorem dX11_heat_43 : decode cX11_heat 43 = .ok (.getfield 91, 3) := dgX11_heat_16.2.2.2.2.2.2.2.2.2.2.2.1
theorem dX11_heat_46 : decode cX11_heat 46 = .ok (.iconst 3, 1) := dgX11_heat_16.2.2.2.2.2.2.2.2.2.2.2.2.1
theorem dX11_heat_47 : decode cX11_heat 47 = .ok (.iaload, 1) := dgX11_heat_16.2.2.2.2.2.2.2.2.2.2.2.2.2.1
theorem dX11_heat_48 : decode cX11_heat 48 = .ok (.if_icmp .gt 18, 3) := dgX11_heat_16.2.2.2.2.2.2.2.2.2.2.2.2.2.2.1
theorem dX11_heat_51 : decode cX11_heat 51 = .ok (.iload_n 3, 1) := dgX11_heat_16.2.2.2.2.2.2.2.2.2.2.2.2.2.2.2
theorem dgX11_heat_32 : (decode cX11_heat 52 = .ok (.iconst 3, 1)) ∧ (decode cX11_heat 53 = .ok (.if_icmp .ne 22, 3)) ∧ (decode cX11_heat 56 = .ok (.iload_n 2, 1)) ∧ (decode cX11_heat 57 = .ok (.aload_n 0, 1)) ∧ (decode cX11_heat 58 = .ok (.getfield 91, 3)) ∧ (decode cX11_heat 61 = .ok (.iconst 4, 1)) ∧ (decode cX11_heat 62 = .ok (.iaload, 1)) ∧ (decode cX11_heat 63 = .ok (.if_icmp .ge 12, 3)) ∧ (decode cX11_heat 66 = .ok (.iconst 0, 1)) ∧ (decode cX11_heat 67 = .ok (.istore_n 3, 1)) ∧ (decode cX11_heat 68 = .ok (.aload_n 0, 1)) ∧ (decode cX11_heat 69 = .ok (.getfield 50, 3)) ∧ (decode cX11_heat 72 = .ok (.iload_n 1, 1)) ∧ (decode cX11_heat 73 = .ok (.iconst 0, 1)) ∧ (decode cX11_heat 74 = .ok (.iastore, 1)) ∧ (decode cX11_heat 75 = .ok (.iload_n 3, 1)) := by decide +kernel
theorem dX11_heat_52 : decode cX11_heat 52 = .ok (.iconst 3, 1) := dgX11_heat_32.1
theorem dX11_heat_53 : decode cX11_heat 53 = .ok (.if_icmp .ne 22, 3) := dgX11_heat_32.2.1
theorem dX11_heat_56 : decode cX11_heat 56 = .ok (.iload_n 2, 1) := dgX11_heat_32.2.2.1
theorem dX11_heat_57 : decode cX11_heat 57 = .ok (.aload_n 0, 1) := dgX11_heat_32.2.2.2.1
theorem dX11_heat_58 : decode cX11_heat 58 = .ok (.getfield 91, 3) := dgX11_heat_32.2.2.2.2.1
theorem dX11_heat_61 : decode cX11_heat 61 = .ok (.iconst 4, 1) := dgX11_heat_32.2.2.2.2.2.1
theorem dX11_heat_62 : decode cX11_heat 62 = .ok (.iaload, 1) := dgX11_heat_32.2.2.2.2.2.2.1
theorem dX11_heat_63 : decode cX11_heat 63 = .ok (.if_icmp .ge 12, 3) := dgX11_heat_32.2.2.2.2.2.2.2.1
theorem dX11_heat_66 : decode cX11_heat 66 = .ok (.iconst 0, 1) := dgX11_heat_32.2.2.2.2.2.2.2.2.1
theorem dX11_heat_67 : decode cX11_heat 67 = .ok (.istore_n 3, 1) := dgX11_heat_32.2.2.2.2.2.2.2.2.2.1
theorem dX11_heat_68 : decode cX11_heat 68 = .ok (.aload_n 0, 1) := dgX11_heat_32.2.2.2.2.2.2.2.2.2.2.1
theorem dX11_heat_69 : decode cX11_heat 69 = .ok (.getfield 50, 3) := dgX11_heat_32.2.2.2.2.2.2.2.2.2.2.2.1
theorem dX11_heat_72 : decode cX11_heat 72 = .ok (.iload_n 1, 1) := dgX11_heat_32.2.2.2.2.2.2.2.2.2.2.2.2.1
theorem dX11_heat_73 : decode cX11_heat 73 = .ok (.iconst 0, 1) := dgX11_heat_32.2.2.2.2.2.2.2.2.2.2.2.2.2.1
theorem dX11_heat_74 : decode cX11_heat 74 = .ok (.iastore, 1) := dgX11_heat_32.2.2.2.2.2.2.2.2.2.2.2.2.2.2.1
theorem dX11_heat_75 : decode cX11_heat 75 = .ok (.iload_n 3, 1) := dgX11_heat_32.2.2.2.2.2.2.2.2.2.2.2.2.2.2.2
theorem dgX11_heat_48 : (decode cX11_heat 76 = .ok (.iconst 3, 1)) ∧ (decode cX11_heat 77 = .ok (.if_icmp .ge 91, 3)) ∧ (decode cX11_heat 80 = .ok (.iload_n 3, 1)) ∧ (decode cX11_heat 81 = .ok (.iconst 1, 1)) ∧ (decode cX11_heat 82 = .ok (.if_icmp .ne 21, 3)) ∧ (decode cX11_heat 85 = .ok (.iload_n 2, 1)) ∧ (decode cX11_heat 86 = .ok (.aload_n 0, 1)) ∧ (decode cX11_heat 87 = .ok (.getfield 91, 3)) ∧ (decode cX11_heat 90 = .ok (.iconst 1, 1)) ∧ (decode cX11_heat 91 = .ok (.iaload, 1)) ∧ (decode cX11_heat 92 = .ok (.if_icmp .gt 7, 3)) ∧ (decode cX11_heat 95 = .ok (.iconst 1, 1)) ∧ (decode cX11_heat 96 = .ok (.goto 22, 3)) ∧ (decode cX11_heat 99 = .ok (.iconst 0, 1)) ∧ (decode cX11_heat 100 = .ok (.goto 18, 3)) ∧ (decode cX11_heat 103 = .ok (.iload_n 2, 1)) := by decide +kernel
theorem dX11_heat_76 : decode cX11_heat 76 = .ok (.iconst 3, 1) := dgX11_heat_48.1
theorem dX11_heat_77 : decode cX11_heat 77 = .ok (.if_icmp .ge 91, 3) := dgX11_heat_48.2.1
theorem dX11_heat_80 : decode cX11_heat 80 = .ok (.iload_n 3, 1) := dgX11_heat_48.2.2.1
theorem dX11_heat_81 : decode cX11_heat 81 = .ok (.iconst 1, 1) := dgX11_heat_48.2.2.2.1
theorem dX11_heat_82 : decode cX11_heat 82 = .ok (.if_icmp .ne 21, 3) := dgX11_heat_48.2.2.2.2.1
theorem dX11_heat_85 : decode cX11_heat 85 = .ok (.iload_n 2, 1) := dgX11_heat_48.2.2.2.2.2.1
theorem dX11_heat_86 : decode cX11_heat 86 = .ok (.aload_n 0, 1) := dgX11_heat_48.2.2.2.2.2.2.1
theorem dX11_heat_87 : decode cX11_heat 87 = .ok (.getfield 91, 3) := dgX11_heat_48.2.2.2.2.2.2.2.1
theorem dX11_heat_90 : decode cX11_heat 90 = .ok (.iconst 1, 1) := dgX11_heat_48.2.2.2.2.2.2.2.2.1
theorem dX11_heat_91 : decode cX11_heat 91 = .ok (.iaload, 1) := dgX11_heat_48.2.2.2.2.2.2.2.2.2.1
theorem dX11_heat_92 : decode cX11_heat 92 = .ok (.if_icmp .gt 7, 3) := dgX11_heat_48.2.2.2.2.2.2.2.2.2.2.1
theorem dX11_heat_95 : decode cX11_heat 95 = .ok (.iconst 1, 1) := dgX11_heat_48.2.2.2.2.2.2.2.2.2.2.2.1
theorem dX11_heat_96 : decode cX11_heat 96 = .ok (.goto 22, 3) := dgX11_heat_48.2.2.2.2.2.2.2.2.2.2.2.2.1
theorem dX11_heat_99 : decode cX11_heat 99 = .ok (.iconst 0, 1) := dgX11_heat_48.2.2.2.2.2.2.2.2.2.2.2.2.2.1
theorem dX11_heat_100 : decode cX11_heat 100 = .ok (.goto 18, 3) := dgX11_heat_48.2.2.2.2.2.2.2.2.2.2.2.2.2.2.1
theorem dX11_heat_103 : decode cX11_heat 103 = .ok (.iload_n 2, 1) := dgX11_heat_48.2.2.2.2.2.2.2.2.2.2.2.2.2.2.2
theorem dgX11_heat_64 : (decode cX11_heat 104 = .ok (.aload_n 0, 1)) ∧ (decode cX11_heat 105 = .ok (.getfield 91, 3)) ∧ (decode cX11_heat 108 = .ok (.iload_n 3, 1)) ∧ (decode cX11_heat 109 = .ok (.iaload, 1)) ∧ (decode cX11_heat 110 = .ok (.if_icmp .lt 7, 3)) ∧ (decode cX11_heat 113 = .ok (.iconst 1, 1)) ∧ (decode cX11_heat 114 = .ok (.goto 4, 3)) ∧ (decode cX11_heat 117 = .ok (.iconst 0, 1)) ∧ (decode cX11_heat 118 = .ok (.istore 4, 2)) ∧ (decode cX11_heat 120 = .ok (.aload_n 0, 1)) ∧ (decode cX11_heat 121 = .ok (.getfield 50, 3)) ∧ (decode cX11_heat 124 = .ok (.iload_n 1, 1)) ∧ (decode cX11_heat 125 = .ok (.iload 4, 2)) ∧ (decode cX11_heat 127 = .ok (.ifCond .eq 14, 3)) ∧ (decode cX11_heat 130 = .ok (.aload_n 0, 1)) ∧ (decode cX11_heat 131 = .ok (.getfield 50, 3)) := by decide +kernel
theorem dX11_heat_104 : decode cX11_heat 104 = .ok (.aload_n 0, 1) := dgX11_heat_64.1
theorem dX11_heat_105 : decode cX11_heat 105 = .ok (.getfield 91, 3) := dgX11_heat_64.2.1
theorem dX11_heat_108 : decode cX11_heat 108 = .ok (.iload_n 3, 1) := dgX11_heat_64.2.2.1
theorem dX11_heat_109 : decode cX11_heat 109 = .ok (.iaload, 1) := dgX11_heat_64.2.2.2.1
theorem dX11_heat_110 : decode cX11_heat 110 = .ok (.if_icmp .lt 7, 3) := dgX11_heat_64.2.2.2.2.1
theorem dX11_heat_113 : decode cX11_heat 113 = .ok (.iconst 1, 1) := dgX11_heat_64.2.2.2.2.2.1
theorem dX11_heat_114 : decode cX11_heat 114 = .ok (.goto 4, 3) := dgX11_heat_64.2.2.2.2.2.2.1
theorem dX11_heat_117 : decode cX11_heat 117 = .ok (.iconst 0, 1) := dgX11_heat_64.2.2.2.2.2.2.2.1
theorem dX11_heat_118 : decode cX11_heat 118 = .ok (.istore 4, 2) := dgX11_heat_64.2.2.2.2.2.2.2.2.1
theorem dX11_heat_120 : decode cX11_heat 120 = .ok (.aload_n 0, 1) := dgX11_heat_64.2.2.2.2.2.2.2.2.2.1
theorem dX11_heat_121 : decode cX11_heat 121 = .ok (.getfield 50, 3) := dgX11_heat_64.2.2.2.2.2.2.2.2.2.2.1
theorem dX11_heat_124 : decode cX11_heat 124 = .ok (.iload_n 1, 1) := dgX11_heat_64.2.2.2.2.2.2.2.2.2.2.2.1
theorem dX11_heat_125 : decode cX11_heat 125 = .ok (.iload 4, 2) := dgX11_heat_64.2.2.2.2.2.2.2.2.2.2.2.2.1
theorem dX11_heat_127 : decode cX11_heat 127 = .ok (.ifCond .eq 14, 3) := dgX11_heat_64.2.2.2.2.2.2.2.2.2.2.2.2.2.1
theorem dX11_heat_130 : decode cX11_heat 130 = .ok (.aload_n 0, 1) := dgX11_heat_64.2.2.2.2.2.2.2.2.2.2.2.2.2.2.1
theorem dX11_heat_131 : decode cX11_heat 131 = .ok (.getfield 50, 3) := dgX11_heat_64.2.2.2.2.2.2.2.2.2.2.2.2.2.2.2
theorem dgX11_heat_80 : (decode cX11_heat 134 = .ok (.iload_n 1, 1)) ∧ (decode cX11_heat 135 = .ok (.iaload, 1)) ∧ (decode cX11_heat 136 = .ok (.iconst 1, 1)) ∧ (decode cX11_heat 137 = .ok (.iadd, 1)) ∧ (decode cX11_heat 138 = .ok (.goto 4, 3)) ∧ (decode cX11_heat 141 = .ok (.iconst 0, 1)) ∧ (decode cX11_heat 142 = .ok (.iastore, 1)) ∧ (decode cX11_heat 143 = .ok (.aload_n 0, 1)) ∧ (decode cX11_heat 144 = .ok (.getfield 50, 3)) ∧ (decode cX11_heat 147 = .ok (.iload_n 1, 1)) ∧ (decode cX11_heat 148 = .ok (.iaload, 1)) ∧ (decode cX11_heat 149 = .ok (.aload_n 0, 1)) ∧ (decode cX11_heat 150 = .ok (.getfield 91, 3)) ∧ (decode cX11_heat 153 = .ok (.iconst 5, 1)) ∧ (decode cX11_heat 154 = .ok (.iaload, 1)) ∧ (decode cX11_heat 155 = .ok (.if_icmp .ne 13, 3)) := by decide +kernel
theorem dX11_heat_134 : decode cX11_heat 134 = .ok (.iload_n 1, 1) := dgX11_heat_80.1
theorem dX11_heat_135 : decode cX11_heat 135 = .ok (.iaload, 1) := dgX11_heat_80.2.1
theorem dX11_heat_136 : decode cX11_heat 136 = .ok (.iconst 1, 1) := dgX11_heat_80.2.2.1
theorem dX11_heat_137 : decode cX11_heat 137 = .ok (.iadd, 1) := dgX11_heat_80.2.2.2.1
theorem dX11_heat_138 : decode cX11_heat 138 = .ok (.goto 4, 3) := dgX11_heat_80.2.2.2.2.1
theorem dX11_heat_141 : decode cX11_heat 141 = .ok (.iconst 0, 1) := dgX11_heat_80.2.2.2.2.2.1
theorem dX11_heat_142 : decode cX11_heat 142 = .ok (.iastore, 1) := dgX11_heat_80.2.2.2.2.2.2.1
theorem dX11_heat_143 : decode cX11_heat 143 = .ok (.aload_n 0, 1) := dgX11_heat_80.2.2.2.2.2.2.2.1
theorem dX11_heat_144 : decode cX11_heat 144 = .ok (.getfield 50, 3) := dgX11_heat_80.2.2.2.2.2.2.2.2.1
theorem dX11_heat_147 : decode cX11_heat 147 = .ok (.iload_n 1, 1) := dgX11_heat_80.2.2.2.2.2.2.2.2.2.1
theorem dX11_heat_148 : decode cX11_heat 148 = .ok (.iaload, 1) := dgX11_heat_80.2.2.2.2.2.2.2.2.2.2.1
theorem dX11_heat_149 : decode cX11_heat 149 = .ok (.aload_n 0, 1) := dgX11_heat_80.2.2.2.2.2.2.2.2.2.2.2.1
theorem dX11_heat_150 : decode cX11_heat 150 = .ok (.getfield 91, 3) := dgX11_heat_80.2.2.2.2.2.2.2.2.2.2.2.2.1
theorem dX11_heat_153 : decode cX11_heat 153 = .ok (.iconst 5, 1) := dgX11_heat_80.2.2.2.2.2.2.2.2.2.2.2.2.2.1
theorem dX11_heat_154 : decode cX11_heat 154 = .ok (.iaload, 1) := dgX11_heat_80.2.2.2.2.2.2.2.2.2.2.2.2.2.2.1
theorem dX11_heat_155 : decode cX11_heat 155 = .ok (.if_icmp .ne 13, 3) := dgX11_heat_80.2.2.2.2.2.2.2.2.2.2.2.2.2.2.2
theorem dgX11_heat_96 : (decode cX11_heat 158 = .ok (.iinc 3 1, 3)) ∧ (decode cX11_heat 161 = .ok (.aload_n 0, 1)) ∧ (decode cX11_heat 162 = .ok (.getfield 50, 3)) ∧ (decode cX11_heat 165 = .ok (.iload_n 1, 1)) ∧ (decode cX11_heat 166 = .ok (.iconst 0, 1)) ∧ (decode cX11_heat 167 = .ok (.iastore, 1)) ∧ (decode cX11_heat 168 = .ok (.aload_n 0, 1)) ∧ (decode cX11_heat 169 = .ok (.getfield 47, 3)) ∧ (decode cX11_heat 172 = .ok (.iload_n 1, 1)) ∧ (decode cX11_heat 173 = .ok (.iload_n 3, 1)) ∧ (decode cX11_heat 174 = .ok (.iastore, 1)) ∧ (decode cX11_heat 175 = .ok (.iload_n 3, 1)) ∧ (decode cX11_heat 176 = .ok (.ireturn, 1)) := by decide +kernel
theorem dX11_heat_158 : decode cX11_heat 158 = .ok (.iinc 3 1, 3) := dgX11_heat_96.1
theorem dX11_heat_161 : decode cX11_heat 161 = .ok (.aload_n 0, 1) := dgX11_heat_96.2.1
theorem dX11_heat_162 : decode cX11_heat 162 = .ok (.getfield 50, 3) := dgX11_heat_96.2.2.1
theorem dX11_heat_165 : decode cX11_heat 165 = .ok (.iload_n 1, 1) := dgX11_heat_96.2.2.2.1
theorem dX11_heat_166 : decode cX11_heat 166 = .ok (.iconst 0, 1) := dgX11_heat_96.2.2.2.2.1
theorem dX11_heat_167 : decode cX11_heat 167 = .ok (.iastore, 1) := dgX11_heat_96.2.2.2.2.2.1
theorem dX11_heat_168 : decode cX11_heat 168 = .ok (.aload_n 0, 1) := dgX11_heat_96.2.2.2.2.2.2.1
theorem dX11_heat_169 : decode cX11_heat 169 = .ok (.getfield 47, 3) := dgX11_heat_96.2.2.2.2.2.2.2.1
theorem dX11_heat_172 : decode cX11_heat 172 = .ok (.iload_n 1, 1) := dgX11_heat_96.2.2.2.2.2.2.2.2.1
theorem dX11_heat_173 : decode cX11_heat 173 = .ok (.iload_n 3, 1) := dgX11_heat_96.2.2.2.2.2.2.2.2.2.1
theorem dX11_heat_174 : decode cX11_heat 174 = .ok (.iastore, 1) := dgX11_heat_96.2.2.2.2.2.2.2.2.2.2.1
theorem dX11_heat_175 : decode cX11_heat 175 = .ok (.iload_n 3, 1) := dgX11_heat_96.2.2.2.2.2.2.2.2.2.2.2.1
theorem dX11_heat_176 : decode cX11_heat 176 = .ok (.ireturn, 1) := dgX11_heat_96.2.2.2.2.2.2.2.2.2.2.2.2
theorem dgX11_cut_0 : (decode cX11_cut 0 = .ok (.iload_n 2, 1)) ∧ (decode cX11_cut 1 = .ok (.bipush 10, 2)) ∧ (decode cX11_cut 3 = .ok (.sipush 2000, 3)) ∧ (decode cX11_cut 6 = .ok (.invokestatic 156, 3)) ∧ (decode cX11_cut 9 = .ok (.ifCond .eq 41, 3)) ∧ (decode cX11_cut 12 = .ok (.iload_n 3, 1)) ∧ (decode cX11_cut 13 = .ok (.iconst 1, 1)) ∧ (decode cX11_cut 14 = .ok (.bipush 99, 2)) ∧ (decode cX11_cut 16 = .ok (.invokestatic 156, 3)) ∧ (decode cX11_cut 19 = .ok (.ifCond .eq 31, 3)) ∧ (decode cX11_cut 22 = .ok (.aload_n 0, 1)) ∧ (decode cX11_cut 23 = .ok (.iload_n 1, 1)) ∧ (decode cX11_cut 24 = .ok (.invokevirtual 200, 3)) ∧ (decode cX11_cut 27 = .ok (.ifCond .eq 23, 3)) ∧ (decode cX11_cut 30 = .ok (.aload_n 0, 1)) ∧ (decode cX11_cut 31 = .ok (.getfield 16, 3)) := by decide +kernel
theorem dX11_cut_0 : decode cX11_cut 0 = .ok (.iload_n 2, 1) := dgX11_cut_0.1
theorem dX11_cut_1 : decode cX11_cut 1 = .ok (.bipush 10, 2) := dgX11_cut_0.2.1
theorem dX11_cut_3 : decode cX11_cut 3 = .ok (.sipush 2000, 3) := dgX11_cut_0.2.2.1
theorem dX11_cut_6 : decode cX11_cut 6 = .ok (.invokestatic 156, 3) := dgX11_cut_0.2.2.2.1
theorem dX11_cut_9 : decode cX11_cut 9 = .ok (.ifCond .eq 41, 3) := dgX11_cut_0.2.2.2.2.1
theorem dX11_cut_12 : decode cX11_cut 12 = .ok (.iload_n 3, 1) := dgX11_cut_0.2.2.2.2.2.1
theorem dX11_cut_13 : decode cX11_cut 13 = .ok (.iconst 1, 1) := dgX11_cut_0.2.2.2.2.2.2.1
theorem dX11_cut_14 : decode cX11_cut 14 = .ok (.bipush 99, 2) := dgX11_cut_0.2.2.2.2.2.2.2.1
theorem dX11_cut_16 : decode cX11_cut 16 = .ok (.invokestatic 156, 3) := dgX11_cut_0.2.2.2.2.2.2.2.2.1
theorem dX11_cut_19 : decode cX11_cut 19 = .ok (.ifCond .eq 31, 3) := dgX11_cut_0.2.2.2.2.2.2.2.2.2.1
theorem dX11_cut_22 : decode cX11_cut 22 = .ok (.aload_n 0, 1) := dgX11_cut_0.2.2.2.2.2.2.2.2.2.2.1
theorem dX11_cut_23 : decode cX11_cut 23 = .ok (.iload_n 1, 1) := dgX11_cut_0.2.2.2.2.2.2.2.2.2.2.2.1
theorem dX11_cut_24 : decode cX11_cut 24 = .ok (.invokevirtual 200, 3) := dgX11_cut_0.2.2.2.2.2.2.2.2.2.2.2.2.1
theorem dX11_cut_27 : decode cX11_cut 27 = .ok (.ifCond .eq 23, 3) := dgX11_cut_0.2.2.2.2.2.2.2.2.2.2.2.2.2.1
theorem dX11_cut_30 : decode cX11_cut 30 = .ok (.aload_n 0, 1) := dgX11_cut_0.2.2.2.2.2.2.2.2.2.2.2.2.2.2.1
theorem dX11_cut_31 : decode cX11_cut 31 = .ok (.getfield 16, 3) := dgX11_cut_0.2.2.2.2.2.2.2.2.2.2.2.2.2.2.2
theorem dgX11_cut_16 : (decode cX11_cut 34 = .ok (.iload_n 1, 1)) ∧ (decode cX11_cut 35 = .ok (.iaload, 1)) ∧ (decode cX11_cut 36 = .ok (.iconst 3, 1)) ∧ (decode cX11_cut 37 = .ok (.if_icmp .eq 15, 3)) ∧ (decode cX11_cut 40 = .ok (.aload_n 0, 1)) ∧ (decode cX11_cut 41 = .ok (.getfield 16, 3)) ∧ (decode cX11_cut 44 = .ok (.iload_n 1, 1)) ∧ (decode cX11_cut 45 = .ok (.iaload, 1)) ∧ (decode cX11_cut 46 = .ok (.iconst 4, 1)) ∧ (decode cX11_cut 47 = .ok (.if_icmp .eq 5, 3)) ∧ (decode cX11_cut 50 = .ok (.iconst (-1), 1)) ∧ (decode cX11_cut 51 = .ok (.ireturn, 1)) ∧ (decode cX11_cut 52 = .ok (.iconst 0, 1)) ∧ (decode cX11_cut 53 = .ok (.istore 4, 2)) ∧ (decode cX11_cut 55 = .ok (.iload 4, 2)) ∧ (decode cX11_cut 57 = .ok (.iload_n 3, 1)) := by decide +kernel
theorem dX11_cut_34 : decode cX11_cut 34 = .ok (.iload_n 1, 1) := dgX11_cut_16.1
theorem dX11_cut_35 : decode cX11_cut 35 = .ok (.iaload, 1) := dgX11_cut_16.2.1
theorem dX11_cut_36 : decode cX11_cut 36 = .ok (.iconst 3, 1) := dgX11_cut_16.2.2.1
theorem dX11_cut_37 : decode cX11_cut 37 = .ok (.if_icmp .eq 15, 3) := dgX11_cut_16.2.2.2.1
theorem dX11_cut_40 : decode cX11_cut 40 = .ok (.aload_n 0, 1) := dgX11_cut_16.2.2.2.2.1
theorem dX11_cut_41 : decode cX11_cut 41 = .ok (.getfield 16, 3) := dgX11_cut_16.2.2.2.2.2.1
theorem dX11_cut_44 : decode cX11_cut 44 = .ok (.iload_n 1, 1) := dgX11_cut_16.2.2.2.2.2.2.1
theorem dX11_cut_45 : decode cX11_cut 45 = .ok (.iaload, 1) := dgX11_cut_16.2.2.2.2.2.2.2.1
theorem dX11_cut_46 : decode cX11_cut 46 = .ok (.iconst 4, 1) := dgX11_cut_16.2.2.2.2.2.2.2.2.1
theorem dX11_cut_47 : decode cX11_cut 47 = .ok (.if_icmp .eq 5, 3) := dgX11_cut_16.2.2.2.2.2.2.2.2.2.1
theorem dX11_cut_50 : decode cX11_cut 50 = .ok (.iconst (-1), 1) := dgX11_cut_16.2.2.2.2.2.2.2.2.2.2.1
theorem dX11_cut_51 : decode cX11_cut 51 = .ok (.ireturn, 1) := dgX11_cut_16.2.2.2.2.2.2.2.2.2.2.2.1
theorem dX11_cut_52 : decode cX11_cut 52 = .ok (.iconst 0, 1) := dgX11_cut_16.2.2.2.2.2.2.2.2.2.2.2.2.1
theorem dX11_cut_53 : decode cX11_cut 53 = .ok (.istore 4, 2) := dgX11_cut_16.2.2.2.2.2.2.2.2.2.2.2.2.2.1
theorem dX11_cut_55 : decode cX11_cut 55 = .ok (.iload 4, 2) := dgX11_cut_16.2.2.2.2.2.2.2.2.2.2.2.2.2.2.1
theorem dX11_cut_57 : decode cX11_cut 57 = .ok (.iload_n 3, 1) := dgX11_cut_16.2.2.2.2.2.2.2.2.2.2.2.2.2.2.2
theorem dgX11_cut_32 : (decode cX11_cut 58 = .ok (.if_icmp .ge 109, 3)) ∧ (decode cX11_cut 61 = .ok (.aload_n 0, 1)) ∧ (decode cX11_cut 62 = .ok (.getfield 203, 3)) ∧ (decode cX11_cut 65 = .ok (.sipush 600, 3)) ∧ (decode cX11_cut 68 = .ok (.if_icmp .ge 99, 3)) ∧ (decode cX11_cut 71 = .ok (.aload_n 0, 1)) ∧ (decode cX11_cut 72 = .ok (.getfield 19, 3)) ∧ (decode cX11_cut 75 = .ok (.iload_n 1, 1)) ∧ (decode cX11_cut 76 = .ok (.iaload, 1)) ∧ (decode cX11_cut 77 = .ok (.iload_n 2, 1)) ∧ (decode cX11_cut 78 = .ok (.if_icmp .lt 89, 3)) ∧ (decode cX11_cut 81 = .ok (.aload_n 0, 1)) ∧ (decode cX11_cut 82 = .ok (.getfield 100, 3)) ∧ (decode cX11_cut 85 = .ok (.aload_n 0, 1)) ∧ (decode cX11_cut 86 = .ok (.getfield 203, 3)) ∧ (decode cX11_cut 89 = .ok (.iload_n 1, 1)) := by decide +kernel
theorem dX11_cut_58 : decode cX11_cut 58 = .ok (.if_icmp .ge 109, 3) := dgX11_cut_32.1
theorem dX11_cut_61 : decode cX11_cut 61 = .ok (.aload_n 0, 1) := dgX11_cut_32.2.1
theorem dX11_cut_62 : decode cX11_cut 62 = .ok (.getfield 203, 3) := dgX11_cut_32.2.2.1
theorem dX11_cut_65 : decode cX11_cut 65 = .ok (.sipush 600, 3) := dgX11_cut_32.2.2.2.1
theorem dX11_cut_68 : decode cX11_cut 68 = .ok (.if_icmp .ge 99, 3) := dgX11_cut_32.2.2.2.2.1
theorem dX11_cut_71 : decode cX11_cut 71 = .ok (.aload_n 0, 1) := dgX11_cut_32.2.2.2.2.2.1
theorem dX11_cut_72 : decode cX11_cut 72 = .ok (.getfield 19, 3) := dgX11_cut_32.2.2.2.2.2.2.1
theorem dX11_cut_75 : decode cX11_cut 75 = .ok (.iload_n 1, 1) := dgX11_cut_32.2.2.2.2.2.2.2.1
theorem dX11_cut_76 : decode cX11_cut 76 = .ok (.iaload, 1) := dgX11_cut_32.2.2.2.2.2.2.2.2.1
theorem dX11_cut_77 : decode cX11_cut 77 = .ok (.iload_n 2, 1) := dgX11_cut_32.2.2.2.2.2.2.2.2.2.1
theorem dX11_cut_78 : decode cX11_cut 78 = .ok (.if_icmp .lt 89, 3) := dgX11_cut_32.2.2.2.2.2.2.2.2.2.2.1
theorem dX11_cut_81 : decode cX11_cut 81 = .ok (.aload_n 0, 1) := dgX11_cut_32.2.2.2.2.2.2.2.2.2.2.2.1
theorem dX11_cut_82 : decode cX11_cut 82 = .ok (.getfield 100, 3) := dgX11_cut_32.2.2.2.2.2.2.2.2.2.2.2.2.1
theorem dX11_cut_85 : decode cX11_cut 85 = .ok (.aload_n 0, 1) := dgX11_cut_32.2.2.2.2.2.2.2.2.2.2.2.2.2.1
theorem dX11_cut_86 : decode cX11_cut 86 = .ok (.getfield 203, 3) := dgX11_cut_32.2.2.2.2.2.2.2.2.2.2.2.2.2.2.1
theorem dX11_cut_89 : decode cX11_cut 89 = .ok (.iload_n 1, 1) := dgX11_cut_32.2.2.2.2.2.2.2.2.2.2.2.2.2.2.2
theorem dgX11_cut_48 : (decode cX11_cut 90 = .ok (.iastore, 1)) ∧ (decode cX11_cut 91 = .ok (.aload_n 0, 1)) ∧ (decode cX11_cut 92 = .ok (.getfield 103, 3)) ∧ (decode cX11_cut 95 = .ok (.aload_n 0, 1)) ∧ (decode cX11_cut 96 = .ok (.getfield 203, 3)) ∧ (decode cX11_cut 99 = .ok (.iload_n 2, 1)) ∧ (decode cX11_cut 100 = .ok (.iastore, 1)) ∧ (decode cX11_cut 101 = .ok (.aload_n 0, 1)) ∧ (decode cX11_cut 102 = .ok (.getfield 106, 3)) ∧ (decode cX11_cut 105 = .ok (.aload_n 0, 1)) ∧ (decode cX11_cut 106 = .ok (.getfield 203, 3)) ∧ (decode cX11_cut 109 = .ok (.iconst (-1), 1)) ∧ (decode cX11_cut 110 = .ok (.iastore, 1)) ∧ (decode cX11_cut 111 = .ok (.aload_n 0, 1)) ∧ (decode cX11_cut 112 = .ok (.getfield 109, 3)) ∧ (decode cX11_cut 115 = .ok (.aload_n 0, 1)) := by decide +kernel
theorem dX11_cut_90 : decode cX11_cut 90 = .ok (.iastore, 1) := dgX11_cut_48.1
theorem dX11_cut_91 : decode cX11_cut 91 = .ok (.aload_n 0, 1) := dgX11_cut_48.2.1
theorem dX11_cut_92 : decode cX11_cut 92 = .ok (.getfield 103, 3) := dgX11_cut_48.2.2.1
theorem dX11_cut_95 : decode cX11_cut 95 = .ok (.aload_n 0, 1) := dgX11_cut_48.2.2.2.1
theorem dX11_cut_96 : decode cX11_cut 96 = .ok (.getfield 203, 3) := dgX11_cut_48.2.2.2.2.1
theorem dX11_cut_99 : decode cX11_cut 99 = .ok (.iload_n 2, 1) := dgX11_cut_48.2.2.2.2.2.1
theorem dX11_cut_100 : decode cX11_cut 100 = .ok (.iastore, 1) := dgX11_cut_48.2.2.2.2.2.2.1
theorem dX11_cut_101 : decode cX11_cut 101 = .ok (.aload_n 0, 1) := dgX11_cut_48.2.2.2.2.2.2.2.1
theorem dX11_cut_102 : decode cX11_cut 102 = .ok (.getfield 106, 3) := dgX11_cut_48.2.2.2.2.2.2.2.2.1
theorem dX11_cut_105 : decode cX11_cut 105 = .ok (.aload_n 0, 1) := dgX11_cut_48.2.2.2.2.2.2.2.2.2.1
theorem dX11_cut_106 : decode cX11_cut 106 = .ok (.getfield 203, 3) := dgX11_cut_48.2.2.2.2.2.2.2.2.2.2.1
theorem dX11_cut_109 : decode cX11_cut 109 = .ok (.iconst (-1), 1) := dgX11_cut_48.2.2.2.2.2.2.2.2.2.2.2.1
theorem dX11_cut_110 : decode cX11_cut 110 = .ok (.iastore, 1) := dgX11_cut_48.2.2.2.2.2.2.2.2.2.2.2.2.1
theorem dX11_cut_111 : decode cX11_cut 111 = .ok (.aload_n 0, 1) := dgX11_cut_48.2.2.2.2.2.2.2.2.2.2.2.2.2.1
theorem dX11_cut_112 : decode cX11_cut 112 = .ok (.getfield 109, 3) := dgX11_cut_48.2.2.2.2.2.2.2.2.2.2.2.2.2.2.1
theorem dX11_cut_115 : decode cX11_cut 115 = .ok (.aload_n 0, 1) := dgX11_cut_48.2.2.2.2.2.2.2.2.2.2.2.2.2.2.2
theorem dgX11_cut_64 : (decode cX11_cut 116 = .ok (.getfield 203, 3)) ∧ (decode cX11_cut 119 = .ok (.iconst (-1), 1)) ∧ (decode cX11_cut 120 = .ok (.iastore, 1)) ∧ (decode cX11_cut 121 = .ok (.aload_n 0, 1)) ∧ (decode cX11_cut 122 = .ok (.getfield 118, 3)) ∧ (decode cX11_cut 125 = .ok (.aload_n 0, 1)) ∧ (decode cX11_cut 126 = .ok (.getfield 203, 3)) ∧ (decode cX11_cut 129 = .ok (.iconst (-1), 1)) ∧ (decode cX11_cut 130 = .ok (.iastore, 1)) ∧ (decode cX11_cut 131 = .ok (.aload_n 0, 1)) ∧ (decode cX11_cut 132 = .ok (.dup, 1)) ∧ (decode cX11_cut 133 = .ok (.getfield 203, 3)) ∧ (decode cX11_cut 136 = .ok (.iconst 1, 1)) ∧ (decode cX11_cut 137 = .ok (.iadd, 1)) ∧ (decode cX11_cut 138 = .ok (.putfield 203, 3)) ∧ (decode cX11_cut 141 = .ok (.aload_n 0, 1)) := by decide +kernel
theorem dX11_cut_116 : decode cX11_cut 116 = .ok (.getfield 203, 3) := dgX11_cut_64.1
theorem dX11_cut_119 : decode cX11_cut 119 = .ok (.iconst (-1), 1) := dgX11_cut_64.2.1
theorem dX11_cut_120 : decode cX11_cut 120 = .ok (.iastore, 1) := dgX11_cut_64.2.2.1
theorem dX11_cut_121 : decode cX11_cut 121 = .ok (.aload_n 0, 1) := dgX11_cut_64.2.2.2.1
theorem dX11_cut_122 : decode cX11_cut 122 = .ok (.getfield 118, 3) := dgX11_cut_64.2.2.2.2.1
theorem dX11_cut_125 : decode cX11_cut 125 = .ok (.aload_n 0, 1) := dgX11_cut_64.2.2.2.2.2.1
theorem dX11_cut_126 : decode cX11_cut 126 = .ok (.getfield 203, 3) := dgX11_cut_64.2.2.2.2.2.2.1
theorem dX11_cut_129 : decode cX11_cut 129 = .ok (.iconst (-1), 1) := dgX11_cut_64.2.2.2.2.2.2.2.1
theorem dX11_cut_130 : decode cX11_cut 130 = .ok (.iastore, 1) := dgX11_cut_64.2.2.2.2.2.2.2.2.1
theorem dX11_cut_131 : decode cX11_cut 131 = .ok (.aload_n 0, 1) := dgX11_cut_64.2.2.2.2.2.2.2.2.2.1
theorem dX11_cut_132 : decode cX11_cut 132 = .ok (.dup, 1) := dgX11_cut_64.2.2.2.2.2.2.2.2.2.2.1
theorem dX11_cut_133 : decode cX11_cut 133 = .ok (.getfield 203, 3) := dgX11_cut_64.2.2.2.2.2.2.2.2.2.2.2.1
theorem dX11_cut_136 : decode cX11_cut 136 = .ok (.iconst 1, 1) := dgX11_cut_64.2.2.2.2.2.2.2.2.2.2.2.2.1
theorem dX11_cut_137 : decode cX11_cut 137 = .ok (.iadd, 1) := dgX11_cut_64.2.2.2.2.2.2.2.2.2.2.2.2.2.1
theorem dX11_cut_138 : decode cX11_cut 138 = .ok (.putfield 203, 3) := dgX11_cut_64.2.2.2.2.2.2.2.2.2.2.2.2.2.2.1
theorem dX11_cut_141 : decode cX11_cut 141 = .ok (.aload_n 0, 1) := dgX11_cut_64.2.2.2.2.2.2.2.2.2.2.2.2.2.2.2
theorem dgX11_cut_80 : (decode cX11_cut 142 = .ok (.getfield 19, 3)) ∧ (decode cX11_cut 145 = .ok (.iload_n 1, 1)) ∧ (decode cX11_cut 146 = .ok (.dup2, 1)) ∧ (decode cX11_cut 147 = .ok (.iaload, 1)) ∧ (decode cX11_cut 148 = .ok (.iload_n 2, 1)) ∧ (decode cX11_cut 149 = .ok (.isub, 1)) ∧ (decode cX11_cut 150 = .ok (.iastore, 1)) ∧ (decode cX11_cut 151 = .ok (.aload_n 0, 1)) ∧ (decode cX11_cut 152 = .ok (.getfield 53, 3)) ∧ (decode cX11_cut 155 = .ok (.iload_n 1, 1)) ∧ (decode cX11_cut 156 = .ok (.dup2, 1)) ∧ (decode cX11_cut 157 = .ok (.iaload, 1)) ∧ (decode cX11_cut 158 = .ok (.iload_n 2, 1)) ∧ (decode cX11_cut 159 = .ok (.iadd, 1)) ∧ (decode cX11_cut 160 = .ok (.iastore, 1)) ∧ (decode cX11_cut 161 = .ok (.iinc 4 1, 3)) := by decide +kernel
theorem dX11_cut_142 : decode cX11_cut 142 = .ok (.getfield 19, 3) := dgX11_cut_80.1
theorem dX11_cut_145 : decode cX11_cut 145 = .ok (.iload_n 1, 1) := dgX11_cut_80.2.1
theorem dX11_cut_146 : decode cX11_cut 146 = .ok (.dup2, 1) := dgX11_cut_80.2.2.1
theorem dX11_cut_147 : decode cX11_cut 147 = .ok (.iaload, 1) := dgX11_cut_80.2.2.2.1
theorem dX11_cut_148 : decode cX11_cut 148 = .ok (.iload_n 2, 1) := dgX11_cut_80.2.2.2.2.1
theorem dX11_cut_149 : decode cX11_cut 149 = .ok (.isub, 1) := dgX11_cut_80.2.2.2.2.2.1
theorem dX11_cut_150 : decode cX11_cut 150 = .ok (.iastore, 1) := dgX11_cut_80.2.2.2.2.2.2.1
theorem dX11_cut_151 : decode cX11_cut 151 = .ok (.aload_n 0, 1) := dgX11_cut_80.2.2.2.2.2.2.2.1
theorem dX11_cut_152 : decode cX11_cut 152 = .ok (.getfield 53, 3) := dgX11_cut_80.2.2.2.2.2.2.2.2.1
theorem dX11_cut_155 : decode cX11_cut 155 = .ok (.iload_n 1, 1) := dgX11_cut_80.2.2.2.2.2.2.2.2.2.1
theorem dX11_cut_156 : decode cX11_cut 156 = .ok (.dup2, 1) := dgX11_cut_80.2.2.2.2.2.2.2.2.2.2.1
theorem dX11_cut_157 : decode cX11_cut 157 = .ok (.iaload, 1) := dgX11_cut_80.2.2.2.2.2.2.2.2.2.2.2.1
theorem dX11_cut_158 : decode cX11_cut 158 = .ok (.iload_n 2, 1) := dgX11_cut_80.2.2.2.2.2.2.2.2.2.2.2.2.1
theorem dX11_cut_159 : decode cX11_cut 159 = .ok (.iadd, 1) := dgX11_cut_80.2.2.2.2.2.2.2.2.2.2.2.2.2.1
theorem dX11_cut_160 : decode cX11_cut 160 = .ok (.iastore, 1) := dgX11_cut_80.2.2.2.2.2.2.2.2.2.2.2.2.2.2.1
theorem dX11_cut_161 : decode cX11_cut 161 = .ok (.iinc 4 1, 3) := dgX11_cut_80.2.2.2.2.2.2.2.2.2.2.2.2.2.2.2
theorem dgX11_cut_96 : (decode cX11_cut 164 = .ok (.goto (-109), 3)) ∧ (decode cX11_cut 167 = .ok (.iload 4, 2)) ∧ (decode cX11_cut 169 = .ok (.ireturn, 1)) := by decide +kernel
theorem dX11_cut_164 : decode cX11_cut 164 = .ok (.goto (-109), 3) := dgX11_cut_96.1
theorem dX11_cut_167 : decode cX11_cut 167 = .ok (.iload 4, 2) := dgX11_cut_96.2.1
theorem dX11_cut_169 : decode cX11_cut 169 = .ok (.ireturn, 1) := dgX11_cut_96.2.2
theorem dgX11_isOut_0 : (decode cX11_isOut 0 = .ok (.iload_n 1, 1)) ∧ (decode cX11_isOut 1 = .ok (.iconst 0, 1)) ∧ (decode cX11_isOut 2 = .ok (.aload_n 0, 1)) ∧ (decode cX11_isOut 3 = .ok (.getfield 203, 3)) ∧ (decode cX11_isOut 6 = .ok (.iconst 1, 1)) ∧ (decode cX11_isOut 7 = .ok (.isub, 1)) ∧ (decode cX11_isOut 8 = .ok (.invokestatic 156, 3)) ∧ (decode cX11_isOut 11 = .ok (.ifCond .eq 17, 3)) ∧ (decode cX11_isOut 14 = .ok (.aload_n 0, 1)) ∧ (decode cX11_isOut 15 = .ok (.getfield 115, 3)) ∧ (decode cX11_isOut 18 = .ok (.iload_n 1, 1)) ∧ (decode cX11_isOut 19 = .ok (.iaload, 1)) ∧ (decode cX11_isOut 20 = .ok (.iconst 2, 1)) ∧ (decode cX11_isOut 21 = .ok (.if_icmp .eq 7, 3)) ∧ (decode cX11_isOut 24 = .ok (.iconst 1, 1)) ∧ (decode cX11_isOut 25 = .ok (.goto 4, 3)) := by decide +kernel
theorem dX11_isOut_0 : decode cX11_isOut 0 = .ok (.iload_n 1, 1) := dgX11_isOut_0.1
theorem dX11_isOut_1 : decode cX11_isOut 1 = .ok (.iconst 0, 1) := dgX11_isOut_0.2.1
theorem dX11_isOut_2 : decode cX11_isOut 2 = .ok (.aload_n 0, 1) := dgX11_isOut_0.2.2.1
theorem dX11_isOut_3 : decode cX11_isOut 3 = .ok (.getfield 203, 3) := dgX11_isOut_0.2.2.2.1
theorem dX11_isOut_6 : decode cX11_isOut 6 = .ok (.iconst 1, 1) := dgX11_isOut_0.2.2.2.2.1
theorem dX11_isOut_7 : decode cX11_isOut 7 = .ok (.isub, 1) := dgX11_isOut_0.2.2.2.2.2.1
theorem dX11_isOut_8 : decode cX11_isOut 8 = .ok (.invokestatic 156, 3) := dgX11_isOut_0.2.2.2.2.2.2.1
theorem dX11_isOut_11 : decode cX11_isOut 11 = .ok (.ifCond .eq 17, 3) := dgX11_isOut_0.2.2.2.2.2.2.2.1
theorem dX11_isOut_14 : decode cX11_isOut 14 = .ok (.aload_n 0, 1) := dgX11_isOut_0.2.2.2.2.2.2.2.2.1
theorem dX11_isOut_15 : decode cX11_isOut 15 = .ok (.getfield 115, 3) := dgX11_isOut_0.2.2.2.2.2.2.2.2.2.1
theorem dX11_isOut_18 : decode cX11_isOut 18 = .ok (.iload_n 1, 1) := dgX11_isOut_0.2.2.2.2.2.2.2.2.2.2.1
theorem dX11_isOut_19 : decode cX11_isOut 19 = .ok (.iaload, 1) := dgX11_isOut_0.2.2.2.2.2.2.2.2.2.2.2.1
theorem dX11_isOut_20 : decode cX11_isOut 20 = .ok (.iconst 2, 1) := dgX11_isOut_0.2.2.2.2.2.2.2.2.2.2.2.2.1
theorem dX11_isOut_21 : decode cX11_isOut 21 = .ok (.if_icmp .eq 7, 3) := dgX11_isOut_0.2.2.2.2.2.2.2.2.2.2.2.2.2.1
theorem dX11_isOut_24 : decode cX11_isOut 24 = .ok (.iconst 1, 1) := dgX11_isOut_0.2.2.2.2.2.2.2.2.2.2.2.2.2.2.1
theorem dX11_isOut_25 : decode cX11_isOut 25 = .ok (.goto 4, 3) := dgX11_isOut_0.2.2.2.2.2.2.2.2.2.2.2.2.2.2.2
theorem dgX11_isOut_16 : (decode cX11_isOut 28 = .ok (.iconst 0, 1)) ∧ (decode cX11_isOut 29 = .ok (.ireturn, 1)) := by decide +kernel
theorem dX11_isOut_28 : decode cX11_isOut 28 = .ok (.iconst 0, 1) := dgX11_isOut_16.1
theorem dX11_isOut_29 : decode cX11_isOut 29 = .ok (.ireturn, 1) := dgX11_isOut_16.2
theorem dgX11_dip_0 : (decode cX11_dip 0 = .ok (.aload_n 0, 1)) ∧ (decode cX11_dip 1 = .ok (.iload_n 1, 1)) ∧ (decode cX11_dip 2 = .ok (.invokevirtual 206, 3)) ∧ (decode cX11_dip 5 = .ok (.ifCond .eq 51, 3)) ∧ (decode cX11_dip 8 = .ok (.aload_n 0, 1)) ∧ (decode cX11_dip 9 = .ok (.getfield 106, 3)) ∧ (decode cX11_dip 12 = .ok (.iload_n 1, 1)) ∧ (decode cX11_dip 13 = .ok (.iaload, 1)) ∧ (decode cX11_dip 14 = .ok (.ifCond .ge 42, 3)) ∧ (decode cX11_dip 17 = .ok (.iload_n 3, 1)) ∧ (decode cX11_dip 18 = .ok (.iconst 1, 1)) ∧ (decode cX11_dip 19 = .ok (.sipush 1000, 3)) ∧ (decode cX11_dip 22 = .ok (.invokestatic 156, 3)) ∧ (decode cX11_dip 25 = .ok (.ifCond .eq 31, 3)) ∧ (decode cX11_dip 28 = .ok (.aload_n 0, 1)) ∧ (decode cX11_dip 29 = .ok (.iload_n 2, 1)) := by decide +kernel
theorem dX11_dip_0 : decode cX11_dip 0 = .ok (.aload_n 0, 1) := dgX11_dip_0.1
theorem dX11_dip_1 : decode cX11_dip 1 = .ok (.iload_n 1, 1) := dgX11_dip_0.2.1
theorem dX11_dip_2 : decode cX11_dip 2 = .ok (.invokevirtual 206, 3) := dgX11_dip_0.2.2.1
theorem dX11_dip_5 : decode cX11_dip 5 = .ok (.ifCond .eq 51, 3) := dgX11_dip_0.2.2.2.1
theorem dX11_dip_8 : decode cX11_dip 8 = .ok (.aload_n 0, 1) := dgX11_dip_0.2.2.2.2.1
theorem dX11_dip_9 : decode cX11_dip 9 = .ok (.getfield 106, 3) := dgX11_dip_0.2.2.2.2.2.1
theorem dX11_dip_12 : decode cX11_dip 12 = .ok (.iload_n 1, 1) := dgX11_dip_0.2.2.2.2.2.2.1
theorem dX11_dip_13 : decode cX11_dip 13 = .ok (.iaload, 1) := dgX11_dip_0.2.2.2.2.2.2.2.1
theorem dX11_dip_14 : decode cX11_dip 14 = .ok (.ifCond .ge 42, 3) := dgX11_dip_0.2.2.2.2.2.2.2.2.1
theorem dX11_dip_17 : decode cX11_dip 17 = .ok (.iload_n 3, 1) := dgX11_dip_0.2.2.2.2.2.2.2.2.2.1
theorem dX11_dip_18 : decode cX11_dip 18 = .ok (.iconst 1, 1) := dgX11_dip_0.2.2.2.2.2.2.2.2.2.2.1
theorem dX11_dip_19 : decode cX11_dip 19 = .ok (.sipush 1000, 3) := dgX11_dip_0.2.2.2.2.2.2.2.2.2.2.2.1
theorem dX11_dip_22 : decode cX11_dip 22 = .ok (.invokestatic 156, 3) := dgX11_dip_0.2.2.2.2.2.2.2.2.2.2.2.2.1
theorem dX11_dip_25 : decode cX11_dip 25 = .ok (.ifCond .eq 31, 3) := dgX11_dip_0.2.2.2.2.2.2.2.2.2.2.2.2.2.1
theorem dX11_dip_28 : decode cX11_dip 28 = .ok (.aload_n 0, 1) := dgX11_dip_0.2.2.2.2.2.2.2.2.2.2.2.2.2.2.1
theorem dX11_dip_29 : decode cX11_dip 29 = .ok (.iload_n 2, 1) := dgX11_dip_0.2.2.2.2.2.2.2.2.2.2.2.2.2.2.2
theorem dgX11_dip_16 : (decode cX11_dip 30 = .ok (.invokevirtual 200, 3)) ∧ (decode cX11_dip 33 = .ok (.ifCond .eq 23, 3)) ∧ (decode cX11_dip 36 = .ok (.aload_n 0, 1)) ∧ (decode cX11_dip 37 = .ok (.getfield 16, 3)) ∧ (decode cX11_dip 40 = .ok (.iload_n 2, 1)) ∧ (decode cX11_dip 41 = .ok (.iaload, 1)) ∧ (decode cX11_dip 42 = .ok (.iconst 5, 1)) ∧ (decode cX11_dip 43 = .ok (.if_icmp .ne 13, 3)) ∧ (decode cX11_dip 46 = .ok (.aload_n 0, 1)) ∧ (decode cX11_dip 47 = .ok (.getfield 19, 3)) ∧ (decode cX11_dip 50 = .ok (.iload_n 2, 1)) ∧ (decode cX11_dip 51 = .ok (.iaload, 1)) ∧ (decode cX11_dip 52 = .ok (.iload_n 3, 1)) ∧ (decode cX11_dip 53 = .ok (.if_icmp .ge 5, 3)) ∧ (decode cX11_dip 56 = .ok (.iconst (-1), 1)) ∧ (decode cX11_dip 57 = .ok (.ireturn, 1)) := by decide +kernel
theorem dX11_dip_30 : decode cX11_dip 30 = .ok (.invokevirtual 200, 3) := dgX11_dip_16.1
theorem dX11_dip_33 : decode cX11_dip 33 = .ok (.ifCond .eq 23, 3) := dgX11_dip_16.2.1
theorem dX11_dip_36 : decode cX11_dip 36 = .ok (.aload_n 0, 1) := dgX11_dip_16.2.2.1
theorem dX11_dip_37 : decode cX11_dip 37 = .ok (.getfield 16, 3) := dgX11_dip_16.2.2.2.1
theorem dX11_dip_40 : decode cX11_dip 40 = .ok (.iload_n 2, 1) := dgX11_dip_16.2.2.2.2.1
theorem dX11_dip_41 : decode cX11_dip 41 = .ok (.iaload, 1) := dgX11_dip_16.2.2.2.2.2.1
theorem dX11_dip_42 : decode cX11_dip 42 = .ok (.iconst 5, 1) := dgX11_dip_16.2.2.2.2.2.2.1
theorem dX11_dip_43 : decode cX11_dip 43 = .ok (.if_icmp .ne 13, 3) := dgX11_dip_16.2.2.2.2.2.2.2.1
theorem dX11_dip_46 : decode cX11_dip 46 = .ok (.aload_n 0, 1) := dgX11_dip_16.2.2.2.2.2.2.2.2.1
theorem dX11_dip_47 : decode cX11_dip 47 = .ok (.getfield 19, 3) := dgX11_dip_16.2.2.2.2.2.2.2.2.2.1
theorem dX11_dip_50 : decode cX11_dip 50 = .ok (.iload_n 2, 1) := dgX11_dip_16.2.2.2.2.2.2.2.2.2.2.1
theorem dX11_dip_51 : decode cX11_dip 51 = .ok (.iaload, 1) := dgX11_dip_16.2.2.2.2.2.2.2.2.2.2.2.1
theorem dX11_dip_52 : decode cX11_dip 52 = .ok (.iload_n 3, 1) := dgX11_dip_16.2.2.2.2.2.2.2.2.2.2.2.2.1
theorem dX11_dip_53 : decode cX11_dip 53 = .ok (.if_icmp .ge 5, 3) := dgX11_dip_16.2.2.2.2.2.2.2.2.2.2.2.2.2.1
theorem dX11_dip_56 : decode cX11_dip 56 = .ok (.iconst (-1), 1) := dgX11_dip_16.2.2.2.2.2.2.2.2.2.2.2.2.2.2.1
theorem dX11_dip_57 : decode cX11_dip 57 = .ok (.ireturn, 1) := dgX11_dip_16.2.2.2.2.2.2.2.2.2.2.2.2.2.2.2
theorem dgX11_dip_32 : (decode cX11_dip 58 = .ok (.aload_n 0, 1)) ∧ (decode cX11_dip 59 = .ok (.getfield 19, 3)) ∧ (decode cX11_dip 62 = .ok (.iload_n 2, 1)) ∧ (decode cX11_dip 63 = .ok (.dup2, 1)) ∧ (decode cX11_dip 64 = .ok (.iaload, 1)) ∧ (decode cX11_dip 65 = .ok (.iload_n 3, 1)) ∧ (decode cX11_dip 66 = .ok (.isub, 1)) ∧ (decode cX11_dip 67 = .ok (.iastore, 1)) ∧ (decode cX11_dip 68 = .ok (.aload_n 0, 1)) ∧ (decode cX11_dip 69 = .ok (.getfield 56, 3)) ∧ (decode cX11_dip 72 = .ok (.iload_n 2, 1)) ∧ (decode cX11_dip 73 = .ok (.dup2, 1)) ∧ (decode cX11_dip 74 = .ok (.iaload, 1)) ∧ (decode cX11_dip 75 = .ok (.iload_n 3, 1)) ∧ (decode cX11_dip 76 = .ok (.iadd, 1)) ∧ (decode cX11_dip 77 = .ok (.iastore, 1)) := by decide +kernel
theorem dX11_dip_58 : decode cX11_dip 58 = .ok (.aload_n 0, 1) := dgX11_dip_32.1
theorem dX11_dip_59 : decode cX11_dip 59 = .ok (.getfield 19, 3) := dgX11_dip_32.2.1
theorem dX11_dip_62 : decode cX11_dip 62 = .ok (.iload_n 2, 1) := dgX11_dip_32.2.2.1
theorem dX11_dip_63 : decode cX11_dip 63 = .ok (.dup2, 1) := dgX11_dip_32.2.2.2.1
theorem dX11_dip_64 : decode cX11_dip 64 = .ok (.iaload, 1) := dgX11_dip_32.2.2.2.2.1
theorem dX11_dip_65 : decode cX11_dip 65 = .ok (.iload_n 3, 1) := dgX11_dip_32.2.2.2.2.2.1
theorem dX11_dip_66 : decode cX11_dip 66 = .ok (.isub, 1) := dgX11_dip_32.2.2.2.2.2.2.1
theorem dX11_dip_67 : decode cX11_dip 67 = .ok (.iastore, 1) := dgX11_dip_32.2.2.2.2.2.2.2.1
theorem dX11_dip_68 : decode cX11_dip 68 = .ok (.aload_n 0, 1) := dgX11_dip_32.2.2.2.2.2.2.2.2.1
theorem dX11_dip_69 : decode cX11_dip 69 = .ok (.getfield 56, 3) := dgX11_dip_32.2.2.2.2.2.2.2.2.2.1
theorem dX11_dip_72 : decode cX11_dip 72 = .ok (.iload_n 2, 1) := dgX11_dip_32.2.2.2.2.2.2.2.2.2.2.1
theorem dX11_dip_73 : decode cX11_dip 73 = .ok (.dup2, 1) := dgX11_dip_32.2.2.2.2.2.2.2.2.2.2.2.1
theorem dX11_dip_74 : decode cX11_dip 74 = .ok (.iaload, 1) := dgX11_dip_32.2.2.2.2.2.2.2.2.2.2.2.2.1
theorem dX11_dip_75 : decode cX11_dip 75 = .ok (.iload_n 3, 1) := dgX11_dip_32.2.2.2.2.2.2.2.2.2.2.2.2.2.1
theorem dX11_dip_76 : decode cX11_dip 76 = .ok (.iadd, 1) := dgX11_dip_32.2.2.2.2.2.2.2.2.2.2.2.2.2.2.1
theorem dX11_dip_77 : decode cX11_dip 77 = .ok (.iastore, 1) := dgX11_dip_32.2.2.2.2.2.2.2.2.2.2.2.2.2.2.2
theorem dgX11_dip_48 : (decode cX11_dip 78 = .ok (.aload_n 0, 1)) ∧ (decode cX11_dip 79 = .ok (.getfield 103, 3)) ∧ (decode cX11_dip 82 = .ok (.iload_n 1, 1)) ∧ (decode cX11_dip 83 = .ok (.dup2, 1)) ∧ (decode cX11_dip 84 = .ok (.iaload, 1)) ∧ (decode cX11_dip 85 = .ok (.iload_n 3, 1)) ∧ (decode cX11_dip 86 = .ok (.iadd, 1)) ∧ (decode cX11_dip 87 = .ok (.iastore, 1)) ∧ (decode cX11_dip 88 = .ok (.aload_n 0, 1)) ∧ (decode cX11_dip 89 = .ok (.getfield 106, 3)) ∧ (decode cX11_dip 92 = .ok (.iload_n 1, 1)) ∧ (decode cX11_dip 93 = .ok (.iload_n 2, 1)) ∧ (decode cX11_dip 94 = .ok (.iastore, 1)) ∧ (decode cX11_dip 95 = .ok (.aload_n 0, 1)) ∧ (decode cX11_dip 96 = .ok (.getfield 109, 3)) ∧ (decode cX11_dip 99 = .ok (.iload_n 1, 1)) := by decide +kernel
theorem dX11_dip_78 : decode cX11_dip 78 = .ok (.aload_n 0, 1) := dgX11_dip_48.1
theorem dX11_dip_79 : decode cX11_dip 79 = .ok (.getfield 103, 3) := dgX11_dip_48.2.1
theorem dX11_dip_82 : decode cX11_dip 82 = .ok (.iload_n 1, 1) := dgX11_dip_48.2.2.1
theorem dX11_dip_83 : decode cX11_dip 83 = .ok (.dup2, 1) := dgX11_dip_48.2.2.2.1
theorem dX11_dip_84 : decode cX11_dip 84 = .ok (.iaload, 1) := dgX11_dip_48.2.2.2.2.1
theorem dX11_dip_85 : decode cX11_dip 85 = .ok (.iload_n 3, 1) := dgX11_dip_48.2.2.2.2.2.1
theorem dX11_dip_86 : decode cX11_dip 86 = .ok (.iadd, 1) := dgX11_dip_48.2.2.2.2.2.2.1
theorem dX11_dip_87 : decode cX11_dip 87 = .ok (.iastore, 1) := dgX11_dip_48.2.2.2.2.2.2.2.1
theorem dX11_dip_88 : decode cX11_dip 88 = .ok (.aload_n 0, 1) := dgX11_dip_48.2.2.2.2.2.2.2.2.1
theorem dX11_dip_89 : decode cX11_dip 89 = .ok (.getfield 106, 3) := dgX11_dip_48.2.2.2.2.2.2.2.2.2.1
theorem dX11_dip_92 : decode cX11_dip 92 = .ok (.iload_n 1, 1) := dgX11_dip_48.2.2.2.2.2.2.2.2.2.2.1
theorem dX11_dip_93 : decode cX11_dip 93 = .ok (.iload_n 2, 1) := dgX11_dip_48.2.2.2.2.2.2.2.2.2.2.2.1
theorem dX11_dip_94 : decode cX11_dip 94 = .ok (.iastore, 1) := dgX11_dip_48.2.2.2.2.2.2.2.2.2.2.2.2.1
theorem dX11_dip_95 : decode cX11_dip 95 = .ok (.aload_n 0, 1) := dgX11_dip_48.2.2.2.2.2.2.2.2.2.2.2.2.2.1
theorem dX11_dip_96 : decode cX11_dip 96 = .ok (.getfield 109, 3) := dgX11_dip_48.2.2.2.2.2.2.2.2.2.2.2.2.2.2.1
theorem dX11_dip_99 : decode cX11_dip 99 = .ok (.iload_n 1, 1) := dgX11_dip_48.2.2.2.2.2.2.2.2.2.2.2.2.2.2.2
theorem dgX11_dip_64 : (decode cX11_dip 100 = .ok (.aload_n 0, 1)) ∧ (decode cX11_dip 101 = .ok (.getfield 47, 3)) ∧ (decode cX11_dip 104 = .ok (.iload_n 2, 1)) ∧ (decode cX11_dip 105 = .ok (.iaload, 1)) ∧ (decode cX11_dip 106 = .ok (.iconst 3, 1)) ∧ (decode cX11_dip 107 = .ok (.if_icmp .ne 7, 3)) ∧ (decode cX11_dip 110 = .ok (.iconst 1, 1)) ∧ (decode cX11_dip 111 = .ok (.goto 4, 3)) ∧ (decode cX11_dip 114 = .ok (.iconst 0, 1)) ∧ (decode cX11_dip 115 = .ok (.iastore, 1)) ∧ (decode cX11_dip 116 = .ok (.aload_n 0, 1)) ∧ (decode cX11_dip 117 = .ok (.getfield 109, 3)) ∧ (decode cX11_dip 120 = .ok (.iload_n 1, 1)) ∧ (decode cX11_dip 121 = .ok (.iaload, 1)) ∧ (decode cX11_dip 122 = .ok (.ireturn, 1)) := by decide +kernel
theorem dX11_dip_100 : decode cX11_dip 100 = .ok (.aload_n 0, 1) := dgX11_dip_64.1
theorem dX11_dip_101 : decode cX11_dip 101 = .ok (.getfield 47, 3) := dgX11_dip_64.2.1
theorem dX11_dip_104 : decode cX11_dip 104 = .ok (.iload_n 2, 1) := dgX11_dip_64.2.2.1
theorem dX11_dip_105 : decode cX11_dip 105 = .ok (.iaload, 1) := dgX11_dip_64.2.2.2.1
theorem dX11_dip_106 : decode cX11_dip 106 = .ok (.iconst 3, 1) := dgX11_dip_64.2.2.2.2.1
theorem dX11_dip_107 : decode cX11_dip 107 = .ok (.if_icmp .ne 7, 3) := dgX11_dip_64.2.2.2.2.2.1
theorem dX11_dip_110 : decode cX11_dip 110 = .ok (.iconst 1, 1) := dgX11_dip_64.2.2.2.2.2.2.1
theorem dX11_dip_111 : decode cX11_dip 111 = .ok (.goto 4, 3) := dgX11_dip_64.2.2.2.2.2.2.2.1
theorem dX11_dip_114 : decode cX11_dip 114 = .ok (.iconst 0, 1) := dgX11_dip_64.2.2.2.2.2.2.2.2.1
theorem dX11_dip_115 : decode cX11_dip 115 = .ok (.iastore, 1) := dgX11_dip_64.2.2.2.2.2.2.2.2.2.1
theorem dX11_dip_116 : decode cX11_dip 116 = .ok (.aload_n 0, 1) := dgX11_dip_64.2.2.2.2.2.2.2.2.2.2.1
theorem dX11_dip_117 : decode cX11_dip 117 = .ok (.getfield 109, 3) := dgX11_dip_64.2.2.2.2.2.2.2.2.2.2.2.1
theorem dX11_dip_120 : decode cX11_dip 120 = .ok (.iload_n 1, 1) := dgX11_dip_64.2.2.2.2.2.2.2.2.2.2.2.2.1
theorem dX11_dip_121 : decode cX11_dip 121 = .ok (.iaload, 1) := dgX11_dip_64.2.2.2.2.2.2.2.2.2.2.2.2.2.1
theorem dX11_dip_122 : decode cX11_dip 122 = .ok (.ireturn, 1) := dgX11_dip_64.2.2.2.2.2.2.2.2.2.2.2.2.2.2
theorem dgX11_leave_0 : (decode cX11_leave 0 = .ok (.aload_n 0, 1)) ∧ (decode cX11_leave 1 = .ok (.getfield 115, 3)) ∧ (decode cX11_leave 4 = .ok (.iload_n 1, 1)) ∧ (decode cX11_leave 5 = .ok (.iaload, 1)) ∧ (decode cX11_leave 6 = .ok (.iconst 1, 1)) ∧ (decode cX11_leave 7 = .ok (.if_icmp .ne 15, 3)) ∧ (decode cX11_leave 10 = .ok (.aload_n 0, 1)) ∧ (decode cX11_leave 11 = .ok (.getfield 121, 3)) ∧ (decode cX11_leave 14 = .ok (.aload_n 0, 1)) ∧ (decode cX11_leave 15 = .ok (.getfield 118, 3)) ∧ (decode cX11_leave 18 = .ok (.iload_n 1, 1)) ∧ (decode cX11_leave 19 = .ok (.iaload, 1)) ∧ (decode cX11_leave 20 = .ok (.iconst (-1), 1)) ∧ (decode cX11_leave 21 = .ok (.iastore, 1)) ∧ (decode cX11_leave 22 = .ok (.aload_n 0, 1)) ∧ (decode cX11_leave 23 = .ok (.getfield 115, 3)) := by decide +kernel
theorem dX11_leave_0 : decode cX11_leave 0 = .ok (.aload_n 0, 1) := dgX11_leave_0.1
theorem dX11_leave_1 : decode cX11_leave 1 = .ok (.getfield 115, 3) := dgX11_leave_0.2.1
theorem dX11_leave_4 : decode cX11_leave 4 = .ok (.iload_n 1, 1) := dgX11_leave_0.2.2.1
theorem dX11_leave_5 : decode cX11_leave 5 = .ok (.iaload, 1) := dgX11_leave_0.2.2.2.1
theorem dX11_leave_6 : decode cX11_leave 6 = .ok (.iconst 1, 1) := dgX11_leave_0.2.2.2.2.1
theorem dX11_leave_7 : decode cX11_leave 7 = .ok (.if_icmp .ne 15, 3) := dgX11_leave_0.2.2.2.2.2.1
theorem dX11_leave_10 : decode cX11_leave 10 = .ok (.aload_n 0, 1) := dgX11_leave_0.2.2.2.2.2.2.1
theorem dX11_leave_11 : decode cX11_leave 11 = .ok (.getfield 121, 3) := dgX11_leave_0.2.2.2.2.2.2.2.1
theorem dX11_leave_14 : decode cX11_leave 14 = .ok (.aload_n 0, 1) := dgX11_leave_0.2.2.2.2.2.2.2.2.1
theorem dX11_leave_15 : decode cX11_leave 15 = .ok (.getfield 118, 3) := dgX11_leave_0.2.2.2.2.2.2.2.2.2.1
theorem dX11_leave_18 : decode cX11_leave 18 = .ok (.iload_n 1, 1) := dgX11_leave_0.2.2.2.2.2.2.2.2.2.2.1
theorem dX11_leave_19 : decode cX11_leave 19 = .ok (.iaload, 1) := dgX11_leave_0.2.2.2.2.2.2.2.2.2.2.2.1
theorem dX11_leave_20 : decode cX11_leave 20 = .ok (.iconst (-1), 1) := dgX11_leave_0.2.2.2.2.2.2.2.2.2.2.2.2.1
theorem dX11_leave_21 : decode cX11_leave 21 = .ok (.iastore, 1) := dgX11_leave_0.2.2.2.2.2.2.2.2.2.2.2.2.2.1
theorem dX11_leave_22 : decode cX11_leave 22 = .ok (.aload_n 0, 1) := dgX11_leave_0.2.2.2.2.2.2.2.2.2.2.2.2.2.2.1
theorem dX11_leave_23 : decode cX11_leave 23 = .ok (.getfield 115, 3) := dgX11_leave_0.2.2.2.2.2.2.2.2.2.2.2.2.2.2.2
theorem dgX11_leave_16 : (decode cX11_leave 26 = .ok (.iload_n 1, 1)) ∧ (decode cX11_leave 27 = .ok (.iconst 0, 1)) ∧ (decode cX11_leave 28 = .ok (.iastore, 1)) ∧ (decode cX11_leave 29 = .ok (.aload_n 0, 1)) ∧ (decode cX11_leave 30 = .ok (.getfield 118, 3)) ∧ (decode cX11_leave 33 = .ok (.iload_n 1, 1)) ∧ (decode cX11_leave 34 = .ok (.iconst (-1), 1)) ∧ (decode cX11_leave 35 = .ok (.iastore, 1)) ∧ (decode cX11_leave 36 = .ok (.return_, 1)) := by decide +kernel
theorem dX11_leave_26 : decode cX11_leave 26 = .ok (.iload_n 1, 1) := dgX11_leave_16.1
theorem dX11_leave_27 : decode cX11_leave 27 = .ok (.iconst 0, 1) := dgX11_leave_16.2.1
theorem dX11_leave_28 : decode cX11_leave 28 = .ok (.iastore, 1) := dgX11_leave_16.2.2.1
theorem dX11_leave_29 : decode cX11_leave 29 = .ok (.aload_n 0, 1) := dgX11_leave_16.2.2.2.1
theorem dX11_leave_30 : decode cX11_leave 30 = .ok (.getfield 118, 3) := dgX11_leave_16.2.2.2.2.1
theorem dX11_leave_33 : decode cX11_leave 33 = .ok (.iload_n 1, 1) := dgX11_leave_16.2.2.2.2.2.1
theorem dX11_leave_34 : decode cX11_leave 34 = .ok (.iconst (-1), 1) := dgX11_leave_16.2.2.2.2.2.2.1
theorem dX11_leave_35 : decode cX11_leave 35 = .ok (.iastore, 1) := dgX11_leave_16.2.2.2.2.2.2.2.1
theorem dX11_leave_36 : decode cX11_leave 36 = .ok (.return_, 1) := dgX11_leave_16.2.2.2.2.2.2.2.2
theorem dgX11_place_0 : (decode cX11_place 0 = .ok (.aload_n 0, 1)) ∧ (decode cX11_place 1 = .ok (.iload_n 1, 1)) ∧ (decode cX11_place 2 = .ok (.invokevirtual 206, 3)) ∧ (decode cX11_place 5 = .ok (.ifCond .eq 36, 3)) ∧ (decode cX11_place 8 = .ok (.iload_n 2, 1)) ∧ (decode cX11_place 9 = .ok (.iconst 0, 1)) ∧ (decode cX11_place 10 = .ok (.iconst 5, 1)) ∧ (decode cX11_place 11 = .ok (.invokestatic 156, 3)) ∧ (decode cX11_place 14 = .ok (.ifCond .eq 27, 3)) ∧ (decode cX11_place 17 = .ok (.iload_n 3, 1)) ∧ (decode cX11_place 18 = .ok (.iconst 0, 1)) ∧ (decode cX11_place 19 = .ok (.bipush 23, 2)) ∧ (decode cX11_place 21 = .ok (.invokestatic 156, 3)) ∧ (decode cX11_place 24 = .ok (.ifCond .eq 17, 3)) ∧ (decode cX11_place 27 = .ok (.aload_n 0, 1)) ∧ (decode cX11_place 28 = .ok (.getfield 121, 3)) := by decide +kernel
theorem dX11_place_0 : decode cX11_place 0 = .ok (.aload_n 0, 1) := dgX11_place_0.1
theorem dX11_place_1 : decode cX11_place 1 = .ok (.iload_n 1, 1) := dgX11_place_0.2.1
theorem dX11_place_2 : decode cX11_place 2 = .ok (.invokevirtual 206, 3) := dgX11_place_0.2.2.1
theorem dX11_place_5 : decode cX11_place 5 = .ok (.ifCond .eq 36, 3) := dgX11_place_0.2.2.2.1
theorem dX11_place_8 : decode cX11_place 8 = .ok (.iload_n 2, 1) := dgX11_place_0.2.2.2.2.1
theorem dX11_place_9 : decode cX11_place 9 = .ok (.iconst 0, 1) := dgX11_place_0.2.2.2.2.2.1
theorem dX11_place_10 : decode cX11_place 10 = .ok (.iconst 5, 1) := dgX11_place_0.2.2.2.2.2.2.1
theorem dX11_place_11 : decode cX11_place 11 = .ok (.invokestatic 156, 3) := dgX11_place_0.2.2.2.2.2.2.2.1
theorem dX11_place_14 : decode cX11_place 14 = .ok (.ifCond .eq 27, 3) := dgX11_place_0.2.2.2.2.2.2.2.2.1
theorem dX11_place_17 : decode cX11_place 17 = .ok (.iload_n 3, 1) := dgX11_place_0.2.2.2.2.2.2.2.2.2.1
theorem dX11_place_18 : decode cX11_place 18 = .ok (.iconst 0, 1) := dgX11_place_0.2.2.2.2.2.2.2.2.2.2.1
theorem dX11_place_19 : decode cX11_place 19 = .ok (.bipush 23, 2) := dgX11_place_0.2.2.2.2.2.2.2.2.2.2.2.1
theorem dX11_place_21 : decode cX11_place 21 = .ok (.invokestatic 156, 3) := dgX11_place_0.2.2.2.2.2.2.2.2.2.2.2.2.1
theorem dX11_place_24 : decode cX11_place 24 = .ok (.ifCond .eq 17, 3) := dgX11_place_0.2.2.2.2.2.2.2.2.2.2.2.2.2.1
theorem dX11_place_27 : decode cX11_place 27 = .ok (.aload_n 0, 1) := dgX11_place_0.2.2.2.2.2.2.2.2.2.2.2.2.2.2.1
theorem dX11_place_28 : decode cX11_place 28 = .ok (.getfield 121, 3) := dgX11_place_0.2.2.2.2.2.2.2.2.2.2.2.2.2.2.2
theorem dgX11_place_16 : (decode cX11_place 31 = .ok (.bipush 24, 2)) ∧ (decode cX11_place 33 = .ok (.iload_n 2, 1)) ∧ (decode cX11_place 34 = .ok (.imul, 1)) ∧ (decode cX11_place 35 = .ok (.iload_n 3, 1)) ∧ (decode cX11_place 36 = .ok (.iadd, 1)) ∧ (decode cX11_place 37 = .ok (.iaload, 1)) ∧ (decode cX11_place 38 = .ok (.ifCond .lt 5, 3)) ∧ (decode cX11_place 41 = .ok (.iconst 0, 1)) ∧ (decode cX11_place 42 = .ok (.ireturn, 1)) ∧ (decode cX11_place 43 = .ok (.aload_n 0, 1)) ∧ (decode cX11_place 44 = .ok (.iload_n 1, 1)) ∧ (decode cX11_place 45 = .ok (.invokevirtual 209, 3)) ∧ (decode cX11_place 48 = .ok (.aload_n 0, 1)) ∧ (decode cX11_place 49 = .ok (.getfield 115, 3)) ∧ (decode cX11_place 52 = .ok (.iload_n 1, 1)) ∧ (decode cX11_place 53 = .ok (.iconst 1, 1)) := by decide +kernel
theorem dX11_place_31 : decode cX11_place 31 = .ok (.bipush 24, 2) := dgX11_place_16.1
theorem dX11_place_33 : decode cX11_place 33 = .ok (.iload_n 2, 1) := dgX11_place_16.2.1
theorem dX11_place_34 : decode cX11_place 34 = .ok (.imul, 1) := dgX11_place_16.2.2.1
theorem dX11_place_35 : decode cX11_place 35 = .ok (.iload_n 3, 1) := dgX11_place_16.2.2.2.1
theorem dX11_place_36 : decode cX11_place 36 = .ok (.iadd, 1) := dgX11_place_16.2.2.2.2.1
theorem dX11_place_37 : decode cX11_place 37 = .ok (.iaload, 1) := dgX11_place_16.2.2.2.2.2.1
theorem dX11_place_38 : decode cX11_place 38 = .ok (.ifCond .lt 5, 3) := dgX11_place_16.2.2.2.2.2.2.1
theorem dX11_place_41 : decode cX11_place 41 = .ok (.iconst 0, 1) := dgX11_place_16.2.2.2.2.2.2.2.1
theorem dX11_place_42 : decode cX11_place 42 = .ok (.ireturn, 1) := dgX11_place_16.2.2.2.2.2.2.2.2.1
theorem dX11_place_43 : decode cX11_place 43 = .ok (.aload_n 0, 1) := dgX11_place_16.2.2.2.2.2.2.2.2.2.1
theorem dX11_place_44 : decode cX11_place 44 = .ok (.iload_n 1, 1) := dgX11_place_16.2.2.2.2.2.2.2.2.2.2.1
theorem dX11_place_45 : decode cX11_place 45 = .ok (.invokevirtual 209, 3) := dgX11_place_16.2.2.2.2.2.2.2.2.2.2.2.1
theorem dX11_place_48 : decode cX11_place 48 = .ok (.aload_n 0, 1) := dgX11_place_16.2.2.2.2.2.2.2.2.2.2.2.2.1
theorem dX11_place_49 : decode cX11_place 49 = .ok (.getfield 115, 3) := dgX11_place_16.2.2.2.2.2.2.2.2.2.2.2.2.2.1
theorem dX11_place_52 : decode cX11_place 52 = .ok (.iload_n 1, 1) := dgX11_place_16.2.2.2.2.2.2.2.2.2.2.2.2.2.2.1
theorem dX11_place_53 : decode cX11_place 53 = .ok (.iconst 1, 1) := dgX11_place_16.2.2.2.2.2.2.2.2.2.2.2.2.2.2.2
theorem dgX11_place_32 : (decode cX11_place 54 = .ok (.iastore, 1)) ∧ (decode cX11_place 55 = .ok (.aload_n 0, 1)) ∧ (decode cX11_place 56 = .ok (.getfield 118, 3)) ∧ (decode cX11_place 59 = .ok (.iload_n 1, 1)) ∧ (decode cX11_place 60 = .ok (.bipush 24, 2)) ∧ (decode cX11_place 62 = .ok (.iload_n 2, 1)) ∧ (decode cX11_place 63 = .ok (.imul, 1)) ∧ (decode cX11_place 64 = .ok (.iload_n 3, 1)) ∧ (decode cX11_place 65 = .ok (.iadd, 1)) ∧ (decode cX11_place 66 = .ok (.iastore, 1)) ∧ (decode cX11_place 67 = .ok (.aload_n 0, 1)) ∧ (decode cX11_place 68 = .ok (.getfield 121, 3)) ∧ (decode cX11_place 71 = .ok (.bipush 24, 2)) ∧ (decode cX11_place 73 = .ok (.iload_n 2, 1)) ∧ (decode cX11_place 74 = .ok (.imul, 1)) ∧ (decode cX11_place 75 = .ok (.iload_n 3, 1)) := by decide +kernel
theorem dX11_place_54 : decode cX11_place 54 = .ok (.iastore, 1) := dgX11_place_32.1
theorem dX11_place_55 : decode cX11_place 55 = .ok (.aload_n 0, 1) := dgX11_place_32.2.1
theorem dX11_place_56 : decode cX11_place 56 = .ok (.getfield 118, 3) := dgX11_place_32.2.2.1
theorem dX11_place_59 : decode cX11_place 59 = .ok (.iload_n 1, 1) := dgX11_place_32.2.2.2.1
theorem dX11_place_60 : decode cX11_place 60 = .ok (.bipush 24, 2) := dgX11_place_32.2.2.2.2.1
theorem dX11_place_62 : decode cX11_place 62 = .ok (.iload_n 2, 1) := dgX11_place_32.2.2.2.2.2.1
theorem dX11_place_63 : decode cX11_place 63 = .ok (.imul, 1) := dgX11_place_32.2.2.2.2.2.2.1
theorem dX11_place_64 : decode cX11_place 64 = .ok (.iload_n 3, 1) := dgX11_place_32.2.2.2.2.2.2.2.1
theorem dX11_place_65 : decode cX11_place 65 = .ok (.iadd, 1) := dgX11_place_32.2.2.2.2.2.2.2.2.1
theorem dX11_place_66 : decode cX11_place 66 = .ok (.iastore, 1) := dgX11_place_32.2.2.2.2.2.2.2.2.2.1
theorem dX11_place_67 : decode cX11_place 67 = .ok (.aload_n 0, 1) := dgX11_place_32.2.2.2.2.2.2.2.2.2.2.1
theorem dX11_place_68 : decode cX11_place 68 = .ok (.getfield 121, 3) := dgX11_place_32.2.2.2.2.2.2.2.2.2.2.2.1
theorem dX11_place_71 : decode cX11_place 71 = .ok (.bipush 24, 2) := dgX11_place_32.2.2.2.2.2.2.2.2.2.2.2.2.1
theorem dX11_place_73 : decode cX11_place 73 = .ok (.iload_n 2, 1) := dgX11_place_32.2.2.2.2.2.2.2.2.2.2.2.2.2.1
theorem dX11_place_74 : decode cX11_place 74 = .ok (.imul, 1) := dgX11_place_32.2.2.2.2.2.2.2.2.2.2.2.2.2.2.1
theorem dX11_place_75 : decode cX11_place 75 = .ok (.iload_n 3, 1) := dgX11_place_32.2.2.2.2.2.2.2.2.2.2.2.2.2.2.2
theorem dgX11_place_48 : (decode cX11_place 76 = .ok (.iadd, 1)) ∧ (decode cX11_place 77 = .ok (.iload_n 1, 1)) ∧ (decode cX11_place 78 = .ok (.iastore, 1)) ∧ (decode cX11_place 79 = .ok (.iconst 1, 1)) ∧ (decode cX11_place 80 = .ok (.ireturn, 1)) := by decide +kernel
theorem dX11_place_76 : decode cX11_place 76 = .ok (.iadd, 1) := dgX11_place_48.1
theorem dX11_place_77 : decode cX11_place 77 = .ok (.iload_n 1, 1) := dgX11_place_48.2.1
theorem dX11_place_78 : decode cX11_place 78 = .ok (.iastore, 1) := dgX11_place_48.2.2.1
theorem dX11_place_79 : decode cX11_place 79 = .ok (.iconst 1, 1) := dgX11_place_48.2.2.2.1
theorem dX11_place_80 : decode cX11_place 80 = .ok (.ireturn, 1) := dgX11_place_48.2.2.2.2
theorem dgX11_take_0 : (decode cX11_take 0 = .ok (.iload_n 1, 1)) ∧ (decode cX11_take 1 = .ok (.iconst 0, 1)) ∧ (decode cX11_take 2 = .ok (.aload_n 0, 1)) ∧ (decode cX11_take 3 = .ok (.getfield 203, 3)) ∧ (decode cX11_take 6 = .ok (.iconst 1, 1)) ∧ (decode cX11_take 7 = .ok (.isub, 1)) ∧ (decode cX11_take 8 = .ok (.invokestatic 156, 3)) ∧ (decode cX11_take 11 = .ok (.ifCond .eq 13, 3)) ∧ (decode cX11_take 14 = .ok (.aload_n 0, 1)) ∧ (decode cX11_take 15 = .ok (.getfield 115, 3)) ∧ (decode cX11_take 18 = .ok (.iload_n 1, 1)) ∧ (decode cX11_take 19 = .ok (.iaload, 1)) ∧ (decode cX11_take 20 = .ok (.iconst 1, 1)) ∧ (decode cX11_take 21 = .ok (.if_icmp .eq 5, 3)) ∧ (decode cX11_take 24 = .ok (.iconst 0, 1)) ∧ (decode cX11_take 25 = .ok (.ireturn, 1)) := by decide +kernel
theorem dX11_take_0 : decode cX11_take 0 = .ok (.iload_n 1, 1) := dgX11_take_0.1
theorem dX11_take_1 : decode cX11_take 1 = .ok (.iconst 0, 1) := dgX11_take_0.2.1
theorem dX11_take_2 : decode cX11_take 2 = .ok (.aload_n 0, 1) := dgX11_take_0.2.2.1
theorem dX11_take_3 : decode cX11_take 3 = .ok (.getfield 203, 3) := dgX11_take_0.2.2.2.1
theorem dX11_take_6 : decode cX11_take 6 = .ok (.iconst 1, 1) := dgX11_take_0.2.2.2.2.1
theorem dX11_take_7 : decode cX11_take 7 = .ok (.isub, 1) := dgX11_take_0.2.2.2.2.2.1
theorem dX11_take_8 : decode cX11_take 8 = .ok (.invokestatic 156, 3) := dgX11_take_0.2.2.2.2.2.2.1
theorem dX11_take_11 : decode cX11_take 11 = .ok (.ifCond .eq 13, 3) := dgX11_take_0.2.2.2.2.2.2.2.1
theorem dX11_take_14 : decode cX11_take 14 = .ok (.aload_n 0, 1) := dgX11_take_0.2.2.2.2.2.2.2.2.1
theorem dX11_take_15 : decode cX11_take 15 = .ok (.getfield 115, 3) := dgX11_take_0.2.2.2.2.2.2.2.2.2.1
theorem dX11_take_18 : decode cX11_take 18 = .ok (.iload_n 1, 1) := dgX11_take_0.2.2.2.2.2.2.2.2.2.2.1
theorem dX11_take_19 : decode cX11_take 19 = .ok (.iaload, 1) := dgX11_take_0.2.2.2.2.2.2.2.2.2.2.2.1
theorem dX11_take_20 : decode cX11_take 20 = .ok (.iconst 1, 1) := dgX11_take_0.2.2.2.2.2.2.2.2.2.2.2.2.1
theorem dX11_take_21 : decode cX11_take 21 = .ok (.if_icmp .eq 5, 3) := dgX11_take_0.2.2.2.2.2.2.2.2.2.2.2.2.2.1
theorem dX11_take_24 : decode cX11_take 24 = .ok (.iconst 0, 1) := dgX11_take_0.2.2.2.2.2.2.2.2.2.2.2.2.2.2.1
theorem dX11_take_25 : decode cX11_take 25 = .ok (.ireturn, 1) := dgX11_take_0.2.2.2.2.2.2.2.2.2.2.2.2.2.2.2
theorem dgX11_take_16 : (decode cX11_take 26 = .ok (.aload_n 0, 1)) ∧ (decode cX11_take 27 = .ok (.iload_n 1, 1)) ∧ (decode cX11_take 28 = .ok (.invokevirtual 209, 3)) ∧ (decode cX11_take 31 = .ok (.iconst 1, 1)) ∧ (decode cX11_take 32 = .ok (.ireturn, 1)) := by decide +kernel
theorem dX11_take_26 : decode cX11_take 26 = .ok (.aload_n 0, 1) := dgX11_take_16.1
theorem dX11_take_27 : decode cX11_take 27 = .ok (.iload_n 1, 1) := dgX11_take_16.2.1
theorem dX11_take_28 : decode cX11_take 28 = .ok (.invokevirtual 209, 3) := dgX11_take_16.2.2.1
theorem dX11_take_31 : decode cX11_take 31 = .ok (.iconst 1, 1) := dgX11_take_16.2.2.2.1
theorem dX11_take_32 : decode cX11_take 32 = .ok (.ireturn, 1) := dgX11_take_16.2.2.2.2
theorem dgX11_allow_0 : (decode cX11_allow 0 = .ok (.iload_n 1, 1)) ∧ (decode cX11_allow 1 = .ok (.iconst 0, 1)) ∧ (decode cX11_allow 2 = .ok (.aload_n 0, 1)) ∧ (decode cX11_allow 3 = .ok (.getfield 203, 3)) ∧ (decode cX11_allow 6 = .ok (.iconst 1, 1)) ∧ (decode cX11_allow 7 = .ok (.isub, 1)) ∧ (decode cX11_allow 8 = .ok (.invokestatic 156, 3)) ∧ (decode cX11_allow 11 = .ok (.ifCond .eq 12, 3)) ∧ (decode cX11_allow 14 = .ok (.aload_n 0, 1)) ∧ (decode cX11_allow 15 = .ok (.getfield 109, 3)) ∧ (decode cX11_allow 18 = .ok (.iload_n 1, 1)) ∧ (decode cX11_allow 19 = .ok (.iaload, 1)) ∧ (decode cX11_allow 20 = .ok (.ifCond .eq 5, 3)) ∧ (decode cX11_allow 23 = .ok (.iconst 0, 1)) ∧ (decode cX11_allow 24 = .ok (.ireturn, 1)) ∧ (decode cX11_allow 25 = .ok (.aload_n 0, 1)) := by decide +kernel
theorem dX11_allow_0 : decode cX11_allow 0 = .ok (.iload_n 1, 1) := dgX11_allow_0.1
theorem dX11_allow_1 : decode cX11_allow 1 = .ok (.iconst 0, 1) := dgX11_allow_0.2.1
theorem dX11_allow_2 : decode cX11_allow 2 = .ok (.aload_n 0, 1) := dgX11_allow_0.2.2.1
theorem dX11_allow_3 : decode cX11_allow 3 = .ok (.getfield 203, 3) := dgX11_allow_0.2.2.2.1
theorem dX11_allow_6 : decode cX11_allow 6 = .ok (.iconst 1, 1) := dgX11_allow_0.2.2.2.2.1
theorem dX11_allow_7 : decode cX11_allow 7 = .ok (.isub, 1) := dgX11_allow_0.2.2.2.2.2.1
theorem dX11_allow_8 : decode cX11_allow 8 = .ok (.invokestatic 156, 3) := dgX11_allow_0.2.2.2.2.2.2.1
theorem dX11_allow_11 : decode cX11_allow 11 = .ok (.ifCond .eq 12, 3) := dgX11_allow_0.2.2.2.2.2.2.2.1
theorem dX11_allow_14 : decode cX11_allow 14 = .ok (.aload_n 0, 1) := dgX11_allow_0.2.2.2.2.2.2.2.2.1
theorem dX11_allow_15 : decode cX11_allow 15 = .ok (.getfield 109, 3) := dgX11_allow_0.2.2.2.2.2.2.2.2.2.1
theorem dX11_allow_18 : decode cX11_allow 18 = .ok (.iload_n 1, 1) := dgX11_allow_0.2.2.2.2.2.2.2.2.2.2.1
theorem dX11_allow_19 : decode cX11_allow 19 = .ok (.iaload, 1) := dgX11_allow_0.2.2.2.2.2.2.2.2.2.2.2.1
theorem dX11_allow_20 : decode cX11_allow 20 = .ok (.ifCond .eq 5, 3) := dgX11_allow_0.2.2.2.2.2.2.2.2.2.2.2.2.1
theorem dX11_allow_23 : decode cX11_allow 23 = .ok (.iconst 0, 1) := dgX11_allow_0.2.2.2.2.2.2.2.2.2.2.2.2.2.1
theorem dX11_allow_24 : decode cX11_allow 24 = .ok (.ireturn, 1) := dgX11_allow_0.2.2.2.2.2.2.2.2.2.2.2.2.2.2.1
theorem dX11_allow_25 : decode cX11_allow 25 = .ok (.aload_n 0, 1) := dgX11_allow_0.2.2.2.2.2.2.2.2.2.2.2.2.2.2.2
theorem dgX11_allow_16 : (decode cX11_allow 26 = .ok (.getfield 112, 3)) ∧ (decode cX11_allow 29 = .ok (.iload_n 1, 1)) ∧ (decode cX11_allow 30 = .ok (.iconst 1, 1)) ∧ (decode cX11_allow 31 = .ok (.bastore, 1)) ∧ (decode cX11_allow 32 = .ok (.iconst 1, 1)) ∧ (decode cX11_allow 33 = .ok (.ireturn, 1)) := by decide +kernel
theorem dX11_allow_26 : decode cX11_allow 26 = .ok (.getfield 112, 3) := dgX11_allow_16.1
theorem dX11_allow_29 : decode cX11_allow 29 = .ok (.iload_n 1, 1) := dgX11_allow_16.2.1
theorem dX11_allow_30 : decode cX11_allow 30 = .ok (.iconst 1, 1) := dgX11_allow_16.2.2.1
theorem dX11_allow_31 : decode cX11_allow 31 = .ok (.bastore, 1) := dgX11_allow_16.2.2.2.1
theorem dX11_allow_32 : decode cX11_allow 32 = .ok (.iconst 1, 1) := dgX11_allow_16.2.2.2.2.1
theorem dX11_allow_33 : decode cX11_allow 33 = .ok (.ireturn, 1) := dgX11_allow_16.2.2.2.2.2
theorem dgX11_sort_0 : (decode cX11_sort 0 = .ok (.aload_n 0, 1)) ∧ (decode cX11_sort 1 = .ok (.getfield 16, 3)) ∧ (decode cX11_sort 4 = .ok (.aload_n 0, 1)) ∧ (decode cX11_sort 5 = .ok (.getfield 100, 3)) ∧ (decode cX11_sort 8 = .ok (.iload_n 1, 1)) ∧ (decode cX11_sort 9 = .ok (.iaload, 1)) ∧ (decode cX11_sort 10 = .ok (.iaload, 1)) ∧ (decode cX11_sort 11 = .ok (.iconst 4, 1)) ∧ (decode cX11_sort 12 = .ok (.if_icmp .ne 7, 3)) ∧ (decode cX11_sort 15 = .ok (.iconst 1, 1)) ∧ (decode cX11_sort 16 = .ok (.goto 4, 3)) ∧ (decode cX11_sort 19 = .ok (.iconst 0, 1)) ∧ (decode cX11_sort 20 = .ok (.aload_n 0, 1)) ∧ (decode cX11_sort 21 = .ok (.getfield 106, 3)) ∧ (decode cX11_sort 24 = .ok (.iload_n 1, 1)) ∧ (decode cX11_sort 25 = .ok (.iaload, 1)) := by decide +kernel
theorem dX11_sort_0 : decode cX11_sort 0 = .ok (.aload_n 0, 1) := dgX11_sort_0.1
theorem dX11_sort_1 : decode cX11_sort 1 = .ok (.getfield 16, 3) := dgX11_sort_0.2.1
theorem dX11_sort_4 : decode cX11_sort 4 = .ok (.aload_n 0, 1) := dgX11_sort_0.2.2.1
theorem dX11_sort_5 : decode cX11_sort 5 = .ok (.getfield 100, 3) := dgX11_sort_0.2.2.2.1
theorem dX11_sort_8 : decode cX11_sort 8 = .ok (.iload_n 1, 1) := dgX11_sort_0.2.2.2.2.1
theorem dX11_sort_9 : decode cX11_sort 9 = .ok (.iaload, 1) := dgX11_sort_0.2.2.2.2.2.1
theorem dX11_sort_10 : decode cX11_sort 10 = .ok (.iaload, 1) := dgX11_sort_0.2.2.2.2.2.2.1
theorem dX11_sort_11 : decode cX11_sort 11 = .ok (.iconst 4, 1) := dgX11_sort_0.2.2.2.2.2.2.2.1
theorem dX11_sort_12 : decode cX11_sort 12 = .ok (.if_icmp .ne 7, 3) := dgX11_sort_0.2.2.2.2.2.2.2.2.1
theorem dX11_sort_15 : decode cX11_sort 15 = .ok (.iconst 1, 1) := dgX11_sort_0.2.2.2.2.2.2.2.2.2.1
theorem dX11_sort_16 : decode cX11_sort 16 = .ok (.goto 4, 3) := dgX11_sort_0.2.2.2.2.2.2.2.2.2.2.1
theorem dX11_sort_19 : decode cX11_sort 19 = .ok (.iconst 0, 1) := dgX11_sort_0.2.2.2.2.2.2.2.2.2.2.2.1
theorem dX11_sort_20 : decode cX11_sort 20 = .ok (.aload_n 0, 1) := dgX11_sort_0.2.2.2.2.2.2.2.2.2.2.2.2.1
theorem dX11_sort_21 : decode cX11_sort 21 = .ok (.getfield 106, 3) := dgX11_sort_0.2.2.2.2.2.2.2.2.2.2.2.2.2.1
theorem dX11_sort_24 : decode cX11_sort 24 = .ok (.iload_n 1, 1) := dgX11_sort_0.2.2.2.2.2.2.2.2.2.2.2.2.2.2.1
theorem dX11_sort_25 : decode cX11_sort 25 = .ok (.iaload, 1) := dgX11_sort_0.2.2.2.2.2.2.2.2.2.2.2.2.2.2.2
theorem dgX11_sort_16 : (decode cX11_sort 26 = .ok (.ifCond .lt 7, 3)) ∧ (decode cX11_sort 29 = .ok (.iconst 2, 1)) ∧ (decode cX11_sort 30 = .ok (.goto 4, 3)) ∧ (decode cX11_sort 33 = .ok (.iconst 0, 1)) ∧ (decode cX11_sort 34 = .ok (.iadd, 1)) ∧ (decode cX11_sort 35 = .ok (.ireturn, 1)) := by decide +kernel
theorem dX11_sort_26 : decode cX11_sort 26 = .ok (.ifCond .lt 7, 3) := dgX11_sort_16.1
theorem dX11_sort_29 : decode cX11_sort 29 = .ok (.iconst 2, 1) := dgX11_sort_16.2.1
theorem dX11_sort_30 : decode cX11_sort 30 = .ok (.goto 4, 3) := dgX11_sort_16.2.2.1
theorem dX11_sort_33 : decode cX11_sort 33 = .ok (.iconst 0, 1) := dgX11_sort_16.2.2.2.1
theorem dX11_sort_34 : decode cX11_sort 34 = .ok (.iadd, 1) := dgX11_sort_16.2.2.2.2.1
theorem dX11_sort_35 : decode cX11_sort 35 = .ok (.ireturn, 1) := dgX11_sort_16.2.2.2.2.2
theorem dgX11_isFit_0 : (decode cX11_isFit 0 = .ok (.aload_n 0, 1)) ∧ (decode cX11_isFit 1 = .ok (.getfield 115, 3)) ∧ (decode cX11_isFit 4 = .ok (.iload_n 1, 1)) ∧ (decode cX11_isFit 5 = .ok (.iaload, 1)) ∧ (decode cX11_isFit 6 = .ok (.iconst 1, 1)) ∧ (decode cX11_isFit 7 = .ok (.if_icmp .ne 25, 3)) ∧ (decode cX11_isFit 10 = .ok (.aload_n 0, 1)) ∧ (decode cX11_isFit 11 = .ok (.getfield 109, 3)) ∧ (decode cX11_isFit 14 = .ok (.iload_n 1, 1)) ∧ (decode cX11_isFit 15 = .ok (.iaload, 1)) ∧ (decode cX11_isFit 16 = .ok (.ifCond .ne 12, 3)) ∧ (decode cX11_isFit 19 = .ok (.aload_n 0, 1)) ∧ (decode cX11_isFit 20 = .ok (.getfield 112, 3)) ∧ (decode cX11_isFit 23 = .ok (.iload_n 1, 1)) ∧ (decode cX11_isFit 24 = .ok (.baload, 1)) ∧ (decode cX11_isFit 25 = .ok (.ifCond .eq 7, 3)) := by decide +kernel
theorem dX11_isFit_0 : decode cX11_isFit 0 = .ok (.aload_n 0, 1) := dgX11_isFit_0.1
theorem dX11_isFit_1 : decode cX11_isFit 1 = .ok (.getfield 115, 3) := dgX11_isFit_0.2.1
theorem dX11_isFit_4 : decode cX11_isFit 4 = .ok (.iload_n 1, 1) := dgX11_isFit_0.2.2.1
theorem dX11_isFit_5 : decode cX11_isFit 5 = .ok (.iaload, 1) := dgX11_isFit_0.2.2.2.1
theorem dX11_isFit_6 : decode cX11_isFit 6 = .ok (.iconst 1, 1) := dgX11_isFit_0.2.2.2.2.1
theorem dX11_isFit_7 : decode cX11_isFit 7 = .ok (.if_icmp .ne 25, 3) := dgX11_isFit_0.2.2.2.2.2.1
theorem dX11_isFit_10 : decode cX11_isFit 10 = .ok (.aload_n 0, 1) := dgX11_isFit_0.2.2.2.2.2.2.1
theorem dX11_isFit_11 : decode cX11_isFit 11 = .ok (.getfield 109, 3) := dgX11_isFit_0.2.2.2.2.2.2.2.1
theorem dX11_isFit_14 : decode cX11_isFit 14 = .ok (.iload_n 1, 1) := dgX11_isFit_0.2.2.2.2.2.2.2.2.1
theorem dX11_isFit_15 : decode cX11_isFit 15 = .ok (.iaload, 1) := dgX11_isFit_0.2.2.2.2.2.2.2.2.2.1
theorem dX11_isFit_16 : decode cX11_isFit 16 = .ok (.ifCond .ne 12, 3) := dgX11_isFit_0.2.2.2.2.2.2.2.2.2.2.1
theorem dX11_isFit_19 : decode cX11_isFit 19 = .ok (.aload_n 0, 1) := dgX11_isFit_0.2.2.2.2.2.2.2.2.2.2.2.1
theorem dX11_isFit_20 : decode cX11_isFit 20 = .ok (.getfield 112, 3) := dgX11_isFit_0.2.2.2.2.2.2.2.2.2.2.2.2.1
theorem dX11_isFit_23 : decode cX11_isFit 23 = .ok (.iload_n 1, 1) := dgX11_isFit_0.2.2.2.2.2.2.2.2.2.2.2.2.2.1
theorem dX11_isFit_24 : decode cX11_isFit 24 = .ok (.baload, 1) := dgX11_isFit_0.2.2.2.2.2.2.2.2.2.2.2.2.2.2.1
theorem dX11_isFit_25 : decode cX11_isFit 25 = .ok (.ifCond .eq 7, 3) := dgX11_isFit_0.2.2.2.2.2.2.2.2.2.2.2.2.2.2.2
theorem dgX11_isFit_16 : (decode cX11_isFit 28 = .ok (.iconst 1, 1)) ∧ (decode cX11_isFit 29 = .ok (.goto 4, 3)) ∧ (decode cX11_isFit 32 = .ok (.iconst 0, 1)) ∧ (decode cX11_isFit 33 = .ok (.ireturn, 1)) := by decide +kernel
theorem dX11_isFit_28 : decode cX11_isFit 28 = .ok (.iconst 1, 1) := dgX11_isFit_16.1
theorem dX11_isFit_29 : decode cX11_isFit 29 = .ok (.goto 4, 3) := dgX11_isFit_16.2.1
theorem dX11_isFit_32 : decode cX11_isFit 32 = .ok (.iconst 0, 1) := dgX11_isFit_16.2.2.1
theorem dX11_isFit_33 : decode cX11_isFit 33 = .ok (.ireturn, 1) := dgX11_isFit_16.2.2.2
theorem dgX11_pieceOf_0 : (decode cX11_pieceOf 0 = .ok (.iload_n 1, 1)) ∧ (decode cX11_pieceOf 1 = .ok (.iconst 0, 1)) ∧ (decode cX11_pieceOf 2 = .ok (.aload_n 0, 1)) ∧ (decode cX11_pieceOf 3 = .ok (.getfield 203, 3)) ∧ (decode cX11_pieceOf 6 = .ok (.iconst 1, 1)) ∧ (decode cX11_pieceOf 7 = .ok (.isub, 1)) ∧ (decode cX11_pieceOf 8 = .ok (.invokestatic 156, 3)) ∧ (decode cX11_pieceOf 11 = .ok (.ifCond .ne 5, 3)) ∧ (decode cX11_pieceOf 14 = .ok (.iconst (-1), 1)) ∧ (decode cX11_pieceOf 15 = .ok (.ireturn, 1)) ∧ (decode cX11_pieceOf 16 = .ok (.iload_n 2, 1)) ∧ (decode cX11_pieceOf 17 = .ok (.tableswitch 128 0 8 #[51, 58, 65, 72, 79, 94, 101, 108, 114], 51)) ∧ (decode cX11_pieceOf 68 = .ok (.aload_n 0, 1)) ∧ (decode cX11_pieceOf 69 = .ok (.getfield 100, 3)) ∧ (decode cX11_pieceOf 72 = .ok (.iload_n 1, 1)) ∧ (decode cX11_pieceOf 73 = .ok (.iaload, 1)) := by decide +kernel
theorem dX11_pieceOf_0 : decode cX11_pieceOf 0 = .ok (.iload_n 1, 1) := dgX11_pieceOf_0.1
theorem dX11_pieceOf_1 : decode cX11_pieceOf 1 = .ok (.iconst 0, 1) := dgX11_pieceOf_0.2.1
theorem dX11_pieceOf_2 : decode cX11_pieceOf 2 = .ok (.aload_n 0, 1) := dgX11_pieceOf_0.2.2.1
theorem dX11_pieceOf_3 : decode cX11_pieceOf 3 = .ok (.getfield 203, 3) := dgX11_pieceOf_0.2.2.2.1
theorem dX11_pieceOf_6 : decode cX11_pieceOf 6 = .ok (.iconst 1, 1) := dgX11_pieceOf_0.2.2.2.2.1
theorem dX11_pieceOf_7 : decode cX11_pieceOf 7 = .ok (.isub, 1) := dgX11_pieceOf_0.2.2.2.2.2.1
theorem dX11_pieceOf_8 : decode cX11_pieceOf 8 = .ok (.invokestatic 156, 3) := dgX11_pieceOf_0.2.2.2.2.2.2.1
theorem dX11_pieceOf_11 : decode cX11_pieceOf 11 = .ok (.ifCond .ne 5, 3) := dgX11_pieceOf_0.2.2.2.2.2.2.2.1
theorem dX11_pieceOf_14 : decode cX11_pieceOf 14 = .ok (.iconst (-1), 1) := dgX11_pieceOf_0.2.2.2.2.2.2.2.2.1
theorem dX11_pieceOf_15 : decode cX11_pieceOf 15 = .ok (.ireturn, 1) := dgX11_pieceOf_0.2.2.2.2.2.2.2.2.2.1
theorem dX11_pieceOf_16 : decode cX11_pieceOf 16 = .ok (.iload_n 2, 1) := dgX11_pieceOf_0.2.2.2.2.2.2.2.2.2.2.1
theorem dX11_pieceOf_17 : decode cX11_pieceOf 17 = .ok (.tableswitch 128 0 8 #[51, 58, 65, 72, 79, 94, 101, 108, 114], 51) := dgX11_pieceOf_0.2.2.2.2.2.2.2.2.2.2.2.1
theorem dX11_pieceOf_68 : decode cX11_pieceOf 68 = .ok (.aload_n 0, 1) := dgX11_pieceOf_0.2.2.2.2.2.2.2.2.2.2.2.2.1
theorem dX11_pieceOf_69 : decode cX11_pieceOf 69 = .ok (.getfield 100, 3) := dgX11_pieceOf_0.2.2.2.2.2.2.2.2.2.2.2.2.2.1
theorem dX11_pieceOf_72 : decode cX11_pieceOf 72 = .ok (.iload_n 1, 1) := dgX11_pieceOf_0.2.2.2.2.2.2.2.2.2.2.2.2.2.2.1
theorem dX11_pieceOf_73 : decode cX11_pieceOf 73 = .ok (.iaload, 1) := dgX11_pieceOf_0.2.2.2.2.2.2.2.2.2.2.2.2.2.2.2
theorem dgX11_pieceOf_16 : (decode cX11_pieceOf 74 = .ok (.ireturn, 1)) ∧ (decode cX11_pieceOf 75 = .ok (.aload_n 0, 1)) ∧ (decode cX11_pieceOf 76 = .ok (.getfield 103, 3)) ∧ (decode cX11_pieceOf 79 = .ok (.iload_n 1, 1)) ∧ (decode cX11_pieceOf 80 = .ok (.iaload, 1)) ∧ (decode cX11_pieceOf 81 = .ok (.ireturn, 1)) ∧ (decode cX11_pieceOf 82 = .ok (.aload_n 0, 1)) ∧ (decode cX11_pieceOf 83 = .ok (.getfield 106, 3)) ∧ (decode cX11_pieceOf 86 = .ok (.iload_n 1, 1)) ∧ (decode cX11_pieceOf 87 = .ok (.iaload, 1)) ∧ (decode cX11_pieceOf 88 = .ok (.ireturn, 1)) ∧ (decode cX11_pieceOf 89 = .ok (.aload_n 0, 1)) ∧ (decode cX11_pieceOf 90 = .ok (.getfield 109, 3)) ∧ (decode cX11_pieceOf 93 = .ok (.iload_n 1, 1)) ∧ (decode cX11_pieceOf 94 = .ok (.iaload, 1)) ∧ (decode cX11_pieceOf 95 = .ok (.ireturn, 1)) := by decide +kernel
theorem dX11_pieceOf_74 : decode cX11_pieceOf 74 = .ok (.ireturn, 1) := dgX11_pieceOf_16.1
theorem dX11_pieceOf_75 : decode cX11_pieceOf 75 = .ok (.aload_n 0, 1) := dgX11_pieceOf_16.2.1
theorem dX11_pieceOf_76 : decode cX11_pieceOf 76 = .ok (.getfield 103, 3) := dgX11_pieceOf_16.2.2.1
theorem dX11_pieceOf_79 : decode cX11_pieceOf 79 = .ok (.iload_n 1, 1) := dgX11_pieceOf_16.2.2.2.1
theorem dX11_pieceOf_80 : decode cX11_pieceOf 80 = .ok (.iaload, 1) := dgX11_pieceOf_16.2.2.2.2.1
theorem dX11_pieceOf_81 : decode cX11_pieceOf 81 = .ok (.ireturn, 1) := dgX11_pieceOf_16.2.2.2.2.2.1
theorem dX11_pieceOf_82 : decode cX11_pieceOf 82 = .ok (.aload_n 0, 1) := dgX11_pieceOf_16.2.2.2.2.2.2.1
theorem dX11_pieceOf_83 : decode cX11_pieceOf 83 = .ok (.getfield 106, 3) := dgX11_pieceOf_16.2.2.2.2.2.2.2.1
theorem dX11_pieceOf_86 : decode cX11_pieceOf 86 = .ok (.iload_n 1, 1) := dgX11_pieceOf_16.2.2.2.2.2.2.2.2.1
theorem dX11_pieceOf_87 : decode cX11_pieceOf 87 = .ok (.iaload, 1) := dgX11_pieceOf_16.2.2.2.2.2.2.2.2.2.1
theorem dX11_pieceOf_88 : decode cX11_pieceOf 88 = .ok (.ireturn, 1) := dgX11_pieceOf_16.2.2.2.2.2.2.2.2.2.2.1
theorem dX11_pieceOf_89 : decode cX11_pieceOf 89 = .ok (.aload_n 0, 1) := dgX11_pieceOf_16.2.2.2.2.2.2.2.2.2.2.2.1
theorem dX11_pieceOf_90 : decode cX11_pieceOf 90 = .ok (.getfield 109, 3) := dgX11_pieceOf_16.2.2.2.2.2.2.2.2.2.2.2.2.1
theorem dX11_pieceOf_93 : decode cX11_pieceOf 93 = .ok (.iload_n 1, 1) := dgX11_pieceOf_16.2.2.2.2.2.2.2.2.2.2.2.2.2.1
theorem dX11_pieceOf_94 : decode cX11_pieceOf 94 = .ok (.iaload, 1) := dgX11_pieceOf_16.2.2.2.2.2.2.2.2.2.2.2.2.2.2.1
theorem dX11_pieceOf_95 : decode cX11_pieceOf 95 = .ok (.ireturn, 1) := dgX11_pieceOf_16.2.2.2.2.2.2.2.2.2.2.2.2.2.2.2
theorem dgX11_pieceOf_32 : (decode cX11_pieceOf 96 = .ok (.aload_n 0, 1)) ∧ (decode cX11_pieceOf 97 = .ok (.getfield 112, 3)) ∧ (decode cX11_pieceOf 100 = .ok (.iload_n 1, 1)) ∧ (decode cX11_pieceOf 101 = .ok (.baload, 1)) ∧ (decode cX11_pieceOf 102 = .ok (.ifCond .eq 7, 3)) ∧ (decode cX11_pieceOf 105 = .ok (.iconst 1, 1)) ∧ (decode cX11_pieceOf 106 = .ok (.goto 4, 3)) ∧ (decode cX11_pieceOf 109 = .ok (.iconst 0, 1)) ∧ (decode cX11_pieceOf 110 = .ok (.ireturn, 1)) ∧ (decode cX11_pieceOf 111 = .ok (.aload_n 0, 1)) ∧ (decode cX11_pieceOf 112 = .ok (.getfield 115, 3)) ∧ (decode cX11_pieceOf 115 = .ok (.iload_n 1, 1)) ∧ (decode cX11_pieceOf 116 = .ok (.iaload, 1)) ∧ (decode cX11_pieceOf 117 = .ok (.ireturn, 1)) ∧ (decode cX11_pieceOf 118 = .ok (.aload_n 0, 1)) ∧ (decode cX11_pieceOf 119 = .ok (.getfield 118, 3)) := by decide +kernel
theorem dX11_pieceOf_96 : decode cX11_pieceOf 96 = .ok (.aload_n 0, 1) := dgX11_pieceOf_32.1
theorem dX11_pieceOf_97 : decode cX11_pieceOf 97 = .ok (.getfield 112, 3) := dgX11_pieceOf_32.2.1
theorem dX11_pieceOf_100 : decode cX11_pieceOf 100 = .ok (.iload_n 1, 1) := dgX11_pieceOf_32.2.2.1
theorem dX11_pieceOf_101 : decode cX11_pieceOf 101 = .ok (.baload, 1) := dgX11_pieceOf_32.2.2.2.1
theorem dX11_pieceOf_102 : decode cX11_pieceOf 102 = .ok (.ifCond .eq 7, 3) := dgX11_pieceOf_32.2.2.2.2.1
theorem dX11_pieceOf_105 : decode cX11_pieceOf 105 = .ok (.iconst 1, 1) := dgX11_pieceOf_32.2.2.2.2.2.1
theorem dX11_pieceOf_106 : decode cX11_pieceOf 106 = .ok (.goto 4, 3) := dgX11_pieceOf_32.2.2.2.2.2.2.1
theorem dX11_pieceOf_109 : decode cX11_pieceOf 109 = .ok (.iconst 0, 1) := dgX11_pieceOf_32.2.2.2.2.2.2.2.1
theorem dX11_pieceOf_110 : decode cX11_pieceOf 110 = .ok (.ireturn, 1) := dgX11_pieceOf_32.2.2.2.2.2.2.2.2.1
theorem dX11_pieceOf_111 : decode cX11_pieceOf 111 = .ok (.aload_n 0, 1) := dgX11_pieceOf_32.2.2.2.2.2.2.2.2.2.1
theorem dX11_pieceOf_112 : decode cX11_pieceOf 112 = .ok (.getfield 115, 3) := dgX11_pieceOf_32.2.2.2.2.2.2.2.2.2.2.1
theorem dX11_pieceOf_115 : decode cX11_pieceOf 115 = .ok (.iload_n 1, 1) := dgX11_pieceOf_32.2.2.2.2.2.2.2.2.2.2.2.1
theorem dX11_pieceOf_116 : decode cX11_pieceOf 116 = .ok (.iaload, 1) := dgX11_pieceOf_32.2.2.2.2.2.2.2.2.2.2.2.2.1
theorem dX11_pieceOf_117 : decode cX11_pieceOf 117 = .ok (.ireturn, 1) := dgX11_pieceOf_32.2.2.2.2.2.2.2.2.2.2.2.2.2.1
theorem dX11_pieceOf_118 : decode cX11_pieceOf 118 = .ok (.aload_n 0, 1) := dgX11_pieceOf_32.2.2.2.2.2.2.2.2.2.2.2.2.2.2.1
theorem dX11_pieceOf_119 : decode cX11_pieceOf 119 = .ok (.getfield 118, 3) := dgX11_pieceOf_32.2.2.2.2.2.2.2.2.2.2.2.2.2.2.2
theorem dgX11_pieceOf_48 : (decode cX11_pieceOf 122 = .ok (.iload_n 1, 1)) ∧ (decode cX11_pieceOf 123 = .ok (.iaload, 1)) ∧ (decode cX11_pieceOf 124 = .ok (.ireturn, 1)) ∧ (decode cX11_pieceOf 125 = .ok (.aload_n 0, 1)) ∧ (decode cX11_pieceOf 126 = .ok (.iload_n 1, 1)) ∧ (decode cX11_pieceOf 127 = .ok (.invokevirtual 213, 3)) ∧ (decode cX11_pieceOf 130 = .ok (.ireturn, 1)) ∧ (decode cX11_pieceOf 131 = .ok (.aload_n 0, 1)) ∧ (decode cX11_pieceOf 132 = .ok (.iload_n 1, 1)) ∧ (decode cX11_pieceOf 133 = .ok (.invokevirtual 216, 3)) ∧ (decode cX11_pieceOf 136 = .ok (.ifCond .eq 7, 3)) ∧ (decode cX11_pieceOf 139 = .ok (.iconst 1, 1)) ∧ (decode cX11_pieceOf 140 = .ok (.goto 4, 3)) ∧ (decode cX11_pieceOf 143 = .ok (.iconst 0, 1)) ∧ (decode cX11_pieceOf 144 = .ok (.ireturn, 1)) ∧ (decode cX11_pieceOf 145 = .ok (.iconst (-1), 1)) := by decide +kernel
theorem dX11_pieceOf_122 : decode cX11_pieceOf 122 = .ok (.iload_n 1, 1) := dgX11_pieceOf_48.1
theorem dX11_pieceOf_123 : decode cX11_pieceOf 123 = .ok (.iaload, 1) := dgX11_pieceOf_48.2.1
theorem dX11_pieceOf_124 : decode cX11_pieceOf 124 = .ok (.ireturn, 1) := dgX11_pieceOf_48.2.2.1
theorem dX11_pieceOf_125 : decode cX11_pieceOf 125 = .ok (.aload_n 0, 1) := dgX11_pieceOf_48.2.2.2.1
theorem dX11_pieceOf_126 : decode cX11_pieceOf 126 = .ok (.iload_n 1, 1) := dgX11_pieceOf_48.2.2.2.2.1
theorem dX11_pieceOf_127 : decode cX11_pieceOf 127 = .ok (.invokevirtual 213, 3) := dgX11_pieceOf_48.2.2.2.2.2.1
theorem dX11_pieceOf_130 : decode cX11_pieceOf 130 = .ok (.ireturn, 1) := dgX11_pieceOf_48.2.2.2.2.2.2.1
theorem dX11_pieceOf_131 : decode cX11_pieceOf 131 = .ok (.aload_n 0, 1) := dgX11_pieceOf_48.2.2.2.2.2.2.2.1
theorem dX11_pieceOf_132 : decode cX11_pieceOf 132 = .ok (.iload_n 1, 1) := dgX11_pieceOf_48.2.2.2.2.2.2.2.2.1
theorem dX11_pieceOf_133 : decode cX11_pieceOf 133 = .ok (.invokevirtual 216, 3) := dgX11_pieceOf_48.2.2.2.2.2.2.2.2.2.1
theorem dX11_pieceOf_136 : decode cX11_pieceOf 136 = .ok (.ifCond .eq 7, 3) := dgX11_pieceOf_48.2.2.2.2.2.2.2.2.2.2.1
theorem dX11_pieceOf_139 : decode cX11_pieceOf 139 = .ok (.iconst 1, 1) := dgX11_pieceOf_48.2.2.2.2.2.2.2.2.2.2.2.1
theorem dX11_pieceOf_140 : decode cX11_pieceOf 140 = .ok (.goto 4, 3) := dgX11_pieceOf_48.2.2.2.2.2.2.2.2.2.2.2.2.1
theorem dX11_pieceOf_143 : decode cX11_pieceOf 143 = .ok (.iconst 0, 1) := dgX11_pieceOf_48.2.2.2.2.2.2.2.2.2.2.2.2.2.1
theorem dX11_pieceOf_144 : decode cX11_pieceOf 144 = .ok (.ireturn, 1) := dgX11_pieceOf_48.2.2.2.2.2.2.2.2.2.2.2.2.2.2.1
theorem dX11_pieceOf_145 : decode cX11_pieceOf 145 = .ok (.iconst (-1), 1) := dgX11_pieceOf_48.2.2.2.2.2.2.2.2.2.2.2.2.2.2.2
theorem dX11_pieceOf_146 : decode cX11_pieceOf 146 = .ok (.ireturn, 1) := by decide +kernel
theorem dgX11_at_0 : (decode cX11_at 0 = .ok (.iload_n 1, 1)) ∧ (decode cX11_at 1 = .ok (.iconst 0, 1)) ∧ (decode cX11_at 2 = .ok (.iconst 5, 1)) ∧ (decode cX11_at 3 = .ok (.invokestatic 156, 3)) ∧ (decode cX11_at 6 = .ok (.ifCond .eq 27, 3)) ∧ (decode cX11_at 9 = .ok (.iload_n 2, 1)) ∧ (decode cX11_at 10 = .ok (.iconst 0, 1)) ∧ (decode cX11_at 11 = .ok (.bipush 23, 2)) ∧ (decode cX11_at 13 = .ok (.invokestatic 156, 3)) ∧ (decode cX11_at 16 = .ok (.ifCond .eq 17, 3)) ∧ (decode cX11_at 19 = .ok (.aload_n 0, 1)) ∧ (decode cX11_at 20 = .ok (.getfield 121, 3)) ∧ (decode cX11_at 23 = .ok (.bipush 24, 2)) ∧ (decode cX11_at 25 = .ok (.iload_n 1, 1)) ∧ (decode cX11_at 26 = .ok (.imul, 1)) ∧ (decode cX11_at 27 = .ok (.iload_n 2, 1)) := by decide +kernel
theorem dX11_at_0 : decode cX11_at 0 = .ok (.iload_n 1, 1) := dgX11_at_0.1
theorem dX11_at_1 : decode cX11_at 1 = .ok (.iconst 0, 1) := dgX11_at_0.2.1
theorem dX11_at_2 : decode cX11_at 2 = .ok (.iconst 5, 1) := dgX11_at_0.2.2.1
theorem dX11_at_3 : decode cX11_at 3 = .ok (.invokestatic 156, 3) := dgX11_at_0.2.2.2.1
theorem dX11_at_6 : decode cX11_at 6 = .ok (.ifCond .eq 27, 3) := dgX11_at_0.2.2.2.2.1
theorem dX11_at_9 : decode cX11_at 9 = .ok (.iload_n 2, 1) := dgX11_at_0.2.2.2.2.2.1
theorem dX11_at_10 : decode cX11_at 10 = .ok (.iconst 0, 1) := dgX11_at_0.2.2.2.2.2.2.1
theorem dX11_at_11 : decode cX11_at 11 = .ok (.bipush 23, 2) := dgX11_at_0.2.2.2.2.2.2.2.1
theorem dX11_at_13 : decode cX11_at 13 = .ok (.invokestatic 156, 3) := dgX11_at_0.2.2.2.2.2.2.2.2.1
theorem dX11_at_16 : decode cX11_at 16 = .ok (.ifCond .eq 17, 3) := dgX11_at_0.2.2.2.2.2.2.2.2.2.1
theorem dX11_at_19 : decode cX11_at 19 = .ok (.aload_n 0, 1) := dgX11_at_0.2.2.2.2.2.2.2.2.2.2.1
theorem dX11_at_20 : decode cX11_at 20 = .ok (.getfield 121, 3) := dgX11_at_0.2.2.2.2.2.2.2.2.2.2.2.1
theorem dX11_at_23 : decode cX11_at 23 = .ok (.bipush 24, 2) := dgX11_at_0.2.2.2.2.2.2.2.2.2.2.2.2.1
theorem dX11_at_25 : decode cX11_at 25 = .ok (.iload_n 1, 1) := dgX11_at_0.2.2.2.2.2.2.2.2.2.2.2.2.2.1
theorem dX11_at_26 : decode cX11_at 26 = .ok (.imul, 1) := dgX11_at_0.2.2.2.2.2.2.2.2.2.2.2.2.2.2.1
theorem dX11_at_27 : decode cX11_at 27 = .ok (.iload_n 2, 1) := dgX11_at_0.2.2.2.2.2.2.2.2.2.2.2.2.2.2.2
theorem dgX11_at_16 : (decode cX11_at 28 = .ok (.iadd, 1)) ∧ (decode cX11_at 29 = .ok (.iaload, 1)) ∧ (decode cX11_at 30 = .ok (.goto 4, 3)) ∧ (decode cX11_at 33 = .ok (.iconst (-1), 1)) ∧ (decode cX11_at 34 = .ok (.ireturn, 1)) := by decide +kernel
theorem dX11_at_28 : decode cX11_at 28 = .ok (.iadd, 1) := dgX11_at_16.1
theorem dX11_at_29 : decode cX11_at 29 = .ok (.iaload, 1) := dgX11_at_16.2.1
theorem dX11_at_30 : decode cX11_at 30 = .ok (.goto 4, 3) := dgX11_at_16.2.2.1
theorem dX11_at_33 : decode cX11_at 33 = .ok (.iconst (-1), 1) := dgX11_at_16.2.2.2.1
theorem dX11_at_34 : decode cX11_at 34 = .ok (.ireturn, 1) := dgX11_at_16.2.2.2.2
theorem dgX11_list_0 : (decode cX11_list 0 = .ok (.aload_n 0, 1)) ∧ (decode cX11_list 1 = .ok (.iconst 0, 1)) ∧ (decode cX11_list 2 = .ok (.putfield 219, 3)) ∧ (decode cX11_list 5 = .ok (.iconst 0, 1)) ∧ (decode cX11_list 6 = .ok (.istore_n 2, 1)) ∧ (decode cX11_list 7 = .ok (.iload_n 2, 1)) ∧ (decode cX11_list 8 = .ok (.sipush 144, 3)) ∧ (decode cX11_list 11 = .ok (.if_icmp .ge 73, 3)) ∧ (decode cX11_list 14 = .ok (.aload_n 0, 1)) ∧ (decode cX11_list 15 = .ok (.getfield 121, 3)) ∧ (decode cX11_list 18 = .ok (.iload_n 2, 1)) ∧ (decode cX11_list 19 = .ok (.iaload, 1)) ∧ (decode cX11_list 20 = .ok (.istore_n 3, 1)) ∧ (decode cX11_list 21 = .ok (.iload_n 3, 1)) ∧ (decode cX11_list 22 = .ok (.ifCond .lt 56, 3)) ∧ (decode cX11_list 25 = .ok (.aload_n 0, 1)) := by decide +kernel
theorem dX11_list_0 : decode cX11_list 0 = .ok (.aload_n 0, 1) := dgX11_list_0.1
theorem dX11_list_1 : decode cX11_list 1 = .ok (.iconst 0, 1) := dgX11_list_0.2.1
theorem dX11_list_2 : decode cX11_list 2 = .ok (.putfield 219, 3) := dgX11_list_0.2.2.1
theorem dX11_list_5 : decode cX11_list 5 = .ok (.iconst 0, 1) := dgX11_list_0.2.2.2.1
theorem dX11_list_6 : decode cX11_list 6 = .ok (.istore_n 2, 1) := dgX11_list_0.2.2.2.2.1
theorem dX11_list_7 : decode cX11_list 7 = .ok (.iload_n 2, 1) := dgX11_list_0.2.2.2.2.2.1
theorem dX11_list_8 : decode cX11_list 8 = .ok (.sipush 144, 3) := dgX11_list_0.2.2.2.2.2.2.1
theorem dX11_list_11 : decode cX11_list 11 = .ok (.if_icmp .ge 73, 3) := dgX11_list_0.2.2.2.2.2.2.2.1
theorem dX11_list_14 : decode cX11_list 14 = .ok (.aload_n 0, 1) := dgX11_list_0.2.2.2.2.2.2.2.2.1
theorem dX11_list_15 : decode cX11_list 15 = .ok (.getfield 121, 3) := dgX11_list_0.2.2.2.2.2.2.2.2.2.1
theorem dX11_list_18 : decode cX11_list 18 = .ok (.iload_n 2, 1) := dgX11_list_0.2.2.2.2.2.2.2.2.2.2.1
theorem dX11_list_19 : decode cX11_list 19 = .ok (.iaload, 1) := dgX11_list_0.2.2.2.2.2.2.2.2.2.2.2.1
theorem dX11_list_20 : decode cX11_list 20 = .ok (.istore_n 3, 1) := dgX11_list_0.2.2.2.2.2.2.2.2.2.2.2.2.1
theorem dX11_list_21 : decode cX11_list 21 = .ok (.iload_n 3, 1) := dgX11_list_0.2.2.2.2.2.2.2.2.2.2.2.2.2.1
theorem dX11_list_22 : decode cX11_list 22 = .ok (.ifCond .lt 56, 3) := dgX11_list_0.2.2.2.2.2.2.2.2.2.2.2.2.2.2.1
theorem dX11_list_25 : decode cX11_list 25 = .ok (.aload_n 0, 1) := dgX11_list_0.2.2.2.2.2.2.2.2.2.2.2.2.2.2.2
theorem dgX11_list_16 : (decode cX11_list 26 = .ok (.iload_n 3, 1)) ∧ (decode cX11_list 27 = .ok (.invokevirtual 216, 3)) ∧ (decode cX11_list 30 = .ok (.ifCond .eq 48, 3)) ∧ (decode cX11_list 33 = .ok (.iload_n 1, 1)) ∧ (decode cX11_list 34 = .ok (.aload_n 0, 1)) ∧ (decode cX11_list 35 = .ok (.iload_n 3, 1)) ∧ (decode cX11_list 36 = .ok (.invokevirtual 213, 3)) ∧ (decode cX11_list 39 = .ok (.ishr, 1)) ∧ (decode cX11_list 40 = .ok (.iconst 1, 1)) ∧ (decode cX11_list 41 = .ok (.iand, 1)) ∧ (decode cX11_list 42 = .ok (.ifCond .ne 6, 3)) ∧ (decode cX11_list 45 = .ok (.goto 33, 3)) ∧ (decode cX11_list 48 = .ok (.aload_n 0, 1)) ∧ (decode cX11_list 49 = .ok (.getfield 127, 3)) ∧ (decode cX11_list 52 = .ok (.aload_n 0, 1)) ∧ (decode cX11_list 53 = .ok (.getfield 219, 3)) := by decide +kernel
theorem dX11_list_26 : decode cX11_list 26 = .ok (.iload_n 3, 1) := dgX11_list_16.1
theorem dX11_list_27 : decode cX11_list 27 = .ok (.invokevirtual 216, 3) := dgX11_list_16.2.1
theorem dX11_list_30 : decode cX11_list 30 = .ok (.ifCond .eq 48, 3) := dgX11_list_16.2.2.1
theorem dX11_list_33 : decode cX11_list 33 = .ok (.iload_n 1, 1) := dgX11_list_16.2.2.2.1
theorem dX11_list_34 : decode cX11_list 34 = .ok (.aload_n 0, 1) := dgX11_list_16.2.2.2.2.1
theorem dX11_list_35 : decode cX11_list 35 = .ok (.iload_n 3, 1) := dgX11_list_16.2.2.2.2.2.1
theorem dX11_list_36 : decode cX11_list 36 = .ok (.invokevirtual 213, 3) := dgX11_list_16.2.2.2.2.2.2.1
theorem dX11_list_39 : decode cX11_list 39 = .ok (.ishr, 1) := dgX11_list_16.2.2.2.2.2.2.2.1
theorem dX11_list_40 : decode cX11_list 40 = .ok (.iconst 1, 1) := dgX11_list_16.2.2.2.2.2.2.2.2.1
theorem dX11_list_41 : decode cX11_list 41 = .ok (.iand, 1) := dgX11_list_16.2.2.2.2.2.2.2.2.2.1
theorem dX11_list_42 : decode cX11_list 42 = .ok (.ifCond .ne 6, 3) := dgX11_list_16.2.2.2.2.2.2.2.2.2.2.1
theorem dX11_list_45 : decode cX11_list 45 = .ok (.goto 33, 3) := dgX11_list_16.2.2.2.2.2.2.2.2.2.2.2.1
theorem dX11_list_48 : decode cX11_list 48 = .ok (.aload_n 0, 1) := dgX11_list_16.2.2.2.2.2.2.2.2.2.2.2.2.1
theorem dX11_list_49 : decode cX11_list 49 = .ok (.getfield 127, 3) := dgX11_list_16.2.2.2.2.2.2.2.2.2.2.2.2.2.1
theorem dX11_list_52 : decode cX11_list 52 = .ok (.aload_n 0, 1) := dgX11_list_16.2.2.2.2.2.2.2.2.2.2.2.2.2.2.1
theorem dX11_list_53 : decode cX11_list 53 = .ok (.getfield 219, 3) := dgX11_list_16.2.2.2.2.2.2.2.2.2.2.2.2.2.2.2
theorem dgX11_list_32 : (decode cX11_list 56 = .ok (.iload_n 3, 1)) ∧ (decode cX11_list 57 = .ok (.iastore, 1)) ∧ (decode cX11_list 58 = .ok (.aload_n 0, 1)) ∧ (decode cX11_list 59 = .ok (.getfield 130, 3)) ∧ (decode cX11_list 62 = .ok (.aload_n 0, 1)) ∧ (decode cX11_list 63 = .ok (.getfield 219, 3)) ∧ (decode cX11_list 66 = .ok (.iconst 0, 1)) ∧ (decode cX11_list 67 = .ok (.bastore, 1)) ∧ (decode cX11_list 68 = .ok (.aload_n 0, 1)) ∧ (decode cX11_list 69 = .ok (.dup, 1)) ∧ (decode cX11_list 70 = .ok (.getfield 219, 3)) ∧ (decode cX11_list 73 = .ok (.iconst 1, 1)) ∧ (decode cX11_list 74 = .ok (.iadd, 1)) ∧ (decode cX11_list 75 = .ok (.putfield 219, 3)) ∧ (decode cX11_list 78 = .ok (.iinc 2 1, 3)) ∧ (decode cX11_list 81 = .ok (.goto (-74), 3)) := by decide +kernel
theorem dX11_list_56 : decode cX11_list 56 = .ok (.iload_n 3, 1) := dgX11_list_32.1
theorem dX11_list_57 : decode cX11_list 57 = .ok (.iastore, 1) := dgX11_list_32.2.1
theorem dX11_list_58 : decode cX11_list 58 = .ok (.aload_n 0, 1) := dgX11_list_32.2.2.1
theorem dX11_list_59 : decode cX11_list 59 = .ok (.getfield 130, 3) := dgX11_list_32.2.2.2.1
theorem dX11_list_62 : decode cX11_list 62 = .ok (.aload_n 0, 1) := dgX11_list_32.2.2.2.2.1
theorem dX11_list_63 : decode cX11_list 63 = .ok (.getfield 219, 3) := dgX11_list_32.2.2.2.2.2.1
theorem dX11_list_66 : decode cX11_list 66 = .ok (.iconst 0, 1) := dgX11_list_32.2.2.2.2.2.2.1
theorem dX11_list_67 : decode cX11_list 67 = .ok (.bastore, 1) := dgX11_list_32.2.2.2.2.2.2.2.1
theorem dX11_list_68 : decode cX11_list 68 = .ok (.aload_n 0, 1) := dgX11_list_32.2.2.2.2.2.2.2.2.1
theorem dX11_list_69 : decode cX11_list 69 = .ok (.dup, 1) := dgX11_list_32.2.2.2.2.2.2.2.2.2.1
theorem dX11_list_70 : decode cX11_list 70 = .ok (.getfield 219, 3) := dgX11_list_32.2.2.2.2.2.2.2.2.2.2.1
theorem dX11_list_73 : decode cX11_list 73 = .ok (.iconst 1, 1) := dgX11_list_32.2.2.2.2.2.2.2.2.2.2.2.1
theorem dX11_list_74 : decode cX11_list 74 = .ok (.iadd, 1) := dgX11_list_32.2.2.2.2.2.2.2.2.2.2.2.2.1
theorem dX11_list_75 : decode cX11_list 75 = .ok (.putfield 219, 3) := dgX11_list_32.2.2.2.2.2.2.2.2.2.2.2.2.2.1
theorem dX11_list_78 : decode cX11_list 78 = .ok (.iinc 2 1, 3) := dgX11_list_32.2.2.2.2.2.2.2.2.2.2.2.2.2.2.1
theorem dX11_list_81 : decode cX11_list 81 = .ok (.goto (-74), 3) := dgX11_list_32.2.2.2.2.2.2.2.2.2.2.2.2.2.2.2
theorem dgX11_list_48 : (decode cX11_list 84 = .ok (.aload_n 0, 1)) ∧ (decode cX11_list 85 = .ok (.aload_n 0, 1)) ∧ (decode cX11_list 86 = .ok (.getfield 219, 3)) ∧ (decode cX11_list 89 = .ok (.bipush 40, 2)) ∧ (decode cX11_list 91 = .ok (.if_icmp .le 8, 3)) ∧ (decode cX11_list 94 = .ok (.bipush 40, 2)) ∧ (decode cX11_list 96 = .ok (.goto 7, 3)) ∧ (decode cX11_list 99 = .ok (.aload_n 0, 1)) ∧ (decode cX11_list 100 = .ok (.getfield 219, 3)) ∧ (decode cX11_list 103 = .ok (.putfield 222, 3)) ∧ (decode cX11_list 106 = .ok (.return_, 1)) := by decide +kernel
theorem dX11_list_84 : decode cX11_list 84 = .ok (.aload_n 0, 1) := dgX11_list_48.1
theorem dX11_list_85 : decode cX11_list 85 = .ok (.aload_n 0, 1) := dgX11_list_48.2.1
theorem dX11_list_86 : decode cX11_list 86 = .ok (.getfield 219, 3) := dgX11_list_48.2.2.1
theorem dX11_list_89 : decode cX11_list 89 = .ok (.bipush 40, 2) := dgX11_list_48.2.2.2.1
theorem dX11_list_91 : decode cX11_list 91 = .ok (.if_icmp .le 8, 3) := dgX11_list_48.2.2.2.2.1
theorem dX11_list_94 : decode cX11_list 94 = .ok (.bipush 40, 2) := dgX11_list_48.2.2.2.2.2.1
theorem dX11_list_96 : decode cX11_list 96 = .ok (.goto 7, 3) := dgX11_list_48.2.2.2.2.2.2.1
theorem dX11_list_99 : decode cX11_list 99 = .ok (.aload_n 0, 1) := dgX11_list_48.2.2.2.2.2.2.2.1
theorem dX11_list_100 : decode cX11_list 100 = .ok (.getfield 219, 3) := dgX11_list_48.2.2.2.2.2.2.2.2.1
theorem dX11_list_103 : decode cX11_list 103 = .ok (.putfield 222, 3) := dgX11_list_48.2.2.2.2.2.2.2.2.2.1
theorem dX11_list_106 : decode cX11_list 106 = .ok (.return_, 1) := dgX11_list_48.2.2.2.2.2.2.2.2.2.2
theorem dgX11_gather_0 : (decode cX11_gather 0 = .ok (.aload_n 0, 1)) ∧ (decode cX11_gather 1 = .ok (.iconst 0, 1)) ∧ (decode cX11_gather 2 = .ok (.putfield 225, 3)) ∧ (decode cX11_gather 5 = .ok (.iconst 0, 1)) ∧ (decode cX11_gather 6 = .ok (.istore_n 1, 1)) ∧ (decode cX11_gather 7 = .ok (.iload_n 1, 1)) ∧ (decode cX11_gather 8 = .ok (.aload_n 0, 1)) ∧ (decode cX11_gather 9 = .ok (.getfield 219, 3)) ∧ (decode cX11_gather 12 = .ok (.if_icmp .ge 50, 3)) ∧ (decode cX11_gather 15 = .ok (.aload_n 0, 1)) ∧ (decode cX11_gather 16 = .ok (.getfield 225, 3)) ∧ (decode cX11_gather 19 = .ok (.bipush 40, 2)) ∧ (decode cX11_gather 21 = .ok (.if_icmp .ge 41, 3)) ∧ (decode cX11_gather 24 = .ok (.aload_n 0, 1)) ∧ (decode cX11_gather 25 = .ok (.getfield 130, 3)) ∧ (decode cX11_gather 28 = .ok (.iload_n 1, 1)) := by decide +kernel
theorem dX11_gather_0 : decode cX11_gather 0 = .ok (.aload_n 0, 1) := dgX11_gather_0.1
theorem dX11_gather_1 : decode cX11_gather 1 = .ok (.iconst 0, 1) := dgX11_gather_0.2.1
theorem dX11_gather_2 : decode cX11_gather 2 = .ok (.putfield 225, 3) := dgX11_gather_0.2.2.1
theorem dX11_gather_5 : decode cX11_gather 5 = .ok (.iconst 0, 1) := dgX11_gather_0.2.2.2.1
theorem dX11_gather_6 : decode cX11_gather 6 = .ok (.istore_n 1, 1) := dgX11_gather_0.2.2.2.2.1
theorem dX11_gather_7 : decode cX11_gather 7 = .ok (.iload_n 1, 1) := dgX11_gather_0.2.2.2.2.2.1
theorem dX11_gather_8 : decode cX11_gather 8 = .ok (.aload_n 0, 1) := dgX11_gather_0.2.2.2.2.2.2.1
theorem dX11_gather_9 : decode cX11_gather 9 = .ok (.getfield 219, 3) := dgX11_gather_0.2.2.2.2.2.2.2.1
theorem dX11_gather_12 : decode cX11_gather 12 = .ok (.if_icmp .ge 50, 3) := dgX11_gather_0.2.2.2.2.2.2.2.2.1
theorem dX11_gather_15 : decode cX11_gather 15 = .ok (.aload_n 0, 1) := dgX11_gather_0.2.2.2.2.2.2.2.2.2.1
theorem dX11_gather_16 : decode cX11_gather 16 = .ok (.getfield 225, 3) := dgX11_gather_0.2.2.2.2.2.2.2.2.2.2.1
theorem dX11_gather_19 : decode cX11_gather 19 = .ok (.bipush 40, 2) := dgX11_gather_0.2.2.2.2.2.2.2.2.2.2.2.1
theorem dX11_gather_21 : decode cX11_gather 21 = .ok (.if_icmp .ge 41, 3) := dgX11_gather_0.2.2.2.2.2.2.2.2.2.2.2.2.1
theorem dX11_gather_24 : decode cX11_gather 24 = .ok (.aload_n 0, 1) := dgX11_gather_0.2.2.2.2.2.2.2.2.2.2.2.2.2.1
theorem dX11_gather_25 : decode cX11_gather 25 = .ok (.getfield 130, 3) := dgX11_gather_0.2.2.2.2.2.2.2.2.2.2.2.2.2.2.1
theorem dX11_gather_28 : decode cX11_gather 28 = .ok (.iload_n 1, 1) := dgX11_gather_0.2.2.2.2.2.2.2.2.2.2.2.2.2.2.2
theorem dgX11_gather_16 : (decode cX11_gather 29 = .ok (.baload, 1)) ∧ (decode cX11_gather 30 = .ok (.ifCond .eq 6, 3)) ∧ (decode cX11_gather 33 = .ok (.goto 23, 3)) ∧ (decode cX11_gather 36 = .ok (.aload_n 0, 1)) ∧ (decode cX11_gather 37 = .ok (.getfield 140, 3)) ∧ (decode cX11_gather 40 = .ok (.aload_n 0, 1)) ∧ (decode cX11_gather 41 = .ok (.getfield 225, 3)) ∧ (decode cX11_gather 44 = .ok (.iload_n 1, 1)) ∧ (decode cX11_gather 45 = .ok (.iastore, 1)) ∧ (decode cX11_gather 46 = .ok (.aload_n 0, 1)) ∧ (decode cX11_gather 47 = .ok (.dup, 1)) ∧ (decode cX11_gather 48 = .ok (.getfield 225, 3)) ∧ (decode cX11_gather 51 = .ok (.iconst 1, 1)) ∧ (decode cX11_gather 52 = .ok (.iadd, 1)) ∧ (decode cX11_gather 53 = .ok (.putfield 225, 3)) ∧ (decode cX11_gather 56 = .ok (.iinc 1 1, 3)) := by decide +kernel
theorem dX11_gather_29 : decode cX11_gather 29 = .ok (.baload, 1) := dgX11_gather_16.1
theorem dX11_gather_30 : decode cX11_gather 30 = .ok (.ifCond .eq 6, 3) := dgX11_gather_16.2.1
theorem dX11_gather_33 : decode cX11_gather 33 = .ok (.goto 23, 3) := dgX11_gather_16.2.2.1
theorem dX11_gather_36 : decode cX11_gather 36 = .ok (.aload_n 0, 1) := dgX11_gather_16.2.2.2.1
theorem dX11_gather_37 : decode cX11_gather 37 = .ok (.getfield 140, 3) := dgX11_gather_16.2.2.2.2.1
theorem dX11_gather_40 : decode cX11_gather 40 = .ok (.aload_n 0, 1) := dgX11_gather_16.2.2.2.2.2.1
theorem dX11_gather_41 : decode cX11_gather 41 = .ok (.getfield 225, 3) := dgX11_gather_16.2.2.2.2.2.2.1
theorem dX11_gather_44 : decode cX11_gather 44 = .ok (.iload_n 1, 1) := dgX11_gather_16.2.2.2.2.2.2.2.1
theorem dX11_gather_45 : decode cX11_gather 45 = .ok (.iastore, 1) := dgX11_gather_16.2.2.2.2.2.2.2.2.1
theorem dX11_gather_46 : decode cX11_gather 46 = .ok (.aload_n 0, 1) := dgX11_gather_16.2.2.2.2.2.2.2.2.2.1
theorem dX11_gather_47 : decode cX11_gather 47 = .ok (.dup, 1) := dgX11_gather_16.2.2.2.2.2.2.2.2.2.2.1
theorem dX11_gather_48 : decode cX11_gather 48 = .ok (.getfield 225, 3) := dgX11_gather_16.2.2.2.2.2.2.2.2.2.2.2.1
theorem dX11_gather_51 : decode cX11_gather 51 = .ok (.iconst 1, 1) := dgX11_gather_16.2.2.2.2.2.2.2.2.2.2.2.2.1
theorem dX11_gather_52 : decode cX11_gather 52 = .ok (.iadd, 1) := dgX11_gather_16.2.2.2.2.2.2.2.2.2.2.2.2.2.1
theorem dX11_gather_53 : decode cX11_gather 53 = .ok (.putfield 225, 3) := dgX11_gather_16.2.2.2.2.2.2.2.2.2.2.2.2.2.2.1
theorem dX11_gather_56 : decode cX11_gather 56 = .ok (.iinc 1 1, 3) := dgX11_gather_16.2.2.2.2.2.2.2.2.2.2.2.2.2.2.2
theorem dgX11_gather_32 : (decode cX11_gather 59 = .ok (.goto (-52), 3)) ∧ (decode cX11_gather 62 = .ok (.return_, 1)) := by decide +kernel
theorem dX11_gather_59 : decode cX11_gather 59 = .ok (.goto (-52), 3) := dgX11_gather_32.1
theorem dX11_gather_62 : decode cX11_gather 62 = .ok (.return_, 1) := dgX11_gather_32.2
theorem dgX11_leastSum_0 : (decode cX11_leastSum 0 = .ok (.iload_n 1, 1)) ∧ (decode cX11_leastSum 1 = .ok (.iload_n 2, 1)) ∧ (decode cX11_leastSum 2 = .ok (.iadd, 1)) ∧ (decode cX11_leastSum 3 = .ok (.istore_n 3, 1)) ∧ (decode cX11_leastSum 4 = .ok (.aload_n 0, 1)) ∧ (decode cX11_leastSum 5 = .ok (.getfield 225, 3)) ∧ (decode cX11_leastSum 8 = .ok (.istore 4, 2)) ∧ (decode cX11_leastSum 10 = .ok (.iload 4, 2)) ∧ (decode cX11_leastSum 12 = .ok (.ifCond .lt 151, 3)) ∧ (decode cX11_leastSum 15 = .ok (.iload 4, 2)) ∧ (decode cX11_leastSum 17 = .ok (.aload_n 0, 1)) ∧ (decode cX11_leastSum 18 = .ok (.getfield 225, 3)) ∧ (decode cX11_leastSum 21 = .ok (.if_icmp .ge 23, 3)) ∧ (decode cX11_leastSum 24 = .ok (.aload_n 0, 1)) ∧ (decode cX11_leastSum 25 = .ok (.getfield 103, 3)) ∧ (decode cX11_leastSum 28 = .ok (.aload_n 0, 1)) := by decide +kernel
theorem dX11_leastSum_0 : decode cX11_leastSum 0 = .ok (.iload_n 1, 1) := dgX11_leastSum_0.1
theorem dX11_leastSum_1 : decode cX11_leastSum 1 = .ok (.iload_n 2, 1) := dgX11_leastSum_0.2.1
theorem dX11_leastSum_2 : decode cX11_leastSum 2 = .ok (.iadd, 1) := dgX11_leastSum_0.2.2.1
theorem dX11_leastSum_3 : decode cX11_leastSum 3 = .ok (.istore_n 3, 1) := dgX11_leastSum_0.2.2.2.1
theorem dX11_leastSum_4 : decode cX11_leastSum 4 = .ok (.aload_n 0, 1) := dgX11_leastSum_0.2.2.2.2.1
theorem dX11_leastSum_5 : decode cX11_leastSum 5 = .ok (.getfield 225, 3) := dgX11_leastSum_0.2.2.2.2.2.1
theorem dX11_leastSum_8 : decode cX11_leastSum 8 = .ok (.istore 4, 2) := dgX11_leastSum_0.2.2.2.2.2.2.1
theorem dX11_leastSum_10 : decode cX11_leastSum 10 = .ok (.iload 4, 2) := dgX11_leastSum_0.2.2.2.2.2.2.2.1
theorem dX11_leastSum_12 : decode cX11_leastSum 12 = .ok (.ifCond .lt 151, 3) := dgX11_leastSum_0.2.2.2.2.2.2.2.2.1
theorem dX11_leastSum_15 : decode cX11_leastSum 15 = .ok (.iload 4, 2) := dgX11_leastSum_0.2.2.2.2.2.2.2.2.2.1
theorem dX11_leastSum_17 : decode cX11_leastSum 17 = .ok (.aload_n 0, 1) := dgX11_leastSum_0.2.2.2.2.2.2.2.2.2.2.1
theorem dX11_leastSum_18 : decode cX11_leastSum 18 = .ok (.getfield 225, 3) := dgX11_leastSum_0.2.2.2.2.2.2.2.2.2.2.2.1
theorem dX11_leastSum_21 : decode cX11_leastSum 21 = .ok (.if_icmp .ge 23, 3) := dgX11_leastSum_0.2.2.2.2.2.2.2.2.2.2.2.2.1
theorem dX11_leastSum_24 : decode cX11_leastSum 24 = .ok (.aload_n 0, 1) := dgX11_leastSum_0.2.2.2.2.2.2.2.2.2.2.2.2.2.1
theorem dX11_leastSum_25 : decode cX11_leastSum 25 = .ok (.getfield 103, 3) := dgX11_leastSum_0.2.2.2.2.2.2.2.2.2.2.2.2.2.2.1
theorem dX11_leastSum_28 : decode cX11_leastSum 28 = .ok (.aload_n 0, 1) := dgX11_leastSum_0.2.2.2.2.2.2.2.2.2.2.2.2.2.2.2
theorem dgX11_leastSum_16 : (decode cX11_leastSum 29 = .ok (.getfield 127, 3)) ∧ (decode cX11_leastSum 32 = .ok (.aload_n 0, 1)) ∧ (decode cX11_leastSum 33 = .ok (.getfield 140, 3)) ∧ (decode cX11_leastSum 36 = .ok (.iload 4, 2)) ∧ (decode cX11_leastSum 38 = .ok (.iaload, 1)) ∧ (decode cX11_leastSum 39 = .ok (.iaload, 1)) ∧ (decode cX11_leastSum 40 = .ok (.iaload, 1)) ∧ (decode cX11_leastSum 41 = .ok (.goto 4, 3)) ∧ (decode cX11_leastSum 44 = .ok (.iconst 0, 1)) ∧ (decode cX11_leastSum 45 = .ok (.istore 5, 2)) ∧ (decode cX11_leastSum 47 = .ok (.iconst 0, 1)) ∧ (decode cX11_leastSum 48 = .ok (.istore 6, 2)) ∧ (decode cX11_leastSum 50 = .ok (.iload 6, 2)) ∧ (decode cX11_leastSum 52 = .ok (.sipush 8500, 3)) ∧ (decode cX11_leastSum 55 = .ok (.if_icmp .ge 102, 3)) ∧ (decode cX11_leastSum 58 = .ok (.iload 4, 2)) := by decide +kernel
theorem dX11_leastSum_29 : decode cX11_leastSum 29 = .ok (.getfield 127, 3) := dgX11_leastSum_16.1
theorem dX11_leastSum_32 : decode cX11_leastSum 32 = .ok (.aload_n 0, 1) := dgX11_leastSum_16.2.1
theorem dX11_leastSum_33 : decode cX11_leastSum 33 = .ok (.getfield 140, 3) := dgX11_leastSum_16.2.2.1
theorem dX11_leastSum_36 : decode cX11_leastSum 36 = .ok (.iload 4, 2) := dgX11_leastSum_16.2.2.2.1
theorem dX11_leastSum_38 : decode cX11_leastSum 38 = .ok (.iaload, 1) := dgX11_leastSum_16.2.2.2.2.1
theorem dX11_leastSum_39 : decode cX11_leastSum 39 = .ok (.iaload, 1) := dgX11_leastSum_16.2.2.2.2.2.1
theorem dX11_leastSum_40 : decode cX11_leastSum 40 = .ok (.iaload, 1) := dgX11_leastSum_16.2.2.2.2.2.2.1
theorem dX11_leastSum_41 : decode cX11_leastSum 41 = .ok (.goto 4, 3) := dgX11_leastSum_16.2.2.2.2.2.2.2.1
theorem dX11_leastSum_44 : decode cX11_leastSum 44 = .ok (.iconst 0, 1) := dgX11_leastSum_16.2.2.2.2.2.2.2.2.1
theorem dX11_leastSum_45 : decode cX11_leastSum 45 = .ok (.istore 5, 2) := dgX11_leastSum_16.2.2.2.2.2.2.2.2.2.1
theorem dX11_leastSum_47 : decode cX11_leastSum 47 = .ok (.iconst 0, 1) := dgX11_leastSum_16.2.2.2.2.2.2.2.2.2.2.1
theorem dX11_leastSum_48 : decode cX11_leastSum 48 = .ok (.istore 6, 2) := dgX11_leastSum_16.2.2.2.2.2.2.2.2.2.2.2.1
theorem dX11_leastSum_50 : decode cX11_leastSum 50 = .ok (.iload 6, 2) := dgX11_leastSum_16.2.2.2.2.2.2.2.2.2.2.2.2.1
theorem dX11_leastSum_52 : decode cX11_leastSum 52 = .ok (.sipush 8500, 3) := dgX11_leastSum_16.2.2.2.2.2.2.2.2.2.2.2.2.2.1
theorem dX11_leastSum_55 : decode cX11_leastSum 55 = .ok (.if_icmp .ge 102, 3) := dgX11_leastSum_16.2.2.2.2.2.2.2.2.2.2.2.2.2.2.1
theorem dX11_leastSum_58 : decode cX11_leastSum 58 = .ok (.iload 4, 2) := dgX11_leastSum_16.2.2.2.2.2.2.2.2.2.2.2.2.2.2.2
theorem dgX11_leastSum_32 : (decode cX11_leastSum 60 = .ok (.aload_n 0, 1)) ∧ (decode cX11_leastSum 61 = .ok (.getfield 225, 3)) ∧ (decode cX11_leastSum 64 = .ok (.if_icmp .ne 16, 3)) ∧ (decode cX11_leastSum 67 = .ok (.iload 6, 2)) ∧ (decode cX11_leastSum 69 = .ok (.ifCond .ne 7, 3)) ∧ (decode cX11_leastSum 72 = .ok (.iconst 1, 1)) ∧ (decode cX11_leastSum 73 = .ok (.goto 60, 3)) ∧ (decode cX11_leastSum 76 = .ok (.iconst 0, 1)) ∧ (decode cX11_leastSum 77 = .ok (.goto 56, 3)) ∧ (decode cX11_leastSum 80 = .ok (.aload_n 0, 1)) ∧ (decode cX11_leastSum 81 = .ok (.getfield 137, 3)) ∧ (decode cX11_leastSum 84 = .ok (.sipush 8500, 3)) ∧ (decode cX11_leastSum 87 = .ok (.iload 4, 2)) ∧ (decode cX11_leastSum 89 = .ok (.iconst 1, 1)) ∧ (decode cX11_leastSum 90 = .ok (.iadd, 1)) ∧ (decode cX11_leastSum 91 = .ok (.imul, 1)) := by decide +kernel
theorem dX11_leastSum_60 : decode cX11_leastSum 60 = .ok (.aload_n 0, 1) := dgX11_leastSum_32.1
theorem dX11_leastSum_61 : decode cX11_leastSum 61 = .ok (.getfield 225, 3) := dgX11_leastSum_32.2.1
theorem dX11_leastSum_64 : decode cX11_leastSum 64 = .ok (.if_icmp .ne 16, 3) := dgX11_leastSum_32.2.2.1
theorem dX11_leastSum_67 : decode cX11_leastSum 67 = .ok (.iload 6, 2) := dgX11_leastSum_32.2.2.2.1
theorem dX11_leastSum_69 : decode cX11_leastSum 69 = .ok (.ifCond .ne 7, 3) := dgX11_leastSum_32.2.2.2.2.1
theorem dX11_leastSum_72 : decode cX11_leastSum 72 = .ok (.iconst 1, 1) := dgX11_leastSum_32.2.2.2.2.2.1
theorem dX11_leastSum_73 : decode cX11_leastSum 73 = .ok (.goto 60, 3) := dgX11_leastSum_32.2.2.2.2.2.2.1
theorem dX11_leastSum_76 : decode cX11_leastSum 76 = .ok (.iconst 0, 1) := dgX11_leastSum_32.2.2.2.2.2.2.2.1
theorem dX11_leastSum_77 : decode cX11_leastSum 77 = .ok (.goto 56, 3) := dgX11_leastSum_32.2.2.2.2.2.2.2.2.1
theorem dX11_leastSum_80 : decode cX11_leastSum 80 = .ok (.aload_n 0, 1) := dgX11_leastSum_32.2.2.2.2.2.2.2.2.2.1
theorem dX11_leastSum_81 : decode cX11_leastSum 81 = .ok (.getfield 137, 3) := dgX11_leastSum_32.2.2.2.2.2.2.2.2.2.2.1
theorem dX11_leastSum_84 : decode cX11_leastSum 84 = .ok (.sipush 8500, 3) := dgX11_leastSum_32.2.2.2.2.2.2.2.2.2.2.2.1
theorem dX11_leastSum_87 : decode cX11_leastSum 87 = .ok (.iload 4, 2) := dgX11_leastSum_32.2.2.2.2.2.2.2.2.2.2.2.2.1
theorem dX11_leastSum_89 : decode cX11_leastSum 89 = .ok (.iconst 1, 1) := dgX11_leastSum_32.2.2.2.2.2.2.2.2.2.2.2.2.2.1
theorem dX11_leastSum_90 : decode cX11_leastSum 90 = .ok (.iadd, 1) := dgX11_leastSum_32.2.2.2.2.2.2.2.2.2.2.2.2.2.2.1
theorem dX11_leastSum_91 : decode cX11_leastSum 91 = .ok (.imul, 1) := dgX11_leastSum_32.2.2.2.2.2.2.2.2.2.2.2.2.2.2.2
theorem dgX11_leastSum_48 : (decode cX11_leastSum 92 = .ok (.iload 6, 2)) ∧ (decode cX11_leastSum 94 = .ok (.iadd, 1)) ∧ (decode cX11_leastSum 95 = .ok (.baload, 1)) ∧ (decode cX11_leastSum 96 = .ok (.ifCond .ne 32, 3)) ∧ (decode cX11_leastSum 99 = .ok (.iload 6, 2)) ∧ (decode cX11_leastSum 101 = .ok (.iload 5, 2)) ∧ (decode cX11_leastSum 103 = .ok (.if_icmp .lt 29, 3)) ∧ (decode cX11_leastSum 106 = .ok (.aload_n 0, 1)) ∧ (decode cX11_leastSum 107 = .ok (.getfield 137, 3)) ∧ (decode cX11_leastSum 110 = .ok (.sipush 8500, 3)) ∧ (decode cX11_leastSum 113 = .ok (.iload 4, 2)) ∧ (decode cX11_leastSum 115 = .ok (.iconst 1, 1)) ∧ (decode cX11_leastSum 116 = .ok (.iadd, 1)) ∧ (decode cX11_leastSum 117 = .ok (.imul, 1)) ∧ (decode cX11_leastSum 118 = .ok (.iload 6, 2)) ∧ (decode cX11_leastSum 120 = .ok (.iadd, 1)) := by decide +kernel
theorem dX11_leastSum_92 : decode cX11_leastSum 92 = .ok (.iload 6, 2) := dgX11_leastSum_48.1
theorem dX11_leastSum_94 : decode cX11_leastSum 94 = .ok (.iadd, 1) := dgX11_leastSum_48.2.1
theorem dX11_leastSum_95 : decode cX11_leastSum 95 = .ok (.baload, 1) := dgX11_leastSum_48.2.2.1
theorem dX11_leastSum_96 : decode cX11_leastSum 96 = .ok (.ifCond .ne 32, 3) := dgX11_leastSum_48.2.2.2.1
theorem dX11_leastSum_99 : decode cX11_leastSum 99 = .ok (.iload 6, 2) := dgX11_leastSum_48.2.2.2.2.1
theorem dX11_leastSum_101 : decode cX11_leastSum 101 = .ok (.iload 5, 2) := dgX11_leastSum_48.2.2.2.2.2.1
theorem dX11_leastSum_103 : decode cX11_leastSum 103 = .ok (.if_icmp .lt 29, 3) := dgX11_leastSum_48.2.2.2.2.2.2.1
theorem dX11_leastSum_106 : decode cX11_leastSum 106 = .ok (.aload_n 0, 1) := dgX11_leastSum_48.2.2.2.2.2.2.2.1
theorem dX11_leastSum_107 : decode cX11_leastSum 107 = .ok (.getfield 137, 3) := dgX11_leastSum_48.2.2.2.2.2.2.2.2.1
theorem dX11_leastSum_110 : decode cX11_leastSum 110 = .ok (.sipush 8500, 3) := dgX11_leastSum_48.2.2.2.2.2.2.2.2.2.1
theorem dX11_leastSum_113 : decode cX11_leastSum 113 = .ok (.iload 4, 2) := dgX11_leastSum_48.2.2.2.2.2.2.2.2.2.2.1
theorem dX11_leastSum_115 : decode cX11_leastSum 115 = .ok (.iconst 1, 1) := dgX11_leastSum_48.2.2.2.2.2.2.2.2.2.2.2.1
theorem dX11_leastSum_116 : decode cX11_leastSum 116 = .ok (.iadd, 1) := dgX11_leastSum_48.2.2.2.2.2.2.2.2.2.2.2.2.1
theorem dX11_leastSum_117 : decode cX11_leastSum 117 = .ok (.imul, 1) := dgX11_leastSum_48.2.2.2.2.2.2.2.2.2.2.2.2.2.1
theorem dX11_leastSum_118 : decode cX11_leastSum 118 = .ok (.iload 6, 2) := dgX11_leastSum_48.2.2.2.2.2.2.2.2.2.2.2.2.2.2.1
theorem dX11_leastSum_120 : decode cX11_leastSum 120 = .ok (.iadd, 1) := dgX11_leastSum_48.2.2.2.2.2.2.2.2.2.2.2.2.2.2.2
theorem dgX11_leastSum_64 : (decode cX11_leastSum 121 = .ok (.iload 5, 2)) ∧ (decode cX11_leastSum 123 = .ok (.isub, 1)) ∧ (decode cX11_leastSum 124 = .ok (.baload, 1)) ∧ (decode cX11_leastSum 125 = .ok (.ifCond .eq 7, 3)) ∧ (decode cX11_leastSum 128 = .ok (.iconst 1, 1)) ∧ (decode cX11_leastSum 129 = .ok (.goto 4, 3)) ∧ (decode cX11_leastSum 132 = .ok (.iconst 0, 1)) ∧ (decode cX11_leastSum 133 = .ok (.istore 7, 2)) ∧ (decode cX11_leastSum 135 = .ok (.aload_n 0, 1)) ∧ (decode cX11_leastSum 136 = .ok (.getfield 137, 3)) ∧ (decode cX11_leastSum 139 = .ok (.sipush 8500, 3)) ∧ (decode cX11_leastSum 142 = .ok (.iload 4, 2)) ∧ (decode cX11_leastSum 144 = .ok (.imul, 1)) ∧ (decode cX11_leastSum 145 = .ok (.iload 6, 2)) ∧ (decode cX11_leastSum 147 = .ok (.iadd, 1)) ∧ (decode cX11_leastSum 148 = .ok (.iload 7, 2)) := by decide +kernel
theorem dX11_leastSum_121 : decode cX11_leastSum 121 = .ok (.iload 5, 2) := dgX11_leastSum_64.1
theorem dX11_leastSum_123 : decode cX11_leastSum 123 = .ok (.isub, 1) := dgX11_leastSum_64.2.1
theorem dX11_leastSum_124 : decode cX11_leastSum 124 = .ok (.baload, 1) := dgX11_leastSum_64.2.2.1
theorem dX11_leastSum_125 : decode cX11_leastSum 125 = .ok (.ifCond .eq 7, 3) := dgX11_leastSum_64.2.2.2.1
theorem dX11_leastSum_128 : decode cX11_leastSum 128 = .ok (.iconst 1, 1) := dgX11_leastSum_64.2.2.2.2.1
theorem dX11_leastSum_129 : decode cX11_leastSum 129 = .ok (.goto 4, 3) := dgX11_leastSum_64.2.2.2.2.2.1
theorem dX11_leastSum_132 : decode cX11_leastSum 132 = .ok (.iconst 0, 1) := dgX11_leastSum_64.2.2.2.2.2.2.1
theorem dX11_leastSum_133 : decode cX11_leastSum 133 = .ok (.istore 7, 2) := dgX11_leastSum_64.2.2.2.2.2.2.2.1
theorem dX11_leastSum_135 : decode cX11_leastSum 135 = .ok (.aload_n 0, 1) := dgX11_leastSum_64.2.2.2.2.2.2.2.2.1
theorem dX11_leastSum_136 : decode cX11_leastSum 136 = .ok (.getfield 137, 3) := dgX11_leastSum_64.2.2.2.2.2.2.2.2.2.1
theorem dX11_leastSum_139 : decode cX11_leastSum 139 = .ok (.sipush 8500, 3) := dgX11_leastSum_64.2.2.2.2.2.2.2.2.2.2.1
theorem dX11_leastSum_142 : decode cX11_leastSum 142 = .ok (.iload 4, 2) := dgX11_leastSum_64.2.2.2.2.2.2.2.2.2.2.2.1
theorem dX11_leastSum_144 : decode cX11_leastSum 144 = .ok (.imul, 1) := dgX11_leastSum_64.2.2.2.2.2.2.2.2.2.2.2.2.1
theorem dX11_leastSum_145 : decode cX11_leastSum 145 = .ok (.iload 6, 2) := dgX11_leastSum_64.2.2.2.2.2.2.2.2.2.2.2.2.2.1
theorem dX11_leastSum_147 : decode cX11_leastSum 147 = .ok (.iadd, 1) := dgX11_leastSum_64.2.2.2.2.2.2.2.2.2.2.2.2.2.2.1
theorem dX11_leastSum_148 : decode cX11_leastSum 148 = .ok (.iload 7, 2) := dgX11_leastSum_64.2.2.2.2.2.2.2.2.2.2.2.2.2.2.2
theorem dgX11_leastSum_80 : (decode cX11_leastSum 150 = .ok (.bastore, 1)) ∧ (decode cX11_leastSum 151 = .ok (.iinc 6 1, 3)) ∧ (decode cX11_leastSum 154 = .ok (.goto (-104), 3)) ∧ (decode cX11_leastSum 157 = .ok (.iinc 4 (-1), 3)) ∧ (decode cX11_leastSum 160 = .ok (.goto (-150), 3)) ∧ (decode cX11_leastSum 163 = .ok (.iload_n 1, 1)) ∧ (decode cX11_leastSum 164 = .ok (.istore 4, 2)) ∧ (decode cX11_leastSum 166 = .ok (.iload 4, 2)) ∧ (decode cX11_leastSum 168 = .ok (.iload_n 3, 1)) ∧ (decode cX11_leastSum 169 = .ok (.if_icmp .gt 30, 3)) ∧ (decode cX11_leastSum 172 = .ok (.iload 4, 2)) ∧ (decode cX11_leastSum 174 = .ok (.sipush 8500, 3)) ∧ (decode cX11_leastSum 177 = .ok (.if_icmp .ge 22, 3)) ∧ (decode cX11_leastSum 180 = .ok (.aload_n 0, 1)) ∧ (decode cX11_leastSum 181 = .ok (.getfield 137, 3)) ∧ (decode cX11_leastSum 184 = .ok (.iload 4, 2)) := by decide +kernel
theorem dX11_leastSum_150 : decode cX11_leastSum 150 = .ok (.bastore, 1) := dgX11_leastSum_80.1
theorem dX11_leastSum_151 : decode cX11_leastSum 151 = .ok (.iinc 6 1, 3) := dgX11_leastSum_80.2.1
theorem dX11_leastSum_154 : decode cX11_leastSum 154 = .ok (.goto (-104), 3) := dgX11_leastSum_80.2.2.1
theorem dX11_leastSum_157 : decode cX11_leastSum 157 = .ok (.iinc 4 (-1), 3) := dgX11_leastSum_80.2.2.2.1
theorem dX11_leastSum_160 : decode cX11_leastSum 160 = .ok (.goto (-150), 3) := dgX11_leastSum_80.2.2.2.2.1
theorem dX11_leastSum_163 : decode cX11_leastSum 163 = .ok (.iload_n 1, 1) := dgX11_leastSum_80.2.2.2.2.2.1
theorem dX11_leastSum_164 : decode cX11_leastSum 164 = .ok (.istore 4, 2) := dgX11_leastSum_80.2.2.2.2.2.2.1
theorem dX11_leastSum_166 : decode cX11_leastSum 166 = .ok (.iload 4, 2) := dgX11_leastSum_80.2.2.2.2.2.2.2.1
theorem dX11_leastSum_168 : decode cX11_leastSum 168 = .ok (.iload_n 3, 1) := dgX11_leastSum_80.2.2.2.2.2.2.2.2.1
theorem dX11_leastSum_169 : decode cX11_leastSum 169 = .ok (.if_icmp .gt 30, 3) := dgX11_leastSum_80.2.2.2.2.2.2.2.2.2.1
theorem dX11_leastSum_172 : decode cX11_leastSum 172 = .ok (.iload 4, 2) := dgX11_leastSum_80.2.2.2.2.2.2.2.2.2.2.1
theorem dX11_leastSum_174 : decode cX11_leastSum 174 = .ok (.sipush 8500, 3) := dgX11_leastSum_80.2.2.2.2.2.2.2.2.2.2.2.1
theorem dX11_leastSum_177 : decode cX11_leastSum 177 = .ok (.if_icmp .ge 22, 3) := dgX11_leastSum_80.2.2.2.2.2.2.2.2.2.2.2.2.1
theorem dX11_leastSum_180 : decode cX11_leastSum 180 = .ok (.aload_n 0, 1) := dgX11_leastSum_80.2.2.2.2.2.2.2.2.2.2.2.2.2.1
theorem dX11_leastSum_181 : decode cX11_leastSum 181 = .ok (.getfield 137, 3) := dgX11_leastSum_80.2.2.2.2.2.2.2.2.2.2.2.2.2.2.1
theorem dX11_leastSum_184 : decode cX11_leastSum 184 = .ok (.iload 4, 2) := dgX11_leastSum_80.2.2.2.2.2.2.2.2.2.2.2.2.2.2.2
theorem dgX11_leastSum_96 : (decode cX11_leastSum 186 = .ok (.baload, 1)) ∧ (decode cX11_leastSum 187 = .ok (.ifCond .eq 6, 3)) ∧ (decode cX11_leastSum 190 = .ok (.iload 4, 2)) ∧ (decode cX11_leastSum 192 = .ok (.ireturn, 1)) ∧ (decode cX11_leastSum 193 = .ok (.iinc 4 1, 3)) ∧ (decode cX11_leastSum 196 = .ok (.goto (-30), 3)) ∧ (decode cX11_leastSum 199 = .ok (.iload_n 3, 1)) ∧ (decode cX11_leastSum 200 = .ok (.sipush 8500, 3)) ∧ (decode cX11_leastSum 203 = .ok (.if_icmp .lt 18, 3)) ∧ (decode cX11_leastSum 206 = .ok (.aload_n 0, 1)) ∧ (decode cX11_leastSum 207 = .ok (.invokevirtual 228, 3)) ∧ (decode cX11_leastSum 210 = .ok (.ifCond .eq 9, 3)) ∧ (decode cX11_leastSum 213 = .ok (.sipush 8500, 3)) ∧ (decode cX11_leastSum 216 = .ok (.goto 4, 3)) ∧ (decode cX11_leastSum 219 = .ok (.iconst (-1), 1)) ∧ (decode cX11_leastSum 220 = .ok (.ireturn, 1)) := by decide +kernel
theorem dX11_leastSum_186 : decode cX11_leastSum 186 = .ok (.baload, 1) := dgX11_leastSum_96.1
theorem dX11_leastSum_187 : decode cX11_leastSum 187 = .ok (.ifCond .eq 6, 3) := dgX11_leastSum_96.2.1
theorem dX11_leastSum_190 : decode cX11_leastSum 190 = .ok (.iload 4, 2) := dgX11_leastSum_96.2.2.1
theorem dX11_leastSum_192 : decode cX11_leastSum 192 = .ok (.ireturn, 1) := dgX11_leastSum_96.2.2.2.1
theorem dX11_leastSum_193 : decode cX11_leastSum 193 = .ok (.iinc 4 1, 3) := dgX11_leastSum_96.2.2.2.2.1
theorem dX11_leastSum_196 : decode cX11_leastSum 196 = .ok (.goto (-30), 3) := dgX11_leastSum_96.2.2.2.2.2.1
theorem dX11_leastSum_199 : decode cX11_leastSum 199 = .ok (.iload_n 3, 1) := dgX11_leastSum_96.2.2.2.2.2.2.1
theorem dX11_leastSum_200 : decode cX11_leastSum 200 = .ok (.sipush 8500, 3) := dgX11_leastSum_96.2.2.2.2.2.2.2.1
theorem dX11_leastSum_203 : decode cX11_leastSum 203 = .ok (.if_icmp .lt 18, 3) := dgX11_leastSum_96.2.2.2.2.2.2.2.2.1
theorem dX11_leastSum_206 : decode cX11_leastSum 206 = .ok (.aload_n 0, 1) := dgX11_leastSum_96.2.2.2.2.2.2.2.2.2.1
theorem dX11_leastSum_207 : decode cX11_leastSum 207 = .ok (.invokevirtual 228, 3) := dgX11_leastSum_96.2.2.2.2.2.2.2.2.2.2.1
theorem dX11_leastSum_210 : decode cX11_leastSum 210 = .ok (.ifCond .eq 9, 3) := dgX11_leastSum_96.2.2.2.2.2.2.2.2.2.2.2.1
theorem dX11_leastSum_213 : decode cX11_leastSum 213 = .ok (.sipush 8500, 3) := dgX11_leastSum_96.2.2.2.2.2.2.2.2.2.2.2.2.1
theorem dX11_leastSum_216 : decode cX11_leastSum 216 = .ok (.goto 4, 3) := dgX11_leastSum_96.2.2.2.2.2.2.2.2.2.2.2.2.2.1
theorem dX11_leastSum_219 : decode cX11_leastSum 219 = .ok (.iconst (-1), 1) := dgX11_leastSum_96.2.2.2.2.2.2.2.2.2.2.2.2.2.2.1
theorem dX11_leastSum_220 : decode cX11_leastSum 220 = .ok (.ireturn, 1) := dgX11_leastSum_96.2.2.2.2.2.2.2.2.2.2.2.2.2.2.2
theorem dgX11_leastSum_112 : (decode cX11_leastSum 221 = .ok (.iconst (-1), 1)) ∧ (decode cX11_leastSum 222 = .ok (.ireturn, 1)) := by decide +kernel
theorem dX11_leastSum_221 : decode cX11_leastSum 221 = .ok (.iconst (-1), 1) := dgX11_leastSum_112.1
theorem dX11_leastSum_222 : decode cX11_leastSum 222 = .ok (.ireturn, 1) := dgX11_leastSum_112.2
theorem dgX11_reaches8500_0 : (decode cX11_reaches8500 0 = .ok (.iconst 0, 1)) ∧ (decode cX11_reaches8500 1 = .ok (.istore_n 1, 1)) ∧ (decode cX11_reaches8500 2 = .ok (.iload_n 1, 1)) ∧ (decode cX11_reaches8500 3 = .ok (.aload_n 0, 1)) ∧ (decode cX11_reaches8500 4 = .ok (.getfield 225, 3)) ∧ (decode cX11_reaches8500 7 = .ok (.if_icmp .ge 60, 3)) ∧ (decode cX11_reaches8500 10 = .ok (.aload_n 0, 1)) ∧ (decode cX11_reaches8500 11 = .ok (.getfield 103, 3)) ∧ (decode cX11_reaches8500 14 = .ok (.aload_n 0, 1)) ∧ (decode cX11_reaches8500 15 = .ok (.getfield 127, 3)) ∧ (decode cX11_reaches8500 18 = .ok (.aload_n 0, 1)) ∧ (decode cX11_reaches8500 19 = .ok (.getfield 140, 3)) ∧ (decode cX11_reaches8500 22 = .ok (.iload_n 1, 1)) ∧ (decode cX11_reaches8500 23 = .ok (.iaload, 1)) ∧ (decode cX11_reaches8500 24 = .ok (.iaload, 1)) ∧ (decode cX11_reaches8500 25 = .ok (.iaload, 1)) := by decide +kernel
theorem dX11_reaches8500_0 : decode cX11_reaches8500 0 = .ok (.iconst 0, 1) := dgX11_reaches8500_0.1
theorem dX11_reaches8500_1 : decode cX11_reaches8500 1 = .ok (.istore_n 1, 1) := dgX11_reaches8500_0.2.1
theorem dX11_reaches8500_2 : decode cX11_reaches8500 2 = .ok (.iload_n 1, 1) := dgX11_reaches8500_0.2.2.1
theorem dX11_reaches8500_3 : decode cX11_reaches8500 3 = .ok (.aload_n 0, 1) := dgX11_reaches8500_0.2.2.2.1
theorem dX11_reaches8500_4 : decode cX11_reaches8500 4 = .ok (.getfield 225, 3) := dgX11_reaches8500_0.2.2.2.2.1
theorem dX11_reaches8500_7 : decode cX11_reaches8500 7 = .ok (.if_icmp .ge 60, 3) := dgX11_reaches8500_0.2.2.2.2.2.1
theorem dX11_reaches8500_10 : decode cX11_reaches8500 10 = .ok (.aload_n 0, 1) := dgX11_reaches8500_0.2.2.2.2.2.2.1
theorem dX11_reaches8500_11 : decode cX11_reaches8500 11 = .ok (.getfield 103, 3) := dgX11_reaches8500_0.2.2.2.2.2.2.2.1
theorem dX11_reaches8500_14 : decode cX11_reaches8500 14 = .ok (.aload_n 0, 1) := dgX11_reaches8500_0.2.2.2.2.2.2.2.2.1
theorem dX11_reaches8500_15 : decode cX11_reaches8500 15 = .ok (.getfield 127, 3) := dgX11_reaches8500_0.2.2.2.2.2.2.2.2.2.1
theorem dX11_reaches8500_18 : decode cX11_reaches8500 18 = .ok (.aload_n 0, 1) := dgX11_reaches8500_0.2.2.2.2.2.2.2.2.2.2.1
theorem dX11_reaches8500_19 : decode cX11_reaches8500 19 = .ok (.getfield 140, 3) := dgX11_reaches8500_0.2.2.2.2.2.2.2.2.2.2.2.1
theorem dX11_reaches8500_22 : decode cX11_reaches8500 22 = .ok (.iload_n 1, 1) := dgX11_reaches8500_0.2.2.2.2.2.2.2.2.2.2.2.2.1
theorem dX11_reaches8500_23 : decode cX11_reaches8500 23 = .ok (.iaload, 1) := dgX11_reaches8500_0.2.2.2.2.2.2.2.2.2.2.2.2.2.1
theorem dX11_reaches8500_24 : decode cX11_reaches8500 24 = .ok (.iaload, 1) := dgX11_reaches8500_0.2.2.2.2.2.2.2.2.2.2.2.2.2.2.1
theorem dX11_reaches8500_25 : decode cX11_reaches8500 25 = .ok (.iaload, 1) := dgX11_reaches8500_0.2.2.2.2.2.2.2.2.2.2.2.2.2.2.2
theorem dgX11_reaches8500_16 : (decode cX11_reaches8500 26 = .ok (.istore_n 2, 1)) ∧ (decode cX11_reaches8500 27 = .ok (.iload_n 2, 1)) ∧ (decode cX11_reaches8500 28 = .ok (.sipush 8500, 3)) ∧ (decode cX11_reaches8500 31 = .ok (.if_icmp .gt 30, 3)) ∧ (decode cX11_reaches8500 34 = .ok (.iload_n 2, 1)) ∧ (decode cX11_reaches8500 35 = .ok (.ifCond .le 26, 3)) ∧ (decode cX11_reaches8500 38 = .ok (.aload_n 0, 1)) ∧ (decode cX11_reaches8500 39 = .ok (.getfield 137, 3)) ∧ (decode cX11_reaches8500 42 = .ok (.sipush 8500, 3)) ∧ (decode cX11_reaches8500 45 = .ok (.iload_n 1, 1)) ∧ (decode cX11_reaches8500 46 = .ok (.iconst 1, 1)) ∧ (decode cX11_reaches8500 47 = .ok (.iadd, 1)) ∧ (decode cX11_reaches8500 48 = .ok (.imul, 1)) ∧ (decode cX11_reaches8500 49 = .ok (.sipush 8500, 3)) ∧ (decode cX11_reaches8500 52 = .ok (.iadd, 1)) ∧ (decode cX11_reaches8500 53 = .ok (.iload_n 2, 1)) := by decide +kernel
theorem dX11_reaches8500_26 : decode cX11_reaches8500 26 = .ok (.istore_n 2, 1) := dgX11_reaches8500_16.1
theorem dX11_reaches8500_27 : decode cX11_reaches8500 27 = .ok (.iload_n 2, 1) := dgX11_reaches8500_16.2.1
theorem dX11_reaches8500_28 : decode cX11_reaches8500 28 = .ok (.sipush 8500, 3) := dgX11_reaches8500_16.2.2.1
theorem dX11_reaches8500_31 : decode cX11_reaches8500 31 = .ok (.if_icmp .gt 30, 3) := dgX11_reaches8500_16.2.2.2.1
theorem dX11_reaches8500_34 : decode cX11_reaches8500 34 = .ok (.iload_n 2, 1) := dgX11_reaches8500_16.2.2.2.2.1
theorem dX11_reaches8500_35 : decode cX11_reaches8500 35 = .ok (.ifCond .le 26, 3) := dgX11_reaches8500_16.2.2.2.2.2.1
theorem dX11_reaches8500_38 : decode cX11_reaches8500 38 = .ok (.aload_n 0, 1) := dgX11_reaches8500_16.2.2.2.2.2.2.1
theorem dX11_reaches8500_39 : decode cX11_reaches8500 39 = .ok (.getfield 137, 3) := dgX11_reaches8500_16.2.2.2.2.2.2.2.1
theorem dX11_reaches8500_42 : decode cX11_reaches8500 42 = .ok (.sipush 8500, 3) := dgX11_reaches8500_16.2.2.2.2.2.2.2.2.1
theorem dX11_reaches8500_45 : decode cX11_reaches8500 45 = .ok (.iload_n 1, 1) := dgX11_reaches8500_16.2.2.2.2.2.2.2.2.2.1
theorem dX11_reaches8500_46 : decode cX11_reaches8500 46 = .ok (.iconst 1, 1) := dgX11_reaches8500_16.2.2.2.2.2.2.2.2.2.2.1
theorem dX11_reaches8500_47 : decode cX11_reaches8500 47 = .ok (.iadd, 1) := dgX11_reaches8500_16.2.2.2.2.2.2.2.2.2.2.2.1
theorem dX11_reaches8500_48 : decode cX11_reaches8500 48 = .ok (.imul, 1) := dgX11_reaches8500_16.2.2.2.2.2.2.2.2.2.2.2.2.1
theorem dX11_reaches8500_49 : decode cX11_reaches8500 49 = .ok (.sipush 8500, 3) := dgX11_reaches8500_16.2.2.2.2.2.2.2.2.2.2.2.2.2.1
theorem dX11_reaches8500_52 : decode cX11_reaches8500 52 = .ok (.iadd, 1) := dgX11_reaches8500_16.2.2.2.2.2.2.2.2.2.2.2.2.2.2.1
theorem dX11_reaches8500_53 : decode cX11_reaches8500 53 = .ok (.iload_n 2, 1) := dgX11_reaches8500_16.2.2.2.2.2.2.2.2.2.2.2.2.2.2.2
theorem dgX11_reaches8500_32 : (decode cX11_reaches8500 54 = .ok (.isub, 1)) ∧ (decode cX11_reaches8500 55 = .ok (.baload, 1)) ∧ (decode cX11_reaches8500 56 = .ok (.ifCond .eq 5, 3)) ∧ (decode cX11_reaches8500 59 = .ok (.iconst 1, 1)) ∧ (decode cX11_reaches8500 60 = .ok (.ireturn, 1)) ∧ (decode cX11_reaches8500 61 = .ok (.iinc 1 1, 3)) ∧ (decode cX11_reaches8500 64 = .ok (.goto (-62), 3)) ∧ (decode cX11_reaches8500 67 = .ok (.iconst 0, 1)) ∧ (decode cX11_reaches8500 68 = .ok (.ireturn, 1)) := by decide +kernel
theorem dX11_reaches8500_54 : decode cX11_reaches8500 54 = .ok (.isub, 1) := dgX11_reaches8500_32.1
theorem dX11_reaches8500_55 : decode cX11_reaches8500 55 = .ok (.baload, 1) := dgX11_reaches8500_32.2.1
theorem dX11_reaches8500_56 : decode cX11_reaches8500 56 = .ok (.ifCond .eq 5, 3) := dgX11_reaches8500_32.2.2.1
theorem dX11_reaches8500_59 : decode cX11_reaches8500 59 = .ok (.iconst 1, 1) := dgX11_reaches8500_32.2.2.2.1
theorem dX11_reaches8500_60 : decode cX11_reaches8500 60 = .ok (.ireturn, 1) := dgX11_reaches8500_32.2.2.2.2.1
theorem dX11_reaches8500_61 : decode cX11_reaches8500 61 = .ok (.iinc 1 1, 3) := dgX11_reaches8500_32.2.2.2.2.2.1
theorem dX11_reaches8500_64 : decode cX11_reaches8500 64 = .ok (.goto (-62), 3) := dgX11_reaches8500_32.2.2.2.2.2.2.1
theorem dX11_reaches8500_67 : decode cX11_reaches8500 67 = .ok (.iconst 0, 1) := dgX11_reaches8500_32.2.2.2.2.2.2.2.1
theorem dX11_reaches8500_68 : decode cX11_reaches8500 68 = .ok (.ireturn, 1) := dgX11_reaches8500_32.2.2.2.2.2.2.2.2
theorem dgX11_choose_0 : (decode cX11_choose 0 = .ok (.iload_n 1, 1)) ∧ (decode cX11_choose 1 = .ok (.istore_n 2, 1)) ∧ (decode cX11_choose 2 = .ok (.iconst 0, 1)) ∧ (decode cX11_choose 3 = .ok (.istore_n 3, 1)) ∧ (decode cX11_choose 4 = .ok (.iconst 0, 1)) ∧ (decode cX11_choose 5 = .ok (.istore 4, 2)) ∧ (decode cX11_choose 7 = .ok (.iload 4, 2)) ∧ (decode cX11_choose 9 = .ok (.aload_n 0, 1)) ∧ (decode cX11_choose 10 = .ok (.getfield 225, 3)) ∧ (decode cX11_choose 13 = .ok (.if_icmp .ge 108, 3)) ∧ (decode cX11_choose 16 = .ok (.aload_n 0, 1)) ∧ (decode cX11_choose 17 = .ok (.getfield 103, 3)) ∧ (decode cX11_choose 20 = .ok (.aload_n 0, 1)) ∧ (decode cX11_choose 21 = .ok (.getfield 127, 3)) ∧ (decode cX11_choose 24 = .ok (.aload_n 0, 1)) ∧ (decode cX11_choose 25 = .ok (.getfield 140, 3)) := by decide +kernel
theorem dX11_choose_0 : decode cX11_choose 0 = .ok (.iload_n 1, 1) := dgX11_choose_0.1
theorem dX11_choose_1 : decode cX11_choose 1 = .ok (.istore_n 2, 1) := dgX11_choose_0.2.1
theorem dX11_choose_2 : decode cX11_choose 2 = .ok (.iconst 0, 1) := dgX11_choose_0.2.2.1
theorem dX11_choose_3 : decode cX11_choose 3 = .ok (.istore_n 3, 1) := dgX11_choose_0.2.2.2.1
theorem dX11_choose_4 : decode cX11_choose 4 = .ok (.iconst 0, 1) := dgX11_choose_0.2.2.2.2.1
theorem dX11_choose_5 : decode cX11_choose 5 = .ok (.istore 4, 2) := dgX11_choose_0.2.2.2.2.2.1
theorem dX11_choose_7 : decode cX11_choose 7 = .ok (.iload 4, 2) := dgX11_choose_0.2.2.2.2.2.2.1
theorem dX11_choose_9 : decode cX11_choose 9 = .ok (.aload_n 0, 1) := dgX11_choose_0.2.2.2.2.2.2.2.1
theorem dX11_choose_10 : decode cX11_choose 10 = .ok (.getfield 225, 3) := dgX11_choose_0.2.2.2.2.2.2.2.2.1
theorem dX11_choose_13 : decode cX11_choose 13 = .ok (.if_icmp .ge 108, 3) := dgX11_choose_0.2.2.2.2.2.2.2.2.2.1
theorem dX11_choose_16 : decode cX11_choose 16 = .ok (.aload_n 0, 1) := dgX11_choose_0.2.2.2.2.2.2.2.2.2.2.1
theorem dX11_choose_17 : decode cX11_choose 17 = .ok (.getfield 103, 3) := dgX11_choose_0.2.2.2.2.2.2.2.2.2.2.2.1
theorem dX11_choose_20 : decode cX11_choose 20 = .ok (.aload_n 0, 1) := dgX11_choose_0.2.2.2.2.2.2.2.2.2.2.2.2.1
theorem dX11_choose_21 : decode cX11_choose 21 = .ok (.getfield 127, 3) := dgX11_choose_0.2.2.2.2.2.2.2.2.2.2.2.2.2.1
theorem dX11_choose_24 : decode cX11_choose 24 = .ok (.aload_n 0, 1) := dgX11_choose_0.2.2.2.2.2.2.2.2.2.2.2.2.2.2.1
theorem dX11_choose_25 : decode cX11_choose 25 = .ok (.getfield 140, 3) := dgX11_choose_0.2.2.2.2.2.2.2.2.2.2.2.2.2.2.2
theorem dgX11_choose_16 : (decode cX11_choose 28 = .ok (.iload 4, 2)) ∧ (decode cX11_choose 30 = .ok (.iaload, 1)) ∧ (decode cX11_choose 31 = .ok (.iaload, 1)) ∧ (decode cX11_choose 32 = .ok (.iaload, 1)) ∧ (decode cX11_choose 33 = .ok (.istore 5, 2)) ∧ (decode cX11_choose 35 = .ok (.aload_n 0, 1)) ∧ (decode cX11_choose 36 = .ok (.getfield 133, 3)) ∧ (decode cX11_choose 39 = .ok (.aload_n 0, 1)) ∧ (decode cX11_choose 40 = .ok (.getfield 140, 3)) ∧ (decode cX11_choose 43 = .ok (.iload 4, 2)) ∧ (decode cX11_choose 45 = .ok (.iaload, 1)) ∧ (decode cX11_choose 46 = .ok (.iload_n 2, 1)) ∧ (decode cX11_choose 47 = .ok (.iload 5, 2)) ∧ (decode cX11_choose 49 = .ok (.if_icmp .lt 38, 3)) ∧ (decode cX11_choose 52 = .ok (.iload_n 2, 1)) ∧ (decode cX11_choose 53 = .ok (.iload 5, 2)) := by decide +kernel
theorem dX11_choose_28 : decode cX11_choose 28 = .ok (.iload 4, 2) := dgX11_choose_16.1
theorem dX11_choose_30 : decode cX11_choose 30 = .ok (.iaload, 1) := dgX11_choose_16.2.1
theorem dX11_choose_31 : decode cX11_choose 31 = .ok (.iaload, 1) := dgX11_choose_16.2.2.1
theorem dX11_choose_32 : decode cX11_choose 32 = .ok (.iaload, 1) := dgX11_choose_16.2.2.2.1
theorem dX11_choose_33 : decode cX11_choose 33 = .ok (.istore 5, 2) := dgX11_choose_16.2.2.2.2.1
theorem dX11_choose_35 : decode cX11_choose 35 = .ok (.aload_n 0, 1) := dgX11_choose_16.2.2.2.2.2.1
theorem dX11_choose_36 : decode cX11_choose 36 = .ok (.getfield 133, 3) := dgX11_choose_16.2.2.2.2.2.2.1
theorem dX11_choose_39 : decode cX11_choose 39 = .ok (.aload_n 0, 1) := dgX11_choose_16.2.2.2.2.2.2.2.1
theorem dX11_choose_40 : decode cX11_choose 40 = .ok (.getfield 140, 3) := dgX11_choose_16.2.2.2.2.2.2.2.2.1
theorem dX11_choose_43 : decode cX11_choose 43 = .ok (.iload 4, 2) := dgX11_choose_16.2.2.2.2.2.2.2.2.2.1
theorem dX11_choose_45 : decode cX11_choose 45 = .ok (.iaload, 1) := dgX11_choose_16.2.2.2.2.2.2.2.2.2.2.1
theorem dX11_choose_46 : decode cX11_choose 46 = .ok (.iload_n 2, 1) := dgX11_choose_16.2.2.2.2.2.2.2.2.2.2.2.1
theorem dX11_choose_47 : decode cX11_choose 47 = .ok (.iload 5, 2) := dgX11_choose_16.2.2.2.2.2.2.2.2.2.2.2.2.1
theorem dX11_choose_49 : decode cX11_choose 49 = .ok (.if_icmp .lt 38, 3) := dgX11_choose_16.2.2.2.2.2.2.2.2.2.2.2.2.2.1
theorem dX11_choose_52 : decode cX11_choose 52 = .ok (.iload_n 2, 1) := dgX11_choose_16.2.2.2.2.2.2.2.2.2.2.2.2.2.2.1
theorem dX11_choose_53 : decode cX11_choose 53 = .ok (.iload 5, 2) := dgX11_choose_16.2.2.2.2.2.2.2.2.2.2.2.2.2.2.2
theorem dgX11_choose_32 : (decode cX11_choose 55 = .ok (.isub, 1)) ∧ (decode cX11_choose 56 = .ok (.sipush 8500, 3)) ∧ (decode cX11_choose 59 = .ok (.if_icmp .ge 28, 3)) ∧ (decode cX11_choose 62 = .ok (.aload_n 0, 1)) ∧ (decode cX11_choose 63 = .ok (.getfield 137, 3)) ∧ (decode cX11_choose 66 = .ok (.sipush 8500, 3)) ∧ (decode cX11_choose 69 = .ok (.iload 4, 2)) ∧ (decode cX11_choose 71 = .ok (.iconst 1, 1)) ∧ (decode cX11_choose 72 = .ok (.iadd, 1)) ∧ (decode cX11_choose 73 = .ok (.imul, 1)) ∧ (decode cX11_choose 74 = .ok (.iload_n 2, 1)) ∧ (decode cX11_choose 75 = .ok (.iadd, 1)) ∧ (decode cX11_choose 76 = .ok (.iload 5, 2)) ∧ (decode cX11_choose 78 = .ok (.isub, 1)) ∧ (decode cX11_choose 79 = .ok (.baload, 1)) ∧ (decode cX11_choose 80 = .ok (.ifCond .eq 7, 3)) := by decide +kernel
theorem dX11_choose_55 : decode cX11_choose 55 = .ok (.isub, 1) := dgX11_choose_32.1
theorem dX11_choose_56 : decode cX11_choose 56 = .ok (.sipush 8500, 3) := dgX11_choose_32.2.1
theorem dX11_choose_59 : decode cX11_choose 59 = .ok (.if_icmp .ge 28, 3) := dgX11_choose_32.2.2.1
theorem dX11_choose_62 : decode cX11_choose 62 = .ok (.aload_n 0, 1) := dgX11_choose_32.2.2.2.1
theorem dX11_choose_63 : decode cX11_choose 63 = .ok (.getfield 137, 3) := dgX11_choose_32.2.2.2.2.1
theorem dX11_choose_66 : decode cX11_choose 66 = .ok (.sipush 8500, 3) := dgX11_choose_32.2.2.2.2.2.1
theorem dX11_choose_69 : decode cX11_choose 69 = .ok (.iload 4, 2) := dgX11_choose_32.2.2.2.2.2.2.1
theorem dX11_choose_71 : decode cX11_choose 71 = .ok (.iconst 1, 1) := dgX11_choose_32.2.2.2.2.2.2.2.1
theorem dX11_choose_72 : decode cX11_choose 72 = .ok (.iadd, 1) := dgX11_choose_32.2.2.2.2.2.2.2.2.1
theorem dX11_choose_73 : decode cX11_choose 73 = .ok (.imul, 1) := dgX11_choose_32.2.2.2.2.2.2.2.2.2.1
theorem dX11_choose_74 : decode cX11_choose 74 = .ok (.iload_n 2, 1) := dgX11_choose_32.2.2.2.2.2.2.2.2.2.2.1
theorem dX11_choose_75 : decode cX11_choose 75 = .ok (.iadd, 1) := dgX11_choose_32.2.2.2.2.2.2.2.2.2.2.2.1
theorem dX11_choose_76 : decode cX11_choose 76 = .ok (.iload 5, 2) := dgX11_choose_32.2.2.2.2.2.2.2.2.2.2.2.2.1
theorem dX11_choose_78 : decode cX11_choose 78 = .ok (.isub, 1) := dgX11_choose_32.2.2.2.2.2.2.2.2.2.2.2.2.2.1
theorem dX11_choose_79 : decode cX11_choose 79 = .ok (.baload, 1) := dgX11_choose_32.2.2.2.2.2.2.2.2.2.2.2.2.2.2.1
theorem dX11_choose_80 : decode cX11_choose 80 = .ok (.ifCond .eq 7, 3) := dgX11_choose_32.2.2.2.2.2.2.2.2.2.2.2.2.2.2.2
theorem dgX11_choose_48 : (decode cX11_choose 83 = .ok (.iconst 1, 1)) ∧ (decode cX11_choose 84 = .ok (.goto 4, 3)) ∧ (decode cX11_choose 87 = .ok (.iconst 0, 1)) ∧ (decode cX11_choose 88 = .ok (.bastore, 1)) ∧ (decode cX11_choose 89 = .ok (.aload_n 0, 1)) ∧ (decode cX11_choose 90 = .ok (.getfield 133, 3)) ∧ (decode cX11_choose 93 = .ok (.aload_n 0, 1)) ∧ (decode cX11_choose 94 = .ok (.getfield 140, 3)) ∧ (decode cX11_choose 97 = .ok (.iload 4, 2)) ∧ (decode cX11_choose 99 = .ok (.iaload, 1)) ∧ (decode cX11_choose 100 = .ok (.baload, 1)) ∧ (decode cX11_choose 101 = .ok (.ifCond .ne 6, 3)) ∧ (decode cX11_choose 104 = .ok (.goto 11, 3)) ∧ (decode cX11_choose 107 = .ok (.iload_n 2, 1)) ∧ (decode cX11_choose 108 = .ok (.iload 5, 2)) ∧ (decode cX11_choose 110 = .ok (.isub, 1)) := by decide +kernel
theorem dX11_choose_83 : decode cX11_choose 83 = .ok (.iconst 1, 1) := dgX11_choose_48.1
theorem dX11_choose_84 : decode cX11_choose 84 = .ok (.goto 4, 3) := dgX11_choose_48.2.1
theorem dX11_choose_87 : decode cX11_choose 87 = .ok (.iconst 0, 1) := dgX11_choose_48.2.2.1
theorem dX11_choose_88 : decode cX11_choose 88 = .ok (.bastore, 1) := dgX11_choose_48.2.2.2.1
theorem dX11_choose_89 : decode cX11_choose 89 = .ok (.aload_n 0, 1) := dgX11_choose_48.2.2.2.2.1
theorem dX11_choose_90 : decode cX11_choose 90 = .ok (.getfield 133, 3) := dgX11_choose_48.2.2.2.2.2.1
theorem dX11_choose_93 : decode cX11_choose 93 = .ok (.aload_n 0, 1) := dgX11_choose_48.2.2.2.2.2.2.1
theorem dX11_choose_94 : decode cX11_choose 94 = .ok (.getfield 140, 3) := dgX11_choose_48.2.2.2.2.2.2.2.1
theorem dX11_choose_97 : decode cX11_choose 97 = .ok (.iload 4, 2) := dgX11_choose_48.2.2.2.2.2.2.2.2.1
theorem dX11_choose_99 : decode cX11_choose 99 = .ok (.iaload, 1) := dgX11_choose_48.2.2.2.2.2.2.2.2.2.1
theorem dX11_choose_100 : decode cX11_choose 100 = .ok (.baload, 1) := dgX11_choose_48.2.2.2.2.2.2.2.2.2.2.1
theorem dX11_choose_101 : decode cX11_choose 101 = .ok (.ifCond .ne 6, 3) := dgX11_choose_48.2.2.2.2.2.2.2.2.2.2.2.1
theorem dX11_choose_104 : decode cX11_choose 104 = .ok (.goto 11, 3) := dgX11_choose_48.2.2.2.2.2.2.2.2.2.2.2.2.1
theorem dX11_choose_107 : decode cX11_choose 107 = .ok (.iload_n 2, 1) := dgX11_choose_48.2.2.2.2.2.2.2.2.2.2.2.2.2.1
theorem dX11_choose_108 : decode cX11_choose 108 = .ok (.iload 5, 2) := dgX11_choose_48.2.2.2.2.2.2.2.2.2.2.2.2.2.2.1
theorem dX11_choose_110 : decode cX11_choose 110 = .ok (.isub, 1) := dgX11_choose_48.2.2.2.2.2.2.2.2.2.2.2.2.2.2.2
theorem dgX11_choose_64 : (decode cX11_choose 111 = .ok (.istore_n 2, 1)) ∧ (decode cX11_choose 112 = .ok (.iinc 3 1, 3)) ∧ (decode cX11_choose 115 = .ok (.iinc 4 1, 3)) ∧ (decode cX11_choose 118 = .ok (.goto (-111), 3)) ∧ (decode cX11_choose 121 = .ok (.iload_n 3, 1)) ∧ (decode cX11_choose 122 = .ok (.ireturn, 1)) := by decide +kernel
theorem dX11_choose_111 : decode cX11_choose 111 = .ok (.istore_n 2, 1) := dgX11_choose_64.1
theorem dX11_choose_112 : decode cX11_choose 112 = .ok (.iinc 3 1, 3) := dgX11_choose_64.2.1
theorem dX11_choose_115 : decode cX11_choose 115 = .ok (.iinc 4 1, 3) := dgX11_choose_64.2.2.1
theorem dX11_choose_118 : decode cX11_choose 118 = .ok (.goto (-111), 3) := dgX11_choose_64.2.2.2.1
theorem dX11_choose_121 : decode cX11_choose 121 = .ok (.iload_n 3, 1) := dgX11_choose_64.2.2.2.2.1
theorem dX11_choose_122 : decode cX11_choose 122 = .ok (.ireturn, 1) := dgX11_choose_64.2.2.2.2.2
theorem dgX11_areNumbers_0 : (decode cX11_areNumbers 0 = .ok (.iload_n 0, 1)) ∧ (decode cX11_areNumbers 1 = .ok (.iconst 1, 1)) ∧ (decode cX11_areNumbers 2 = .ok (.bipush 15, 2)) ∧ (decode cX11_areNumbers 4 = .ok (.invokestatic 156, 3)) ∧ (decode cX11_areNumbers 7 = .ok (.ifCond .eq 29, 3)) ∧ (decode cX11_areNumbers 10 = .ok (.iload_n 1, 1)) ∧ (decode cX11_areNumbers 11 = .ok (.iconst 1, 1)) ∧ (decode cX11_areNumbers 12 = .ok (.sipush 8000, 3)) ∧ (decode cX11_areNumbers 15 = .ok (.invokestatic 156, 3)) ∧ (decode cX11_areNumbers 18 = .ok (.ifCond .eq 18, 3)) ∧ (decode cX11_areNumbers 21 = .ok (.iload_n 2, 1)) ∧ (decode cX11_areNumbers 22 = .ok (.iconst 0, 1)) ∧ (decode cX11_areNumbers 23 = .ok (.sipush 500, 3)) ∧ (decode cX11_areNumbers 26 = .ok (.invokestatic 156, 3)) ∧ (decode cX11_areNumbers 29 = .ok (.ifCond .eq 7, 3)) ∧ (decode cX11_areNumbers 32 = .ok (.iconst 1, 1)) := by decide +kernel
theorem dX11_areNumbers_0 : decode cX11_areNumbers 0 = .ok (.iload_n 0, 1) := dgX11_areNumbers_0.1
theorem dX11_areNumbers_1 : decode cX11_areNumbers 1 = .ok (.iconst 1, 1) := dgX11_areNumbers_0.2.1
theorem dX11_areNumbers_2 : decode cX11_areNumbers 2 = .ok (.bipush 15, 2) := dgX11_areNumbers_0.2.2.1
theorem dX11_areNumbers_4 : decode cX11_areNumbers 4 = .ok (.invokestatic 156, 3) := dgX11_areNumbers_0.2.2.2.1
theorem dX11_areNumbers_7 : decode cX11_areNumbers 7 = .ok (.ifCond .eq 29, 3) := dgX11_areNumbers_0.2.2.2.2.1
theorem dX11_areNumbers_10 : decode cX11_areNumbers 10 = .ok (.iload_n 1, 1) := dgX11_areNumbers_0.2.2.2.2.2.1
theorem dX11_areNumbers_11 : decode cX11_areNumbers 11 = .ok (.iconst 1, 1) := dgX11_areNumbers_0.2.2.2.2.2.2.1
theorem dX11_areNumbers_12 : decode cX11_areNumbers 12 = .ok (.sipush 8000, 3) := dgX11_areNumbers_0.2.2.2.2.2.2.2.1
theorem dX11_areNumbers_15 : decode cX11_areNumbers 15 = .ok (.invokestatic 156, 3) := dgX11_areNumbers_0.2.2.2.2.2.2.2.2.1
theorem dX11_areNumbers_18 : decode cX11_areNumbers 18 = .ok (.ifCond .eq 18, 3) := dgX11_areNumbers_0.2.2.2.2.2.2.2.2.2.1
theorem dX11_areNumbers_21 : decode cX11_areNumbers 21 = .ok (.iload_n 2, 1) := dgX11_areNumbers_0.2.2.2.2.2.2.2.2.2.2.1
theorem dX11_areNumbers_22 : decode cX11_areNumbers 22 = .ok (.iconst 0, 1) := dgX11_areNumbers_0.2.2.2.2.2.2.2.2.2.2.2.1
theorem dX11_areNumbers_23 : decode cX11_areNumbers 23 = .ok (.sipush 500, 3) := dgX11_areNumbers_0.2.2.2.2.2.2.2.2.2.2.2.2.1
theorem dX11_areNumbers_26 : decode cX11_areNumbers 26 = .ok (.invokestatic 156, 3) := dgX11_areNumbers_0.2.2.2.2.2.2.2.2.2.2.2.2.2.1
theorem dX11_areNumbers_29 : decode cX11_areNumbers 29 = .ok (.ifCond .eq 7, 3) := dgX11_areNumbers_0.2.2.2.2.2.2.2.2.2.2.2.2.2.2.1
theorem dX11_areNumbers_32 : decode cX11_areNumbers 32 = .ok (.iconst 1, 1) := dgX11_areNumbers_0.2.2.2.2.2.2.2.2.2.2.2.2.2.2.2
theorem dgX11_areNumbers_16 : (decode cX11_areNumbers 33 = .ok (.goto 4, 3)) ∧ (decode cX11_areNumbers 36 = .ok (.iconst 0, 1)) ∧ (decode cX11_areNumbers 37 = .ok (.ireturn, 1)) := by decide +kernel
theorem dX11_areNumbers_33 : decode cX11_areNumbers 33 = .ok (.goto 4, 3) := dgX11_areNumbers_16.1
theorem dX11_areNumbers_36 : decode cX11_areNumbers 36 = .ok (.iconst 0, 1) := dgX11_areNumbers_16.2.1
theorem dX11_areNumbers_37 : decode cX11_areNumbers 37 = .ok (.ireturn, 1) := dgX11_areNumbers_16.2.2
theorem dgX11_pack_0 : (decode cX11_pack 0 = .ok (.iload_n 1, 1)) ∧ (decode cX11_pack 1 = .ok (.iload_n 2, 1)) ∧ (decode cX11_pack 2 = .ok (.iload_n 3, 1)) ∧ (decode cX11_pack 3 = .ok (.invokestatic 232, 3)) ∧ (decode cX11_pack 6 = .ok (.ifCond .eq 13, 3)) ∧ (decode cX11_pack 9 = .ok (.aload_n 0, 1)) ∧ (decode cX11_pack 10 = .ok (.getfield 235, 3)) ∧ (decode cX11_pack 13 = .ok (.sipush 200, 3)) ∧ (decode cX11_pack 16 = .ok (.if_icmp .ne 5, 3)) ∧ (decode cX11_pack 19 = .ok (.iconst (-1), 1)) ∧ (decode cX11_pack 20 = .ok (.ireturn, 1)) ∧ (decode cX11_pack 21 = .ok (.aload_n 0, 1)) ∧ (decode cX11_pack 22 = .ok (.iload_n 1, 1)) ∧ (decode cX11_pack 23 = .ok (.invokevirtual 238, 3)) ∧ (decode cX11_pack 26 = .ok (.aload_n 0, 1)) ∧ (decode cX11_pack 27 = .ok (.invokevirtual 241, 3)) := by decide +kernel
theorem dX11_pack_0 : decode cX11_pack 0 = .ok (.iload_n 1, 1) := dgX11_pack_0.1
theorem dX11_pack_1 : decode cX11_pack 1 = .ok (.iload_n 2, 1) := dgX11_pack_0.2.1
theorem dX11_pack_2 : decode cX11_pack 2 = .ok (.iload_n 3, 1) := dgX11_pack_0.2.2.1
theorem dX11_pack_3 : decode cX11_pack 3 = .ok (.invokestatic 232, 3) := dgX11_pack_0.2.2.2.1
theorem dX11_pack_6 : decode cX11_pack 6 = .ok (.ifCond .eq 13, 3) := dgX11_pack_0.2.2.2.2.1
theorem dX11_pack_9 : decode cX11_pack 9 = .ok (.aload_n 0, 1) := dgX11_pack_0.2.2.2.2.2.1
theorem dX11_pack_10 : decode cX11_pack 10 = .ok (.getfield 235, 3) := dgX11_pack_0.2.2.2.2.2.2.1
theorem dX11_pack_13 : decode cX11_pack 13 = .ok (.sipush 200, 3) := dgX11_pack_0.2.2.2.2.2.2.2.1
theorem dX11_pack_16 : decode cX11_pack 16 = .ok (.if_icmp .ne 5, 3) := dgX11_pack_0.2.2.2.2.2.2.2.2.1
theorem dX11_pack_19 : decode cX11_pack 19 = .ok (.iconst (-1), 1) := dgX11_pack_0.2.2.2.2.2.2.2.2.2.1
theorem dX11_pack_20 : decode cX11_pack 20 = .ok (.ireturn, 1) := dgX11_pack_0.2.2.2.2.2.2.2.2.2.2.1
theorem dX11_pack_21 : decode cX11_pack 21 = .ok (.aload_n 0, 1) := dgX11_pack_0.2.2.2.2.2.2.2.2.2.2.2.1
theorem dX11_pack_22 : decode cX11_pack 22 = .ok (.iload_n 1, 1) := dgX11_pack_0.2.2.2.2.2.2.2.2.2.2.2.2.1
theorem dX11_pack_23 : decode cX11_pack 23 = .ok (.invokevirtual 238, 3) := dgX11_pack_0.2.2.2.2.2.2.2.2.2.2.2.2.2.1
theorem dX11_pack_26 : decode cX11_pack 26 = .ok (.aload_n 0, 1) := dgX11_pack_0.2.2.2.2.2.2.2.2.2.2.2.2.2.2.1
theorem dX11_pack_27 : decode cX11_pack 27 = .ok (.invokevirtual 241, 3) := dgX11_pack_0.2.2.2.2.2.2.2.2.2.2.2.2.2.2.2
theorem dgX11_pack_16 : (decode cX11_pack 30 = .ok (.aload_n 0, 1)) ∧ (decode cX11_pack 31 = .ok (.iload_n 2, 1)) ∧ (decode cX11_pack 32 = .ok (.iload_n 3, 1)) ∧ (decode cX11_pack 33 = .ok (.invokevirtual 244, 3)) ∧ (decode cX11_pack 36 = .ok (.istore 4, 2)) ∧ (decode cX11_pack 38 = .ok (.iload 4, 2)) ∧ (decode cX11_pack 40 = .ok (.ifCond .ge 5, 3)) ∧ (decode cX11_pack 43 = .ok (.iconst (-1), 1)) ∧ (decode cX11_pack 44 = .ok (.ireturn, 1)) ∧ (decode cX11_pack 45 = .ok (.aload_n 0, 1)) ∧ (decode cX11_pack 46 = .ok (.iload 4, 2)) ∧ (decode cX11_pack 48 = .ok (.invokevirtual 247, 3)) ∧ (decode cX11_pack 51 = .ok (.pop, 1)) ∧ (decode cX11_pack 52 = .ok (.iconst 0, 1)) ∧ (decode cX11_pack 53 = .ok (.istore 5, 2)) ∧ (decode cX11_pack 55 = .ok (.iload 5, 2)) := by decide +kernel
theorem dX11_pack_30 : decode cX11_pack 30 = .ok (.aload_n 0, 1) := dgX11_pack_16.1
theorem dX11_pack_31 : decode cX11_pack 31 = .ok (.iload_n 2, 1) := dgX11_pack_16.2.1
theorem dX11_pack_32 : decode cX11_pack 32 = .ok (.iload_n 3, 1) := dgX11_pack_16.2.2.1
theorem dX11_pack_33 : decode cX11_pack 33 = .ok (.invokevirtual 244, 3) := dgX11_pack_16.2.2.2.1
theorem dX11_pack_36 : decode cX11_pack 36 = .ok (.istore 4, 2) := dgX11_pack_16.2.2.2.2.1
theorem dX11_pack_38 : decode cX11_pack 38 = .ok (.iload 4, 2) := dgX11_pack_16.2.2.2.2.2.1
theorem dX11_pack_40 : decode cX11_pack 40 = .ok (.ifCond .ge 5, 3) := dgX11_pack_16.2.2.2.2.2.2.1
theorem dX11_pack_43 : decode cX11_pack 43 = .ok (.iconst (-1), 1) := dgX11_pack_16.2.2.2.2.2.2.2.1
theorem dX11_pack_44 : decode cX11_pack 44 = .ok (.ireturn, 1) := dgX11_pack_16.2.2.2.2.2.2.2.2.1
theorem dX11_pack_45 : decode cX11_pack 45 = .ok (.aload_n 0, 1) := dgX11_pack_16.2.2.2.2.2.2.2.2.2.1
theorem dX11_pack_46 : decode cX11_pack 46 = .ok (.iload 4, 2) := dgX11_pack_16.2.2.2.2.2.2.2.2.2.2.1
theorem dX11_pack_48 : decode cX11_pack 48 = .ok (.invokevirtual 247, 3) := dgX11_pack_16.2.2.2.2.2.2.2.2.2.2.2.1
theorem dX11_pack_51 : decode cX11_pack 51 = .ok (.pop, 1) := dgX11_pack_16.2.2.2.2.2.2.2.2.2.2.2.2.1
theorem dX11_pack_52 : decode cX11_pack 52 = .ok (.iconst 0, 1) := dgX11_pack_16.2.2.2.2.2.2.2.2.2.2.2.2.2.1
theorem dX11_pack_53 : decode cX11_pack 53 = .ok (.istore 5, 2) := dgX11_pack_16.2.2.2.2.2.2.2.2.2.2.2.2.2.2.1
theorem dX11_pack_55 : decode cX11_pack 55 = .ok (.iload 5, 2) := dgX11_pack_16.2.2.2.2.2.2.2.2.2.2.2.2.2.2.2
theorem dgX11_pack_32 : (decode cX11_pack 57 = .ok (.aload_n 0, 1)) ∧ (decode cX11_pack 58 = .ok (.getfield 225, 3)) ∧ (decode cX11_pack 61 = .ok (.if_icmp .ge 66, 3)) ∧ (decode cX11_pack 64 = .ok (.aload_n 0, 1)) ∧ (decode cX11_pack 65 = .ok (.getfield 133, 3)) ∧ (decode cX11_pack 68 = .ok (.aload_n 0, 1)) ∧ (decode cX11_pack 69 = .ok (.getfield 140, 3)) ∧ (decode cX11_pack 72 = .ok (.iload 5, 2)) ∧ (decode cX11_pack 74 = .ok (.iaload, 1)) ∧ (decode cX11_pack 75 = .ok (.baload, 1)) ∧ (decode cX11_pack 76 = .ok (.ifCond .ne 6, 3)) ∧ (decode cX11_pack 79 = .ok (.goto 42, 3)) ∧ (decode cX11_pack 82 = .ok (.aload_n 0, 1)) ∧ (decode cX11_pack 83 = .ok (.getfield 127, 3)) ∧ (decode cX11_pack 86 = .ok (.aload_n 0, 1)) ∧ (decode cX11_pack 87 = .ok (.getfield 140, 3)) := by decide +kernel
theorem dX11_pack_57 : decode cX11_pack 57 = .ok (.aload_n 0, 1) := dgX11_pack_32.1
theorem dX11_pack_58 : decode cX11_pack 58 = .ok (.getfield 225, 3) := dgX11_pack_32.2.1
theorem dX11_pack_61 : decode cX11_pack 61 = .ok (.if_icmp .ge 66, 3) := dgX11_pack_32.2.2.1
theorem dX11_pack_64 : decode cX11_pack 64 = .ok (.aload_n 0, 1) := dgX11_pack_32.2.2.2.1
theorem dX11_pack_65 : decode cX11_pack 65 = .ok (.getfield 133, 3) := dgX11_pack_32.2.2.2.2.1
theorem dX11_pack_68 : decode cX11_pack 68 = .ok (.aload_n 0, 1) := dgX11_pack_32.2.2.2.2.2.1
theorem dX11_pack_69 : decode cX11_pack 69 = .ok (.getfield 140, 3) := dgX11_pack_32.2.2.2.2.2.2.1
theorem dX11_pack_72 : decode cX11_pack 72 = .ok (.iload 5, 2) := dgX11_pack_32.2.2.2.2.2.2.2.1
theorem dX11_pack_74 : decode cX11_pack 74 = .ok (.iaload, 1) := dgX11_pack_32.2.2.2.2.2.2.2.2.1
theorem dX11_pack_75 : decode cX11_pack 75 = .ok (.baload, 1) := dgX11_pack_32.2.2.2.2.2.2.2.2.2.1
theorem dX11_pack_76 : decode cX11_pack 76 = .ok (.ifCond .ne 6, 3) := dgX11_pack_32.2.2.2.2.2.2.2.2.2.2.1
theorem dX11_pack_79 : decode cX11_pack 79 = .ok (.goto 42, 3) := dgX11_pack_32.2.2.2.2.2.2.2.2.2.2.2.1
theorem dX11_pack_82 : decode cX11_pack 82 = .ok (.aload_n 0, 1) := dgX11_pack_32.2.2.2.2.2.2.2.2.2.2.2.2.1
theorem dX11_pack_83 : decode cX11_pack 83 = .ok (.getfield 127, 3) := dgX11_pack_32.2.2.2.2.2.2.2.2.2.2.2.2.2.1
theorem dX11_pack_86 : decode cX11_pack 86 = .ok (.aload_n 0, 1) := dgX11_pack_32.2.2.2.2.2.2.2.2.2.2.2.2.2.2.1
theorem dX11_pack_87 : decode cX11_pack 87 = .ok (.getfield 140, 3) := dgX11_pack_32.2.2.2.2.2.2.2.2.2.2.2.2.2.2.2
theorem dgX11_pack_48 : (decode cX11_pack 90 = .ok (.iload 5, 2)) ∧ (decode cX11_pack 92 = .ok (.iaload, 1)) ∧ (decode cX11_pack 93 = .ok (.iaload, 1)) ∧ (decode cX11_pack 94 = .ok (.istore 6, 2)) ∧ (decode cX11_pack 96 = .ok (.aload_n 0, 1)) ∧ (decode cX11_pack 97 = .ok (.iload 6, 2)) ∧ (decode cX11_pack 99 = .ok (.invokevirtual 209, 3)) ∧ (decode cX11_pack 102 = .ok (.aload_n 0, 1)) ∧ (decode cX11_pack 103 = .ok (.getfield 115, 3)) ∧ (decode cX11_pack 106 = .ok (.iload 6, 2)) ∧ (decode cX11_pack 108 = .ok (.iconst 2, 1)) ∧ (decode cX11_pack 109 = .ok (.iastore, 1)) ∧ (decode cX11_pack 110 = .ok (.aload_n 0, 1)) ∧ (decode cX11_pack 111 = .ok (.getfield 118, 3)) ∧ (decode cX11_pack 114 = .ok (.iload 6, 2)) ∧ (decode cX11_pack 116 = .ok (.aload_n 0, 1)) := by decide +kernel
theorem dX11_pack_90 : decode cX11_pack 90 = .ok (.iload 5, 2) := dgX11_pack_48.1
theorem dX11_pack_92 : decode cX11_pack 92 = .ok (.iaload, 1) := dgX11_pack_48.2.1
theorem dX11_pack_93 : decode cX11_pack 93 = .ok (.iaload, 1) := dgX11_pack_48.2.2.1
theorem dX11_pack_94 : decode cX11_pack 94 = .ok (.istore 6, 2) := dgX11_pack_48.2.2.2.1
theorem dX11_pack_96 : decode cX11_pack 96 = .ok (.aload_n 0, 1) := dgX11_pack_48.2.2.2.2.1
theorem dX11_pack_97 : decode cX11_pack 97 = .ok (.iload 6, 2) := dgX11_pack_48.2.2.2.2.2.1
theorem dX11_pack_99 : decode cX11_pack 99 = .ok (.invokevirtual 209, 3) := dgX11_pack_48.2.2.2.2.2.2.1
theorem dX11_pack_102 : decode cX11_pack 102 = .ok (.aload_n 0, 1) := dgX11_pack_48.2.2.2.2.2.2.2.1
theorem dX11_pack_103 : decode cX11_pack 103 = .ok (.getfield 115, 3) := dgX11_pack_48.2.2.2.2.2.2.2.2.1
theorem dX11_pack_106 : decode cX11_pack 106 = .ok (.iload 6, 2) := dgX11_pack_48.2.2.2.2.2.2.2.2.2.1
theorem dX11_pack_108 : decode cX11_pack 108 = .ok (.iconst 2, 1) := dgX11_pack_48.2.2.2.2.2.2.2.2.2.2.1
theorem dX11_pack_109 : decode cX11_pack 109 = .ok (.iastore, 1) := dgX11_pack_48.2.2.2.2.2.2.2.2.2.2.2.1
theorem dX11_pack_110 : decode cX11_pack 110 = .ok (.aload_n 0, 1) := dgX11_pack_48.2.2.2.2.2.2.2.2.2.2.2.2.1
theorem dX11_pack_111 : decode cX11_pack 111 = .ok (.getfield 118, 3) := dgX11_pack_48.2.2.2.2.2.2.2.2.2.2.2.2.2.1
theorem dX11_pack_114 : decode cX11_pack 114 = .ok (.iload 6, 2) := dgX11_pack_48.2.2.2.2.2.2.2.2.2.2.2.2.2.2.1
theorem dX11_pack_116 : decode cX11_pack 116 = .ok (.aload_n 0, 1) := dgX11_pack_48.2.2.2.2.2.2.2.2.2.2.2.2.2.2.2
theorem dgX11_pack_64 : (decode cX11_pack 117 = .ok (.getfield 235, 3)) ∧ (decode cX11_pack 120 = .ok (.iastore, 1)) ∧ (decode cX11_pack 121 = .ok (.iinc 5 1, 3)) ∧ (decode cX11_pack 124 = .ok (.goto (-69), 3)) ∧ (decode cX11_pack 127 = .ok (.aload_n 0, 1)) ∧ (decode cX11_pack 128 = .ok (.getfield 124, 3)) ∧ (decode cX11_pack 131 = .ok (.aload_n 0, 1)) ∧ (decode cX11_pack 132 = .ok (.getfield 235, 3)) ∧ (decode cX11_pack 135 = .ok (.iload_n 2, 1)) ∧ (decode cX11_pack 136 = .ok (.iastore, 1)) ∧ (decode cX11_pack 137 = .ok (.aload_n 0, 1)) ∧ (decode cX11_pack 138 = .ok (.dup, 1)) ∧ (decode cX11_pack 139 = .ok (.getfield 235, 3)) ∧ (decode cX11_pack 142 = .ok (.iconst 1, 1)) ∧ (decode cX11_pack 143 = .ok (.iadd, 1)) ∧ (decode cX11_pack 144 = .ok (.putfield 235, 3)) := by decide +kernel
theorem dX11_pack_117 : decode cX11_pack 117 = .ok (.getfield 235, 3) := dgX11_pack_64.1
theorem dX11_pack_120 : decode cX11_pack 120 = .ok (.iastore, 1) := dgX11_pack_64.2.1
theorem dX11_pack_121 : decode cX11_pack 121 = .ok (.iinc 5 1, 3) := dgX11_pack_64.2.2.1
theorem dX11_pack_124 : decode cX11_pack 124 = .ok (.goto (-69), 3) := dgX11_pack_64.2.2.2.1
theorem dX11_pack_127 : decode cX11_pack 127 = .ok (.aload_n 0, 1) := dgX11_pack_64.2.2.2.2.1
theorem dX11_pack_128 : decode cX11_pack 128 = .ok (.getfield 124, 3) := dgX11_pack_64.2.2.2.2.2.1
theorem dX11_pack_131 : decode cX11_pack 131 = .ok (.aload_n 0, 1) := dgX11_pack_64.2.2.2.2.2.2.1
theorem dX11_pack_132 : decode cX11_pack 132 = .ok (.getfield 235, 3) := dgX11_pack_64.2.2.2.2.2.2.2.1
theorem dX11_pack_135 : decode cX11_pack 135 = .ok (.iload_n 2, 1) := dgX11_pack_64.2.2.2.2.2.2.2.2.1
theorem dX11_pack_136 : decode cX11_pack 136 = .ok (.iastore, 1) := dgX11_pack_64.2.2.2.2.2.2.2.2.2.1
theorem dX11_pack_137 : decode cX11_pack 137 = .ok (.aload_n 0, 1) := dgX11_pack_64.2.2.2.2.2.2.2.2.2.2.1
theorem dX11_pack_138 : decode cX11_pack 138 = .ok (.dup, 1) := dgX11_pack_64.2.2.2.2.2.2.2.2.2.2.2.1
theorem dX11_pack_139 : decode cX11_pack 139 = .ok (.getfield 235, 3) := dgX11_pack_64.2.2.2.2.2.2.2.2.2.2.2.2.1
theorem dX11_pack_142 : decode cX11_pack 142 = .ok (.iconst 1, 1) := dgX11_pack_64.2.2.2.2.2.2.2.2.2.2.2.2.2.1
theorem dX11_pack_143 : decode cX11_pack 143 = .ok (.iadd, 1) := dgX11_pack_64.2.2.2.2.2.2.2.2.2.2.2.2.2.2.1
theorem dX11_pack_144 : decode cX11_pack 144 = .ok (.putfield 235, 3) := dgX11_pack_64.2.2.2.2.2.2.2.2.2.2.2.2.2.2.2
theorem dgX11_pack_80 : (decode cX11_pack 147 = .ok (.aload_n 0, 1)) ∧ (decode cX11_pack 148 = .ok (.getfield 235, 3)) ∧ (decode cX11_pack 151 = .ok (.iconst 1, 1)) ∧ (decode cX11_pack 152 = .ok (.isub, 1)) ∧ (decode cX11_pack 153 = .ok (.ireturn, 1)) := by decide +kernel
theorem dX11_pack_147 : decode cX11_pack 147 = .ok (.aload_n 0, 1) := dgX11_pack_80.1
theorem dX11_pack_148 : decode cX11_pack 148 = .ok (.getfield 235, 3) := dgX11_pack_80.2.1
theorem dX11_pack_151 : decode cX11_pack 151 = .ok (.iconst 1, 1) := dgX11_pack_80.2.2.1
theorem dX11_pack_152 : decode cX11_pack 152 = .ok (.isub, 1) := dgX11_pack_80.2.2.2.1
theorem dX11_pack_153 : decode cX11_pack 153 = .ok (.ireturn, 1) := dgX11_pack_80.2.2.2.2
theorem dgX11_full_0 : (decode cX11_full 0 = .ok (.iconst 0, 1)) ∧ (decode cX11_full 1 = .ok (.istore_n 3, 1)) ∧ (decode cX11_full 2 = .ok (.iconst 1, 1)) ∧ (decode cX11_full 3 = .ok (.istore 4, 2)) ∧ (decode cX11_full 5 = .ok (.iload 4, 2)) ∧ (decode cX11_full 7 = .ok (.ifCond .eq 94, 3)) ∧ (decode cX11_full 10 = .ok (.aload_n 0, 1)) ∧ (decode cX11_full 11 = .ok (.invokevirtual 241, 3)) ∧ (decode cX11_full 14 = .ok (.aload_n 0, 1)) ∧ (decode cX11_full 15 = .ok (.iload_n 1, 1)) ∧ (decode cX11_full 16 = .ok (.iload_n 2, 1)) ∧ (decode cX11_full 17 = .ok (.invokevirtual 244, 3)) ∧ (decode cX11_full 20 = .ok (.istore 5, 2)) ∧ (decode cX11_full 22 = .ok (.iload 5, 2)) ∧ (decode cX11_full 24 = .ok (.ifCond .lt 7, 3)) ∧ (decode cX11_full 27 = .ok (.iconst 1, 1)) := by decide +kernel
theorem dX11_full_0 : decode cX11_full 0 = .ok (.iconst 0, 1) := dgX11_full_0.1
theorem dX11_full_1 : decode cX11_full 1 = .ok (.istore_n 3, 1) := dgX11_full_0.2.1
theorem dX11_full_2 : decode cX11_full 2 = .ok (.iconst 1, 1) := dgX11_full_0.2.2.1
theorem dX11_full_3 : decode cX11_full 3 = .ok (.istore 4, 2) := dgX11_full_0.2.2.2.1
theorem dX11_full_5 : decode cX11_full 5 = .ok (.iload 4, 2) := dgX11_full_0.2.2.2.2.1
theorem dX11_full_7 : decode cX11_full 7 = .ok (.ifCond .eq 94, 3) := dgX11_full_0.2.2.2.2.2.1
theorem dX11_full_10 : decode cX11_full 10 = .ok (.aload_n 0, 1) := dgX11_full_0.2.2.2.2.2.2.1
theorem dX11_full_11 : decode cX11_full 11 = .ok (.invokevirtual 241, 3) := dgX11_full_0.2.2.2.2.2.2.2.1
theorem dX11_full_14 : decode cX11_full 14 = .ok (.aload_n 0, 1) := dgX11_full_0.2.2.2.2.2.2.2.2.1
theorem dX11_full_15 : decode cX11_full 15 = .ok (.iload_n 1, 1) := dgX11_full_0.2.2.2.2.2.2.2.2.2.1
theorem dX11_full_16 : decode cX11_full 16 = .ok (.iload_n 2, 1) := dgX11_full_0.2.2.2.2.2.2.2.2.2.2.1
theorem dX11_full_17 : decode cX11_full 17 = .ok (.invokevirtual 244, 3) := dgX11_full_0.2.2.2.2.2.2.2.2.2.2.2.1
theorem dX11_full_20 : decode cX11_full 20 = .ok (.istore 5, 2) := dgX11_full_0.2.2.2.2.2.2.2.2.2.2.2.2.1
theorem dX11_full_22 : decode cX11_full 22 = .ok (.iload 5, 2) := dgX11_full_0.2.2.2.2.2.2.2.2.2.2.2.2.2.1
theorem dX11_full_24 : decode cX11_full 24 = .ok (.ifCond .lt 7, 3) := dgX11_full_0.2.2.2.2.2.2.2.2.2.2.2.2.2.2.1
theorem dX11_full_27 : decode cX11_full 27 = .ok (.iconst 1, 1) := dgX11_full_0.2.2.2.2.2.2.2.2.2.2.2.2.2.2.2
theorem dgX11_full_16 : (decode cX11_full 28 = .ok (.goto 4, 3)) ∧ (decode cX11_full 31 = .ok (.iconst 0, 1)) ∧ (decode cX11_full 32 = .ok (.istore 4, 2)) ∧ (decode cX11_full 34 = .ok (.iload 4, 2)) ∧ (decode cX11_full 36 = .ok (.ifCond .ne 6, 3)) ∧ (decode cX11_full 39 = .ok (.goto (-34), 3)) ∧ (decode cX11_full 42 = .ok (.aload_n 0, 1)) ∧ (decode cX11_full 43 = .ok (.iload 5, 2)) ∧ (decode cX11_full 45 = .ok (.invokevirtual 247, 3)) ∧ (decode cX11_full 48 = .ok (.pop, 1)) ∧ (decode cX11_full 49 = .ok (.iconst 0, 1)) ∧ (decode cX11_full 50 = .ok (.istore 6, 2)) ∧ (decode cX11_full 52 = .ok (.iload 6, 2)) ∧ (decode cX11_full 54 = .ok (.aload_n 0, 1)) ∧ (decode cX11_full 55 = .ok (.getfield 225, 3)) ∧ (decode cX11_full 58 = .ok (.if_icmp .ge 37, 3)) := by decide +kernel
theorem dX11_full_28 : decode cX11_full 28 = .ok (.goto 4, 3) := dgX11_full_16.1
theorem dX11_full_31 : decode cX11_full 31 = .ok (.iconst 0, 1) := dgX11_full_16.2.1
theorem dX11_full_32 : decode cX11_full 32 = .ok (.istore 4, 2) := dgX11_full_16.2.2.1
theorem dX11_full_34 : decode cX11_full 34 = .ok (.iload 4, 2) := dgX11_full_16.2.2.2.1
theorem dX11_full_36 : decode cX11_full 36 = .ok (.ifCond .ne 6, 3) := dgX11_full_16.2.2.2.2.1
theorem dX11_full_39 : decode cX11_full 39 = .ok (.goto (-34), 3) := dgX11_full_16.2.2.2.2.2.1
theorem dX11_full_42 : decode cX11_full 42 = .ok (.aload_n 0, 1) := dgX11_full_16.2.2.2.2.2.2.1
theorem dX11_full_43 : decode cX11_full 43 = .ok (.iload 5, 2) := dgX11_full_16.2.2.2.2.2.2.2.1
theorem dX11_full_45 : decode cX11_full 45 = .ok (.invokevirtual 247, 3) := dgX11_full_16.2.2.2.2.2.2.2.2.1
theorem dX11_full_48 : decode cX11_full 48 = .ok (.pop, 1) := dgX11_full_16.2.2.2.2.2.2.2.2.2.1
theorem dX11_full_49 : decode cX11_full 49 = .ok (.iconst 0, 1) := dgX11_full_16.2.2.2.2.2.2.2.2.2.2.1
theorem dX11_full_50 : decode cX11_full 50 = .ok (.istore 6, 2) := dgX11_full_16.2.2.2.2.2.2.2.2.2.2.2.1
theorem dX11_full_52 : decode cX11_full 52 = .ok (.iload 6, 2) := dgX11_full_16.2.2.2.2.2.2.2.2.2.2.2.2.1
theorem dX11_full_54 : decode cX11_full 54 = .ok (.aload_n 0, 1) := dgX11_full_16.2.2.2.2.2.2.2.2.2.2.2.2.2.1
theorem dX11_full_55 : decode cX11_full 55 = .ok (.getfield 225, 3) := dgX11_full_16.2.2.2.2.2.2.2.2.2.2.2.2.2.2.1
theorem dX11_full_58 : decode cX11_full 58 = .ok (.if_icmp .ge 37, 3) := dgX11_full_16.2.2.2.2.2.2.2.2.2.2.2.2.2.2.2
theorem dgX11_full_32 : (decode cX11_full 61 = .ok (.aload_n 0, 1)) ∧ (decode cX11_full 62 = .ok (.getfield 133, 3)) ∧ (decode cX11_full 65 = .ok (.aload_n 0, 1)) ∧ (decode cX11_full 66 = .ok (.getfield 140, 3)) ∧ (decode cX11_full 69 = .ok (.iload 6, 2)) ∧ (decode cX11_full 71 = .ok (.iaload, 1)) ∧ (decode cX11_full 72 = .ok (.baload, 1)) ∧ (decode cX11_full 73 = .ok (.ifCond .eq 16, 3)) ∧ (decode cX11_full 76 = .ok (.aload_n 0, 1)) ∧ (decode cX11_full 77 = .ok (.getfield 130, 3)) ∧ (decode cX11_full 80 = .ok (.aload_n 0, 1)) ∧ (decode cX11_full 81 = .ok (.getfield 140, 3)) ∧ (decode cX11_full 84 = .ok (.iload 6, 2)) ∧ (decode cX11_full 86 = .ok (.iaload, 1)) ∧ (decode cX11_full 87 = .ok (.iconst 1, 1)) ∧ (decode cX11_full 88 = .ok (.bastore, 1)) := by decide +kernel
theorem dX11_full_61 : decode cX11_full 61 = .ok (.aload_n 0, 1) := dgX11_full_32.1
theorem dX11_full_62 : decode cX11_full 62 = .ok (.getfield 133, 3) := dgX11_full_32.2.1
theorem dX11_full_65 : decode cX11_full 65 = .ok (.aload_n 0, 1) := dgX11_full_32.2.2.1
theorem dX11_full_66 : decode cX11_full 66 = .ok (.getfield 140, 3) := dgX11_full_32.2.2.2.1
theorem dX11_full_69 : decode cX11_full 69 = .ok (.iload 6, 2) := dgX11_full_32.2.2.2.2.1
theorem dX11_full_71 : decode cX11_full 71 = .ok (.iaload, 1) := dgX11_full_32.2.2.2.2.2.1
theorem dX11_full_72 : decode cX11_full 72 = .ok (.baload, 1) := dgX11_full_32.2.2.2.2.2.2.1
theorem dX11_full_73 : decode cX11_full 73 = .ok (.ifCond .eq 16, 3) := dgX11_full_32.2.2.2.2.2.2.2.1
theorem dX11_full_76 : decode cX11_full 76 = .ok (.aload_n 0, 1) := dgX11_full_32.2.2.2.2.2.2.2.2.1
theorem dX11_full_77 : decode cX11_full 77 = .ok (.getfield 130, 3) := dgX11_full_32.2.2.2.2.2.2.2.2.2.1
theorem dX11_full_80 : decode cX11_full 80 = .ok (.aload_n 0, 1) := dgX11_full_32.2.2.2.2.2.2.2.2.2.2.1
theorem dX11_full_81 : decode cX11_full 81 = .ok (.getfield 140, 3) := dgX11_full_32.2.2.2.2.2.2.2.2.2.2.2.1
theorem dX11_full_84 : decode cX11_full 84 = .ok (.iload 6, 2) := dgX11_full_32.2.2.2.2.2.2.2.2.2.2.2.2.1
theorem dX11_full_86 : decode cX11_full 86 = .ok (.iaload, 1) := dgX11_full_32.2.2.2.2.2.2.2.2.2.2.2.2.2.1
theorem dX11_full_87 : decode cX11_full 87 = .ok (.iconst 1, 1) := dgX11_full_32.2.2.2.2.2.2.2.2.2.2.2.2.2.2.1
theorem dX11_full_88 : decode cX11_full 88 = .ok (.bastore, 1) := dgX11_full_32.2.2.2.2.2.2.2.2.2.2.2.2.2.2.2
theorem dgX11_full_48 : (decode cX11_full 89 = .ok (.iinc 6 1, 3)) ∧ (decode cX11_full 92 = .ok (.goto (-40), 3)) ∧ (decode cX11_full 95 = .ok (.iinc 3 1, 3)) ∧ (decode cX11_full 98 = .ok (.goto (-93), 3)) ∧ (decode cX11_full 101 = .ok (.iload_n 3, 1)) ∧ (decode cX11_full 102 = .ok (.ireturn, 1)) := by decide +kernel
theorem dX11_full_89 : decode cX11_full 89 = .ok (.iinc 6 1, 3) := dgX11_full_48.1
theorem dX11_full_92 : decode cX11_full 92 = .ok (.goto (-40), 3) := dgX11_full_48.2.1
theorem dX11_full_95 : decode cX11_full 95 = .ok (.iinc 3 1, 3) := dgX11_full_48.2.2.1
theorem dX11_full_98 : decode cX11_full 98 = .ok (.goto (-93), 3) := dgX11_full_48.2.2.2.1
theorem dX11_full_101 : decode cX11_full 101 = .ok (.iload_n 3, 1) := dgX11_full_48.2.2.2.2.1
theorem dX11_full_102 : decode cX11_full 102 = .ok (.ireturn, 1) := dgX11_full_48.2.2.2.2.2
theorem dgX11_most_0 : (decode cX11_most 0 = .ok (.aload_n 0, 1)) ∧ (decode cX11_most 1 = .ok (.getfield 222, 3)) ∧ (decode cX11_most 4 = .ok (.bipush 14, 2)) ∧ (decode cX11_most 6 = .ok (.if_icmp .ge 10, 3)) ∧ (decode cX11_most 9 = .ok (.aload_n 0, 1)) ∧ (decode cX11_most 10 = .ok (.getfield 222, 3)) ∧ (decode cX11_most 13 = .ok (.goto 5, 3)) ∧ (decode cX11_most 16 = .ok (.bipush 14, 2)) ∧ (decode cX11_most 18 = .ok (.istore_n 3, 1)) ∧ (decode cX11_most 19 = .ok (.iconst 0, 1)) ∧ (decode cX11_most 20 = .ok (.istore 4, 2)) ∧ (decode cX11_most 22 = .ok (.iload 4, 2)) ∧ (decode cX11_most 24 = .ok (.iconst 1, 1)) ∧ (decode cX11_most 25 = .ok (.iload_n 3, 1)) ∧ (decode cX11_most 26 = .ok (.ishl, 1)) ∧ (decode cX11_most 27 = .ok (.if_icmp .ge 217, 3)) := by decide +kernel
theorem dX11_most_0 : decode cX11_most 0 = .ok (.aload_n 0, 1) := dgX11_most_0.1
theorem dX11_most_1 : decode cX11_most 1 = .ok (.getfield 222, 3) := dgX11_most_0.2.1
theorem dX11_most_4 : decode cX11_most 4 = .ok (.bipush 14, 2) := dgX11_most_0.2.2.1
theorem dX11_most_6 : decode cX11_most 6 = .ok (.if_icmp .ge 10, 3) := dgX11_most_0.2.2.2.1
theorem dX11_most_9 : decode cX11_most 9 = .ok (.aload_n 0, 1) := dgX11_most_0.2.2.2.2.1
theorem dX11_most_10 : decode cX11_most 10 = .ok (.getfield 222, 3) := dgX11_most_0.2.2.2.2.2.1
theorem dX11_most_13 : decode cX11_most 13 = .ok (.goto 5, 3) := dgX11_most_0.2.2.2.2.2.2.1
theorem dX11_most_16 : decode cX11_most 16 = .ok (.bipush 14, 2) := dgX11_most_0.2.2.2.2.2.2.2.1
theorem dX11_most_18 : decode cX11_most 18 = .ok (.istore_n 3, 1) := dgX11_most_0.2.2.2.2.2.2.2.2.1
theorem dX11_most_19 : decode cX11_most 19 = .ok (.iconst 0, 1) := dgX11_most_0.2.2.2.2.2.2.2.2.2.1
theorem dX11_most_20 : decode cX11_most 20 = .ok (.istore 4, 2) := dgX11_most_0.2.2.2.2.2.2.2.2.2.2.1
theorem dX11_most_22 : decode cX11_most 22 = .ok (.iload 4, 2) := dgX11_most_0.2.2.2.2.2.2.2.2.2.2.2.1
theorem dX11_most_24 : decode cX11_most 24 = .ok (.iconst 1, 1) := dgX11_most_0.2.2.2.2.2.2.2.2.2.2.2.2.1
theorem dX11_most_25 : decode cX11_most 25 = .ok (.iload_n 3, 1) := dgX11_most_0.2.2.2.2.2.2.2.2.2.2.2.2.2.1
theorem dX11_most_26 : decode cX11_most 26 = .ok (.ishl, 1) := dgX11_most_0.2.2.2.2.2.2.2.2.2.2.2.2.2.2.1
theorem dX11_most_27 : decode cX11_most 27 = .ok (.if_icmp .ge 217, 3) := dgX11_most_0.2.2.2.2.2.2.2.2.2.2.2.2.2.2.2
theorem dgX11_most_16 : (decode cX11_most 30 = .ok (.iconst 0, 1)) ∧ (decode cX11_most 31 = .ok (.istore 5, 2)) ∧ (decode cX11_most 33 = .ok (.iload 4, 2)) ∧ (decode cX11_most 35 = .ok (.ifCond .le 19, 3)) ∧ (decode cX11_most 38 = .ok (.iload 4, 2)) ∧ (decode cX11_most 40 = .ok (.iload 5, 2)) ∧ (decode cX11_most 42 = .ok (.ishr, 1)) ∧ (decode cX11_most 43 = .ok (.iconst 1, 1)) ∧ (decode cX11_most 44 = .ok (.iand, 1)) ∧ (decode cX11_most 45 = .ok (.ifCond .ne 9, 3)) ∧ (decode cX11_most 48 = .ok (.iinc 5 1, 3)) ∧ (decode cX11_most 51 = .ok (.goto (-18), 3)) ∧ (decode cX11_most 54 = .ok (.aload_n 0, 1)) ∧ (decode cX11_most 55 = .ok (.getfield 143, 3)) ∧ (decode cX11_most 58 = .ok (.iload 4, 2)) ∧ (decode cX11_most 60 = .ok (.iload 4, 2)) := by decide +kernel
theorem dX11_most_30 : decode cX11_most 30 = .ok (.iconst 0, 1) := dgX11_most_16.1
theorem dX11_most_31 : decode cX11_most 31 = .ok (.istore 5, 2) := dgX11_most_16.2.1
theorem dX11_most_33 : decode cX11_most 33 = .ok (.iload 4, 2) := dgX11_most_16.2.2.1
theorem dX11_most_35 : decode cX11_most 35 = .ok (.ifCond .le 19, 3) := dgX11_most_16.2.2.2.1
theorem dX11_most_38 : decode cX11_most 38 = .ok (.iload 4, 2) := dgX11_most_16.2.2.2.2.1
theorem dX11_most_40 : decode cX11_most 40 = .ok (.iload 5, 2) := dgX11_most_16.2.2.2.2.2.1
theorem dX11_most_42 : decode cX11_most 42 = .ok (.ishr, 1) := dgX11_most_16.2.2.2.2.2.2.1
theorem dX11_most_43 : decode cX11_most 43 = .ok (.iconst 1, 1) := dgX11_most_16.2.2.2.2.2.2.2.1
theorem dX11_most_44 : decode cX11_most 44 = .ok (.iand, 1) := dgX11_most_16.2.2.2.2.2.2.2.2.1
theorem dX11_most_45 : decode cX11_most 45 = .ok (.ifCond .ne 9, 3) := dgX11_most_16.2.2.2.2.2.2.2.2.2.1
theorem dX11_most_48 : decode cX11_most 48 = .ok (.iinc 5 1, 3) := dgX11_most_16.2.2.2.2.2.2.2.2.2.2.1
theorem dX11_most_51 : decode cX11_most 51 = .ok (.goto (-18), 3) := dgX11_most_16.2.2.2.2.2.2.2.2.2.2.2.1
theorem dX11_most_54 : decode cX11_most 54 = .ok (.aload_n 0, 1) := dgX11_most_16.2.2.2.2.2.2.2.2.2.2.2.2.1
theorem dX11_most_55 : decode cX11_most 55 = .ok (.getfield 143, 3) := dgX11_most_16.2.2.2.2.2.2.2.2.2.2.2.2.2.1
theorem dX11_most_58 : decode cX11_most 58 = .ok (.iload 4, 2) := dgX11_most_16.2.2.2.2.2.2.2.2.2.2.2.2.2.2.1
theorem dX11_most_60 : decode cX11_most 60 = .ok (.iload 4, 2) := dgX11_most_16.2.2.2.2.2.2.2.2.2.2.2.2.2.2.2
theorem dgX11_most_32 : (decode cX11_most 62 = .ok (.ifCond .ne 7, 3)) ∧ (decode cX11_most 65 = .ok (.iconst 0, 1)) ∧ (decode cX11_most 66 = .ok (.goto 28, 3)) ∧ (decode cX11_most 69 = .ok (.aload_n 0, 1)) ∧ (decode cX11_most 70 = .ok (.getfield 143, 3)) ∧ (decode cX11_most 73 = .ok (.iload 4, 2)) ∧ (decode cX11_most 75 = .ok (.iload 4, 2)) ∧ (decode cX11_most 77 = .ok (.iconst 1, 1)) ∧ (decode cX11_most 78 = .ok (.isub, 1)) ∧ (decode cX11_most 79 = .ok (.iand, 1)) ∧ (decode cX11_most 80 = .ok (.iaload, 1)) ∧ (decode cX11_most 81 = .ok (.aload_n 0, 1)) ∧ (decode cX11_most 82 = .ok (.getfield 103, 3)) ∧ (decode cX11_most 85 = .ok (.aload_n 0, 1)) ∧ (decode cX11_most 86 = .ok (.getfield 127, 3)) ∧ (decode cX11_most 89 = .ok (.iload 5, 2)) := by decide +kernel
theorem dX11_most_62 : decode cX11_most 62 = .ok (.ifCond .ne 7, 3) := dgX11_most_32.1
theorem dX11_most_65 : decode cX11_most 65 = .ok (.iconst 0, 1) := dgX11_most_32.2.1
theorem dX11_most_66 : decode cX11_most 66 = .ok (.goto 28, 3) := dgX11_most_32.2.2.1
theorem dX11_most_69 : decode cX11_most 69 = .ok (.aload_n 0, 1) := dgX11_most_32.2.2.2.1
theorem dX11_most_70 : decode cX11_most 70 = .ok (.getfield 143, 3) := dgX11_most_32.2.2.2.2.1
theorem dX11_most_73 : decode cX11_most 73 = .ok (.iload 4, 2) := dgX11_most_32.2.2.2.2.2.1
theorem dX11_most_75 : decode cX11_most 75 = .ok (.iload 4, 2) := dgX11_most_32.2.2.2.2.2.2.1
theorem dX11_most_77 : decode cX11_most 77 = .ok (.iconst 1, 1) := dgX11_most_32.2.2.2.2.2.2.2.1
theorem dX11_most_78 : decode cX11_most 78 = .ok (.isub, 1) := dgX11_most_32.2.2.2.2.2.2.2.2.1
theorem dX11_most_79 : decode cX11_most 79 = .ok (.iand, 1) := dgX11_most_32.2.2.2.2.2.2.2.2.2.1
theorem dX11_most_80 : decode cX11_most 80 = .ok (.iaload, 1) := dgX11_most_32.2.2.2.2.2.2.2.2.2.2.1
theorem dX11_most_81 : decode cX11_most 81 = .ok (.aload_n 0, 1) := dgX11_most_32.2.2.2.2.2.2.2.2.2.2.2.1
theorem dX11_most_82 : decode cX11_most 82 = .ok (.getfield 103, 3) := dgX11_most_32.2.2.2.2.2.2.2.2.2.2.2.2.1
theorem dX11_most_85 : decode cX11_most 85 = .ok (.aload_n 0, 1) := dgX11_most_32.2.2.2.2.2.2.2.2.2.2.2.2.2.1
theorem dX11_most_86 : decode cX11_most 86 = .ok (.getfield 127, 3) := dgX11_most_32.2.2.2.2.2.2.2.2.2.2.2.2.2.2.1
theorem dX11_most_89 : decode cX11_most 89 = .ok (.iload 5, 2) := dgX11_most_32.2.2.2.2.2.2.2.2.2.2.2.2.2.2.2
theorem dgX11_most_48 : (decode cX11_most 91 = .ok (.iaload, 1)) ∧ (decode cX11_most 92 = .ok (.iaload, 1)) ∧ (decode cX11_most 93 = .ok (.iadd, 1)) ∧ (decode cX11_most 94 = .ok (.iastore, 1)) ∧ (decode cX11_most 95 = .ok (.aload_n 0, 1)) ∧ (decode cX11_most 96 = .ok (.getfield 146, 3)) ∧ (decode cX11_most 99 = .ok (.iload 4, 2)) ∧ (decode cX11_most 101 = .ok (.iload 4, 2)) ∧ (decode cX11_most 103 = .ok (.ifCond .ne 7, 3)) ∧ (decode cX11_most 106 = .ok (.iconst 0, 1)) ∧ (decode cX11_most 107 = .ok (.goto 15, 3)) ∧ (decode cX11_most 110 = .ok (.aload_n 0, 1)) ∧ (decode cX11_most 111 = .ok (.getfield 146, 3)) ∧ (decode cX11_most 114 = .ok (.iload 4, 2)) ∧ (decode cX11_most 116 = .ok (.iload 4, 2)) ∧ (decode cX11_most 118 = .ok (.iconst 1, 1)) := by decide +kernel
theorem dX11_most_91 : decode cX11_most 91 = .ok (.iaload, 1) := dgX11_most_48.1
theorem dX11_most_92 : decode cX11_most 92 = .ok (.iaload, 1) := dgX11_most_48.2.1
theorem dX11_most_93 : decode cX11_most 93 = .ok (.iadd, 1) := dgX11_most_48.2.2.1
theorem dX11_most_94 : decode cX11_most 94 = .ok (.iastore, 1) := dgX11_most_48.2.2.2.1
theorem dX11_most_95 : decode cX11_most 95 = .ok (.aload_n 0, 1) := dgX11_most_48.2.2.2.2.1
theorem dX11_most_96 : decode cX11_most 96 = .ok (.getfield 146, 3) := dgX11_most_48.2.2.2.2.2.1
theorem dX11_most_99 : decode cX11_most 99 = .ok (.iload 4, 2) := dgX11_most_48.2.2.2.2.2.2.1
theorem dX11_most_101 : decode cX11_most 101 = .ok (.iload 4, 2) := dgX11_most_48.2.2.2.2.2.2.2.1
theorem dX11_most_103 : decode cX11_most 103 = .ok (.ifCond .ne 7, 3) := dgX11_most_48.2.2.2.2.2.2.2.2.1
theorem dX11_most_106 : decode cX11_most 106 = .ok (.iconst 0, 1) := dgX11_most_48.2.2.2.2.2.2.2.2.2.1
theorem dX11_most_107 : decode cX11_most 107 = .ok (.goto 15, 3) := dgX11_most_48.2.2.2.2.2.2.2.2.2.2.1
theorem dX11_most_110 : decode cX11_most 110 = .ok (.aload_n 0, 1) := dgX11_most_48.2.2.2.2.2.2.2.2.2.2.2.1
theorem dX11_most_111 : decode cX11_most 111 = .ok (.getfield 146, 3) := dgX11_most_48.2.2.2.2.2.2.2.2.2.2.2.2.1
theorem dX11_most_114 : decode cX11_most 114 = .ok (.iload 4, 2) := dgX11_most_48.2.2.2.2.2.2.2.2.2.2.2.2.2.1
theorem dX11_most_116 : decode cX11_most 116 = .ok (.iload 4, 2) := dgX11_most_48.2.2.2.2.2.2.2.2.2.2.2.2.2.2.1
theorem dX11_most_118 : decode cX11_most 118 = .ok (.iconst 1, 1) := dgX11_most_48.2.2.2.2.2.2.2.2.2.2.2.2.2.2.2
theorem dgX11_most_64 : (decode cX11_most 119 = .ok (.isub, 1)) ∧ (decode cX11_most 120 = .ok (.iand, 1)) ∧ (decode cX11_most 121 = .ok (.baload, 1)) ∧ (decode cX11_most 122 = .ok (.bastore, 1)) ∧ (decode cX11_most 123 = .ok (.iload 4, 2)) ∧ (decode cX11_most 125 = .ok (.ifCond .ne 6, 3)) ∧ (decode cX11_most 128 = .ok (.goto 110, 3)) ∧ (decode cX11_most 131 = .ok (.iload 4, 2)) ∧ (decode cX11_most 133 = .ok (.iload 4, 2)) ∧ (decode cX11_most 135 = .ok (.iconst 1, 1)) ∧ (decode cX11_most 136 = .ok (.isub, 1)) ∧ (decode cX11_most 137 = .ok (.iand, 1)) ∧ (decode cX11_most 138 = .ok (.istore 6, 2)) ∧ (decode cX11_most 140 = .ok (.iload 6, 2)) ∧ (decode cX11_most 142 = .ok (.istore 7, 2)) ∧ (decode cX11_most 144 = .ok (.iload 7, 2)) := by decide +kernel
theorem dX11_most_119 : decode cX11_most 119 = .ok (.isub, 1) := dgX11_most_64.1
theorem dX11_most_120 : decode cX11_most 120 = .ok (.iand, 1) := dgX11_most_64.2.1
theorem dX11_most_121 : decode cX11_most 121 = .ok (.baload, 1) := dgX11_most_64.2.2.1
theorem dX11_most_122 : decode cX11_most 122 = .ok (.bastore, 1) := dgX11_most_64.2.2.2.1
theorem dX11_most_123 : decode cX11_most 123 = .ok (.iload 4, 2) := dgX11_most_64.2.2.2.2.1
theorem dX11_most_125 : decode cX11_most 125 = .ok (.ifCond .ne 6, 3) := dgX11_most_64.2.2.2.2.2.1
theorem dX11_most_128 : decode cX11_most 128 = .ok (.goto 110, 3) := dgX11_most_64.2.2.2.2.2.2.1
theorem dX11_most_131 : decode cX11_most 131 = .ok (.iload 4, 2) := dgX11_most_64.2.2.2.2.2.2.2.1
theorem dX11_most_133 : decode cX11_most 133 = .ok (.iload 4, 2) := dgX11_most_64.2.2.2.2.2.2.2.2.1
theorem dX11_most_135 : decode cX11_most 135 = .ok (.iconst 1, 1) := dgX11_most_64.2.2.2.2.2.2.2.2.2.1
theorem dX11_most_136 : decode cX11_most 136 = .ok (.isub, 1) := dgX11_most_64.2.2.2.2.2.2.2.2.2.2.1
theorem dX11_most_137 : decode cX11_most 137 = .ok (.iand, 1) := dgX11_most_64.2.2.2.2.2.2.2.2.2.2.2.1
theorem dX11_most_138 : decode cX11_most 138 = .ok (.istore 6, 2) := dgX11_most_64.2.2.2.2.2.2.2.2.2.2.2.2.1
theorem dX11_most_140 : decode cX11_most 140 = .ok (.iload 6, 2) := dgX11_most_64.2.2.2.2.2.2.2.2.2.2.2.2.2.1
theorem dX11_most_142 : decode cX11_most 142 = .ok (.istore 7, 2) := dgX11_most_64.2.2.2.2.2.2.2.2.2.2.2.2.2.2.1
theorem dX11_most_144 : decode cX11_most 144 = .ok (.iload 7, 2) := dgX11_most_64.2.2.2.2.2.2.2.2.2.2.2.2.2.2.2
theorem dgX11_most_80 : (decode cX11_most 146 = .ok (.ifCond .lt 92, 3)) ∧ (decode cX11_most 149 = .ok (.iload 7, 2)) ∧ (decode cX11_most 151 = .ok (.iconst 1, 1)) ∧ (decode cX11_most 152 = .ok (.iload 5, 2)) ∧ (decode cX11_most 154 = .ok (.ishl, 1)) ∧ (decode cX11_most 155 = .ok (.ior, 1)) ∧ (decode cX11_most 156 = .ok (.istore 8, 2)) ∧ (decode cX11_most 158 = .ok (.aload_n 0, 1)) ∧ (decode cX11_most 159 = .ok (.getfield 143, 3)) ∧ (decode cX11_most 162 = .ok (.iload 8, 2)) ∧ (decode cX11_most 164 = .ok (.iaload, 1)) ∧ (decode cX11_most 165 = .ok (.iload_n 1, 1)) ∧ (decode cX11_most 166 = .ok (.iload_n 1, 1)) ∧ (decode cX11_most 167 = .ok (.iload_n 2, 1)) ∧ (decode cX11_most 168 = .ok (.iadd, 1)) ∧ (decode cX11_most 169 = .ok (.invokestatic 156, 3)) := by decide +kernel
theorem dX11_most_146 : decode cX11_most 146 = .ok (.ifCond .lt 92, 3) := dgX11_most_80.1
theorem dX11_most_149 : decode cX11_most 149 = .ok (.iload 7, 2) := dgX11_most_80.2.1
theorem dX11_most_151 : decode cX11_most 151 = .ok (.iconst 1, 1) := dgX11_most_80.2.2.1
theorem dX11_most_152 : decode cX11_most 152 = .ok (.iload 5, 2) := dgX11_most_80.2.2.2.1
theorem dX11_most_154 : decode cX11_most 154 = .ok (.ishl, 1) := dgX11_most_80.2.2.2.2.1
theorem dX11_most_155 : decode cX11_most 155 = .ok (.ior, 1) := dgX11_most_80.2.2.2.2.2.1
theorem dX11_most_156 : decode cX11_most 156 = .ok (.istore 8, 2) := dgX11_most_80.2.2.2.2.2.2.1
theorem dX11_most_158 : decode cX11_most 158 = .ok (.aload_n 0, 1) := dgX11_most_80.2.2.2.2.2.2.2.1
theorem dX11_most_159 : decode cX11_most 159 = .ok (.getfield 143, 3) := dgX11_most_80.2.2.2.2.2.2.2.2.1
theorem dX11_most_162 : decode cX11_most 162 = .ok (.iload 8, 2) := dgX11_most_80.2.2.2.2.2.2.2.2.2.1
theorem dX11_most_164 : decode cX11_most 164 = .ok (.iaload, 1) := dgX11_most_80.2.2.2.2.2.2.2.2.2.2.1
theorem dX11_most_165 : decode cX11_most 165 = .ok (.iload_n 1, 1) := dgX11_most_80.2.2.2.2.2.2.2.2.2.2.2.1
theorem dX11_most_166 : decode cX11_most 166 = .ok (.iload_n 1, 1) := dgX11_most_80.2.2.2.2.2.2.2.2.2.2.2.2.1
theorem dX11_most_167 : decode cX11_most 167 = .ok (.iload_n 2, 1) := dgX11_most_80.2.2.2.2.2.2.2.2.2.2.2.2.2.1
theorem dX11_most_168 : decode cX11_most 168 = .ok (.iadd, 1) := dgX11_most_80.2.2.2.2.2.2.2.2.2.2.2.2.2.2.1
theorem dX11_most_169 : decode cX11_most 169 = .ok (.invokestatic 156, 3) := dgX11_most_80.2.2.2.2.2.2.2.2.2.2.2.2.2.2.2
theorem dgX11_most_96 : (decode cX11_most 172 = .ok (.ifCond .eq 45, 3)) ∧ (decode cX11_most 175 = .ok (.aload_n 0, 1)) ∧ (decode cX11_most 176 = .ok (.getfield 146, 3)) ∧ (decode cX11_most 179 = .ok (.iload 4, 2)) ∧ (decode cX11_most 181 = .ok (.iload 8, 2)) ∧ (decode cX11_most 183 = .ok (.ixor, 1)) ∧ (decode cX11_most 184 = .ok (.baload, 1)) ∧ (decode cX11_most 185 = .ok (.iconst 1, 1)) ∧ (decode cX11_most 186 = .ok (.iadd, 1)) ∧ (decode cX11_most 187 = .ok (.aload_n 0, 1)) ∧ (decode cX11_most 188 = .ok (.getfield 146, 3)) ∧ (decode cX11_most 191 = .ok (.iload 4, 2)) ∧ (decode cX11_most 193 = .ok (.baload, 1)) ∧ (decode cX11_most 194 = .ok (.if_icmp .le 23, 3)) ∧ (decode cX11_most 197 = .ok (.aload_n 0, 1)) ∧ (decode cX11_most 198 = .ok (.getfield 146, 3)) := by decide +kernel
theorem dX11_most_172 : decode cX11_most 172 = .ok (.ifCond .eq 45, 3) := dgX11_most_96.1
theorem dX11_most_175 : decode cX11_most 175 = .ok (.aload_n 0, 1) := dgX11_most_96.2.1
theorem dX11_most_176 : decode cX11_most 176 = .ok (.getfield 146, 3) := dgX11_most_96.2.2.1
theorem dX11_most_179 : decode cX11_most 179 = .ok (.iload 4, 2) := dgX11_most_96.2.2.2.1
theorem dX11_most_181 : decode cX11_most 181 = .ok (.iload 8, 2) := dgX11_most_96.2.2.2.2.1
theorem dX11_most_183 : decode cX11_most 183 = .ok (.ixor, 1) := dgX11_most_96.2.2.2.2.2.1
theorem dX11_most_184 : decode cX11_most 184 = .ok (.baload, 1) := dgX11_most_96.2.2.2.2.2.2.1
theorem dX11_most_185 : decode cX11_most 185 = .ok (.iconst 1, 1) := dgX11_most_96.2.2.2.2.2.2.2.1
theorem dX11_most_186 : decode cX11_most 186 = .ok (.iadd, 1) := dgX11_most_96.2.2.2.2.2.2.2.2.1
theorem dX11_most_187 : decode cX11_most 187 = .ok (.aload_n 0, 1) := dgX11_most_96.2.2.2.2.2.2.2.2.2.1
theorem dX11_most_188 : decode cX11_most 188 = .ok (.getfield 146, 3) := dgX11_most_96.2.2.2.2.2.2.2.2.2.2.1
theorem dX11_most_191 : decode cX11_most 191 = .ok (.iload 4, 2) := dgX11_most_96.2.2.2.2.2.2.2.2.2.2.2.1
theorem dX11_most_193 : decode cX11_most 193 = .ok (.baload, 1) := dgX11_most_96.2.2.2.2.2.2.2.2.2.2.2.2.1
theorem dX11_most_194 : decode cX11_most 194 = .ok (.if_icmp .le 23, 3) := dgX11_most_96.2.2.2.2.2.2.2.2.2.2.2.2.2.1
theorem dX11_most_197 : decode cX11_most 197 = .ok (.aload_n 0, 1) := dgX11_most_96.2.2.2.2.2.2.2.2.2.2.2.2.2.2.1
theorem dX11_most_198 : decode cX11_most 198 = .ok (.getfield 146, 3) := dgX11_most_96.2.2.2.2.2.2.2.2.2.2.2.2.2.2.2
theorem dgX11_most_112 : (decode cX11_most 201 = .ok (.iload 4, 2)) ∧ (decode cX11_most 203 = .ok (.aload_n 0, 1)) ∧ (decode cX11_most 204 = .ok (.getfield 146, 3)) ∧ (decode cX11_most 207 = .ok (.iload 4, 2)) ∧ (decode cX11_most 209 = .ok (.iload 8, 2)) ∧ (decode cX11_most 211 = .ok (.ixor, 1)) ∧ (decode cX11_most 212 = .ok (.baload, 1)) ∧ (decode cX11_most 213 = .ok (.iconst 1, 1)) ∧ (decode cX11_most 214 = .ok (.iadd, 1)) ∧ (decode cX11_most 215 = .ok (.i2b, 1)) ∧ (decode cX11_most 216 = .ok (.bastore, 1)) ∧ (decode cX11_most 217 = .ok (.iload 7, 2)) ∧ (decode cX11_most 219 = .ok (.ifCond .ne 7, 3)) ∧ (decode cX11_most 222 = .ok (.iconst (-1), 1)) ∧ (decode cX11_most 223 = .ok (.goto 10, 3)) ∧ (decode cX11_most 226 = .ok (.iload 7, 2)) := by decide +kernel
theorem dX11_most_201 : decode cX11_most 201 = .ok (.iload 4, 2) := dgX11_most_112.1
theorem dX11_most_203 : decode cX11_most 203 = .ok (.aload_n 0, 1) := dgX11_most_112.2.1
theorem dX11_most_204 : decode cX11_most 204 = .ok (.getfield 146, 3) := dgX11_most_112.2.2.1
theorem dX11_most_207 : decode cX11_most 207 = .ok (.iload 4, 2) := dgX11_most_112.2.2.2.1
theorem dX11_most_209 : decode cX11_most 209 = .ok (.iload 8, 2) := dgX11_most_112.2.2.2.2.1
theorem dX11_most_211 : decode cX11_most 211 = .ok (.ixor, 1) := dgX11_most_112.2.2.2.2.2.1
theorem dX11_most_212 : decode cX11_most 212 = .ok (.baload, 1) := dgX11_most_112.2.2.2.2.2.2.1
theorem dX11_most_213 : decode cX11_most 213 = .ok (.iconst 1, 1) := dgX11_most_112.2.2.2.2.2.2.2.1
theorem dX11_most_214 : decode cX11_most 214 = .ok (.iadd, 1) := dgX11_most_112.2.2.2.2.2.2.2.2.1
theorem dX11_most_215 : decode cX11_most 215 = .ok (.i2b, 1) := dgX11_most_112.2.2.2.2.2.2.2.2.2.1
theorem dX11_most_216 : decode cX11_most 216 = .ok (.bastore, 1) := dgX11_most_112.2.2.2.2.2.2.2.2.2.2.1
theorem dX11_most_217 : decode cX11_most 217 = .ok (.iload 7, 2) := dgX11_most_112.2.2.2.2.2.2.2.2.2.2.2.1
theorem dX11_most_219 : decode cX11_most 219 = .ok (.ifCond .ne 7, 3) := dgX11_most_112.2.2.2.2.2.2.2.2.2.2.2.2.1
theorem dX11_most_222 : decode cX11_most 222 = .ok (.iconst (-1), 1) := dgX11_most_112.2.2.2.2.2.2.2.2.2.2.2.2.2.1
theorem dX11_most_223 : decode cX11_most 223 = .ok (.goto 10, 3) := dgX11_most_112.2.2.2.2.2.2.2.2.2.2.2.2.2.2.1
theorem dX11_most_226 : decode cX11_most 226 = .ok (.iload 7, 2) := dgX11_most_112.2.2.2.2.2.2.2.2.2.2.2.2.2.2.2
theorem dgX11_most_128 : (decode cX11_most 228 = .ok (.iconst 1, 1)) ∧ (decode cX11_most 229 = .ok (.isub, 1)) ∧ (decode cX11_most 230 = .ok (.iload 6, 2)) ∧ (decode cX11_most 232 = .ok (.iand, 1)) ∧ (decode cX11_most 233 = .ok (.istore 7, 2)) ∧ (decode cX11_most 235 = .ok (.goto (-91), 3)) ∧ (decode cX11_most 238 = .ok (.iinc 4 1, 3)) ∧ (decode cX11_most 241 = .ok (.goto (-219), 3)) ∧ (decode cX11_most 244 = .ok (.aload_n 0, 1)) ∧ (decode cX11_most 245 = .ok (.getfield 146, 3)) ∧ (decode cX11_most 248 = .ok (.iconst 1, 1)) ∧ (decode cX11_most 249 = .ok (.iload_n 3, 1)) ∧ (decode cX11_most 250 = .ok (.ishl, 1)) ∧ (decode cX11_most 251 = .ok (.iconst 1, 1)) ∧ (decode cX11_most 252 = .ok (.isub, 1)) ∧ (decode cX11_most 253 = .ok (.baload, 1)) := by decide +kernel
theorem dX11_most_228 : decode cX11_most 228 = .ok (.iconst 1, 1) := dgX11_most_128.1
theorem dX11_most_229 : decode cX11_most 229 = .ok (.isub, 1) := dgX11_most_128.2.1
theorem dX11_most_230 : decode cX11_most 230 = .ok (.iload 6, 2) := dgX11_most_128.2.2.1
theorem dX11_most_232 : decode cX11_most 232 = .ok (.iand, 1) := dgX11_most_128.2.2.2.1
theorem dX11_most_233 : decode cX11_most 233 = .ok (.istore 7, 2) := dgX11_most_128.2.2.2.2.1
theorem dX11_most_235 : decode cX11_most 235 = .ok (.goto (-91), 3) := dgX11_most_128.2.2.2.2.2.1
theorem dX11_most_238 : decode cX11_most 238 = .ok (.iinc 4 1, 3) := dgX11_most_128.2.2.2.2.2.2.1
theorem dX11_most_241 : decode cX11_most 241 = .ok (.goto (-219), 3) := dgX11_most_128.2.2.2.2.2.2.2.1
theorem dX11_most_244 : decode cX11_most 244 = .ok (.aload_n 0, 1) := dgX11_most_128.2.2.2.2.2.2.2.2.1
theorem dX11_most_245 : decode cX11_most 245 = .ok (.getfield 146, 3) := dgX11_most_128.2.2.2.2.2.2.2.2.2.1
theorem dX11_most_248 : decode cX11_most 248 = .ok (.iconst 1, 1) := dgX11_most_128.2.2.2.2.2.2.2.2.2.2.1
theorem dX11_most_249 : decode cX11_most 249 = .ok (.iload_n 3, 1) := dgX11_most_128.2.2.2.2.2.2.2.2.2.2.2.1
theorem dX11_most_250 : decode cX11_most 250 = .ok (.ishl, 1) := dgX11_most_128.2.2.2.2.2.2.2.2.2.2.2.2.1
theorem dX11_most_251 : decode cX11_most 251 = .ok (.iconst 1, 1) := dgX11_most_128.2.2.2.2.2.2.2.2.2.2.2.2.2.1
theorem dX11_most_252 : decode cX11_most 252 = .ok (.isub, 1) := dgX11_most_128.2.2.2.2.2.2.2.2.2.2.2.2.2.2.1
theorem dX11_most_253 : decode cX11_most 253 = .ok (.baload, 1) := dgX11_most_128.2.2.2.2.2.2.2.2.2.2.2.2.2.2.2
theorem dX11_most_254 : decode cX11_most 254 = .ok (.ireturn, 1) := by decide +kernel
theorem dgX11_would_0 : (decode cX11_would 0 = .ok (.iload_n 1, 1)) ∧ (decode cX11_would 1 = .ok (.iload_n 2, 1)) ∧ (decode cX11_would 2 = .ok (.iload_n 3, 1)) ∧ (decode cX11_would 3 = .ok (.invokestatic 232, 3)) ∧ (decode cX11_would 6 = .ok (.ifCond .ne 5, 3)) ∧ (decode cX11_would 9 = .ok (.iconst (-1), 1)) ∧ (decode cX11_would 10 = .ok (.ireturn, 1)) ∧ (decode cX11_would 11 = .ok (.aload_n 0, 1)) ∧ (decode cX11_would 12 = .ok (.iload_n 1, 1)) ∧ (decode cX11_would 13 = .ok (.invokevirtual 238, 3)) ∧ (decode cX11_would 16 = .ok (.iload 4, 2)) ∧ (decode cX11_would 18 = .ok (.iconst 4, 1)) ∧ (decode cX11_would 19 = .ok (.if_icmp .ne 8, 3)) ∧ (decode cX11_would 22 = .ok (.aload_n 0, 1)) ∧ (decode cX11_would 23 = .ok (.getfield 222, 3)) ∧ (decode cX11_would 26 = .ok (.ireturn, 1)) := by decide +kernel
theorem dX11_would_0 : decode cX11_would 0 = .ok (.iload_n 1, 1) := dgX11_would_0.1
theorem dX11_would_1 : decode cX11_would 1 = .ok (.iload_n 2, 1) := dgX11_would_0.2.1
theorem dX11_would_2 : decode cX11_would 2 = .ok (.iload_n 3, 1) := dgX11_would_0.2.2.1
theorem dX11_would_3 : decode cX11_would 3 = .ok (.invokestatic 232, 3) := dgX11_would_0.2.2.2.1
theorem dX11_would_6 : decode cX11_would 6 = .ok (.ifCond .ne 5, 3) := dgX11_would_0.2.2.2.2.1
theorem dX11_would_9 : decode cX11_would 9 = .ok (.iconst (-1), 1) := dgX11_would_0.2.2.2.2.2.1
theorem dX11_would_10 : decode cX11_would 10 = .ok (.ireturn, 1) := dgX11_would_0.2.2.2.2.2.2.1
theorem dX11_would_11 : decode cX11_would 11 = .ok (.aload_n 0, 1) := dgX11_would_0.2.2.2.2.2.2.2.1
theorem dX11_would_12 : decode cX11_would 12 = .ok (.iload_n 1, 1) := dgX11_would_0.2.2.2.2.2.2.2.2.1
theorem dX11_would_13 : decode cX11_would 13 = .ok (.invokevirtual 238, 3) := dgX11_would_0.2.2.2.2.2.2.2.2.2.1
theorem dX11_would_16 : decode cX11_would 16 = .ok (.iload 4, 2) := dgX11_would_0.2.2.2.2.2.2.2.2.2.2.1
theorem dX11_would_18 : decode cX11_would 18 = .ok (.iconst 4, 1) := dgX11_would_0.2.2.2.2.2.2.2.2.2.2.2.1
theorem dX11_would_19 : decode cX11_would 19 = .ok (.if_icmp .ne 8, 3) := dgX11_would_0.2.2.2.2.2.2.2.2.2.2.2.2.1
theorem dX11_would_22 : decode cX11_would 22 = .ok (.aload_n 0, 1) := dgX11_would_0.2.2.2.2.2.2.2.2.2.2.2.2.2.1
theorem dX11_would_23 : decode cX11_would 23 = .ok (.getfield 222, 3) := dgX11_would_0.2.2.2.2.2.2.2.2.2.2.2.2.2.2.1
theorem dX11_would_26 : decode cX11_would 26 = .ok (.ireturn, 1) := dgX11_would_0.2.2.2.2.2.2.2.2.2.2.2.2.2.2.2
theorem dgX11_would_16 : (decode cX11_would 27 = .ok (.iload 4, 2)) ∧ (decode cX11_would 29 = .ok (.iconst 3, 1)) ∧ (decode cX11_would 30 = .ok (.if_icmp .ne 10, 3)) ∧ (decode cX11_would 33 = .ok (.aload_n 0, 1)) ∧ (decode cX11_would 34 = .ok (.iload_n 2, 1)) ∧ (decode cX11_would 35 = .ok (.iload_n 3, 1)) ∧ (decode cX11_would 36 = .ok (.invokevirtual 250, 3)) ∧ (decode cX11_would 39 = .ok (.ireturn, 1)) ∧ (decode cX11_would 40 = .ok (.iload 4, 2)) ∧ (decode cX11_would 42 = .ok (.iconst 2, 1)) ∧ (decode cX11_would 43 = .ok (.if_icmp .ne 10, 3)) ∧ (decode cX11_would 46 = .ok (.aload_n 0, 1)) ∧ (decode cX11_would 47 = .ok (.iload_n 2, 1)) ∧ (decode cX11_would 48 = .ok (.iload_n 3, 1)) ∧ (decode cX11_would 49 = .ok (.invokevirtual 253, 3)) ∧ (decode cX11_would 52 = .ok (.ireturn, 1)) := by decide +kernel
theorem dX11_would_27 : decode cX11_would 27 = .ok (.iload 4, 2) := dgX11_would_16.1
theorem dX11_would_29 : decode cX11_would 29 = .ok (.iconst 3, 1) := dgX11_would_16.2.1
theorem dX11_would_30 : decode cX11_would 30 = .ok (.if_icmp .ne 10, 3) := dgX11_would_16.2.2.1
theorem dX11_would_33 : decode cX11_would 33 = .ok (.aload_n 0, 1) := dgX11_would_16.2.2.2.1
theorem dX11_would_34 : decode cX11_would 34 = .ok (.iload_n 2, 1) := dgX11_would_16.2.2.2.2.1
theorem dX11_would_35 : decode cX11_would 35 = .ok (.iload_n 3, 1) := dgX11_would_16.2.2.2.2.2.1
theorem dX11_would_36 : decode cX11_would 36 = .ok (.invokevirtual 250, 3) := dgX11_would_16.2.2.2.2.2.2.1
theorem dX11_would_39 : decode cX11_would 39 = .ok (.ireturn, 1) := dgX11_would_16.2.2.2.2.2.2.2.1
theorem dX11_would_40 : decode cX11_would 40 = .ok (.iload 4, 2) := dgX11_would_16.2.2.2.2.2.2.2.2.1
theorem dX11_would_42 : decode cX11_would 42 = .ok (.iconst 2, 1) := dgX11_would_16.2.2.2.2.2.2.2.2.2.1
theorem dX11_would_43 : decode cX11_would 43 = .ok (.if_icmp .ne 10, 3) := dgX11_would_16.2.2.2.2.2.2.2.2.2.2.1
theorem dX11_would_46 : decode cX11_would 46 = .ok (.aload_n 0, 1) := dgX11_would_16.2.2.2.2.2.2.2.2.2.2.2.1
theorem dX11_would_47 : decode cX11_would 47 = .ok (.iload_n 2, 1) := dgX11_would_16.2.2.2.2.2.2.2.2.2.2.2.2.1
theorem dX11_would_48 : decode cX11_would 48 = .ok (.iload_n 3, 1) := dgX11_would_16.2.2.2.2.2.2.2.2.2.2.2.2.2.1
theorem dX11_would_49 : decode cX11_would 49 = .ok (.invokevirtual 253, 3) := dgX11_would_16.2.2.2.2.2.2.2.2.2.2.2.2.2.2.1
theorem dX11_would_52 : decode cX11_would 52 = .ok (.ireturn, 1) := dgX11_would_16.2.2.2.2.2.2.2.2.2.2.2.2.2.2.2
theorem dgX11_would_32 : (decode cX11_would 53 = .ok (.iload 4, 2)) ∧ (decode cX11_would 55 = .ok (.ifCond .eq 11, 3)) ∧ (decode cX11_would 58 = .ok (.iload 4, 2)) ∧ (decode cX11_would 60 = .ok (.iconst 1, 1)) ∧ (decode cX11_would 61 = .ok (.if_icmp .eq 5, 3)) ∧ (decode cX11_would 64 = .ok (.iconst (-1), 1)) ∧ (decode cX11_would 65 = .ok (.ireturn, 1)) ∧ (decode cX11_would 66 = .ok (.aload_n 0, 1)) ∧ (decode cX11_would 67 = .ok (.invokevirtual 241, 3)) ∧ (decode cX11_would 70 = .ok (.aload_n 0, 1)) ∧ (decode cX11_would 71 = .ok (.iload_n 2, 1)) ∧ (decode cX11_would 72 = .ok (.iload_n 3, 1)) ∧ (decode cX11_would 73 = .ok (.invokevirtual 244, 3)) ∧ (decode cX11_would 76 = .ok (.istore 5, 2)) ∧ (decode cX11_would 78 = .ok (.iload 5, 2)) ∧ (decode cX11_would 80 = .ok (.ifCond .ge 5, 3)) := by decide +kernel
theorem dX11_would_53 : decode cX11_would 53 = .ok (.iload 4, 2) := dgX11_would_32.1
theorem dX11_would_55 : decode cX11_would 55 = .ok (.ifCond .eq 11, 3) := dgX11_would_32.2.1
theorem dX11_would_58 : decode cX11_would 58 = .ok (.iload 4, 2) := dgX11_would_32.2.2.1
theorem dX11_would_60 : decode cX11_would 60 = .ok (.iconst 1, 1) := dgX11_would_32.2.2.2.1
theorem dX11_would_61 : decode cX11_would 61 = .ok (.if_icmp .eq 5, 3) := dgX11_would_32.2.2.2.2.1
theorem dX11_would_64 : decode cX11_would 64 = .ok (.iconst (-1), 1) := dgX11_would_32.2.2.2.2.2.1
theorem dX11_would_65 : decode cX11_would 65 = .ok (.ireturn, 1) := dgX11_would_32.2.2.2.2.2.2.1
theorem dX11_would_66 : decode cX11_would 66 = .ok (.aload_n 0, 1) := dgX11_would_32.2.2.2.2.2.2.2.1
theorem dX11_would_67 : decode cX11_would 67 = .ok (.invokevirtual 241, 3) := dgX11_would_32.2.2.2.2.2.2.2.2.1
theorem dX11_would_70 : decode cX11_would 70 = .ok (.aload_n 0, 1) := dgX11_would_32.2.2.2.2.2.2.2.2.2.1
theorem dX11_would_71 : decode cX11_would 71 = .ok (.iload_n 2, 1) := dgX11_would_32.2.2.2.2.2.2.2.2.2.2.1
theorem dX11_would_72 : decode cX11_would 72 = .ok (.iload_n 3, 1) := dgX11_would_32.2.2.2.2.2.2.2.2.2.2.2.1
theorem dX11_would_73 : decode cX11_would 73 = .ok (.invokevirtual 244, 3) := dgX11_would_32.2.2.2.2.2.2.2.2.2.2.2.2.1
theorem dX11_would_76 : decode cX11_would 76 = .ok (.istore 5, 2) := dgX11_would_32.2.2.2.2.2.2.2.2.2.2.2.2.2.1
theorem dX11_would_78 : decode cX11_would 78 = .ok (.iload 5, 2) := dgX11_would_32.2.2.2.2.2.2.2.2.2.2.2.2.2.2.1
theorem dX11_would_80 : decode cX11_would 80 = .ok (.ifCond .ge 5, 3) := dgX11_would_32.2.2.2.2.2.2.2.2.2.2.2.2.2.2.2
theorem dgX11_would_48 : (decode cX11_would 83 = .ok (.iconst (-1), 1)) ∧ (decode cX11_would 84 = .ok (.ireturn, 1)) ∧ (decode cX11_would 85 = .ok (.iload 4, 2)) ∧ (decode cX11_would 87 = .ok (.ifCond .ne 10, 3)) ∧ (decode cX11_would 90 = .ok (.iload 5, 2)) ∧ (decode cX11_would 92 = .ok (.iload_n 2, 1)) ∧ (decode cX11_would 93 = .ok (.isub, 1)) ∧ (decode cX11_would 94 = .ok (.goto 9, 3)) ∧ (decode cX11_would 97 = .ok (.aload_n 0, 1)) ∧ (decode cX11_would 98 = .ok (.iload 5, 2)) ∧ (decode cX11_would 100 = .ok (.invokevirtual 247, 3)) ∧ (decode cX11_would 103 = .ok (.ireturn, 1)) := by decide +kernel
theorem dX11_would_83 : decode cX11_would 83 = .ok (.iconst (-1), 1) := dgX11_would_48.1
theorem dX11_would_84 : decode cX11_would 84 = .ok (.ireturn, 1) := dgX11_would_48.2.1
theorem dX11_would_85 : decode cX11_would 85 = .ok (.iload 4, 2) := dgX11_would_48.2.2.1
theorem dX11_would_87 : decode cX11_would 87 = .ok (.ifCond .ne 10, 3) := dgX11_would_48.2.2.2.1
theorem dX11_would_90 : decode cX11_would 90 = .ok (.iload 5, 2) := dgX11_would_48.2.2.2.2.1
theorem dX11_would_92 : decode cX11_would 92 = .ok (.iload_n 2, 1) := dgX11_would_48.2.2.2.2.2.1
theorem dX11_would_93 : decode cX11_would 93 = .ok (.isub, 1) := dgX11_would_48.2.2.2.2.2.2.1
theorem dX11_would_94 : decode cX11_would 94 = .ok (.goto 9, 3) := dgX11_would_48.2.2.2.2.2.2.2.1
theorem dX11_would_97 : decode cX11_would 97 = .ok (.aload_n 0, 1) := dgX11_would_48.2.2.2.2.2.2.2.2.1
theorem dX11_would_98 : decode cX11_would 98 = .ok (.iload 5, 2) := dgX11_would_48.2.2.2.2.2.2.2.2.2.1
theorem dX11_would_100 : decode cX11_would 100 = .ok (.invokevirtual 247, 3) := dgX11_would_48.2.2.2.2.2.2.2.2.2.2.1
theorem dX11_would_103 : decode cX11_would 103 = .ok (.ireturn, 1) := dgX11_would_48.2.2.2.2.2.2.2.2.2.2.2
theorem dgX11_isInBox_0 : (decode cX11_isInBox 0 = .ok (.aload_n 0, 1)) ∧ (decode cX11_isInBox 1 = .ok (.getfield 115, 3)) ∧ (decode cX11_isInBox 4 = .ok (.iload_n 1, 1)) ∧ (decode cX11_isInBox 5 = .ok (.iaload, 1)) ∧ (decode cX11_isInBox 6 = .ok (.iconst 2, 1)) ∧ (decode cX11_isInBox 7 = .ok (.if_icmp .ne 17, 3)) ∧ (decode cX11_isInBox 10 = .ok (.aload_n 0, 1)) ∧ (decode cX11_isInBox 11 = .ok (.getfield 118, 3)) ∧ (decode cX11_isInBox 14 = .ok (.iload_n 1, 1)) ∧ (decode cX11_isInBox 15 = .ok (.iaload, 1)) ∧ (decode cX11_isInBox 16 = .ok (.iload_n 2, 1)) ∧ (decode cX11_isInBox 17 = .ok (.if_icmp .ne 7, 3)) ∧ (decode cX11_isInBox 20 = .ok (.iconst 1, 1)) ∧ (decode cX11_isInBox 21 = .ok (.goto 4, 3)) ∧ (decode cX11_isInBox 24 = .ok (.iconst 0, 1)) ∧ (decode cX11_isInBox 25 = .ok (.ireturn, 1)) := by decide +kernel
theorem dX11_isInBox_0 : decode cX11_isInBox 0 = .ok (.aload_n 0, 1) := dgX11_isInBox_0.1
theorem dX11_isInBox_1 : decode cX11_isInBox 1 = .ok (.getfield 115, 3) := dgX11_isInBox_0.2.1
theorem dX11_isInBox_4 : decode cX11_isInBox 4 = .ok (.iload_n 1, 1) := dgX11_isInBox_0.2.2.1
theorem dX11_isInBox_5 : decode cX11_isInBox 5 = .ok (.iaload, 1) := dgX11_isInBox_0.2.2.2.1
theorem dX11_isInBox_6 : decode cX11_isInBox 6 = .ok (.iconst 2, 1) := dgX11_isInBox_0.2.2.2.2.1
theorem dX11_isInBox_7 : decode cX11_isInBox 7 = .ok (.if_icmp .ne 17, 3) := dgX11_isInBox_0.2.2.2.2.2.1
theorem dX11_isInBox_10 : decode cX11_isInBox 10 = .ok (.aload_n 0, 1) := dgX11_isInBox_0.2.2.2.2.2.2.1
theorem dX11_isInBox_11 : decode cX11_isInBox 11 = .ok (.getfield 118, 3) := dgX11_isInBox_0.2.2.2.2.2.2.2.1
theorem dX11_isInBox_14 : decode cX11_isInBox 14 = .ok (.iload_n 1, 1) := dgX11_isInBox_0.2.2.2.2.2.2.2.2.1
theorem dX11_isInBox_15 : decode cX11_isInBox 15 = .ok (.iaload, 1) := dgX11_isInBox_0.2.2.2.2.2.2.2.2.2.1
theorem dX11_isInBox_16 : decode cX11_isInBox 16 = .ok (.iload_n 2, 1) := dgX11_isInBox_0.2.2.2.2.2.2.2.2.2.2.1
theorem dX11_isInBox_17 : decode cX11_isInBox 17 = .ok (.if_icmp .ne 7, 3) := dgX11_isInBox_0.2.2.2.2.2.2.2.2.2.2.2.1
theorem dX11_isInBox_20 : decode cX11_isInBox 20 = .ok (.iconst 1, 1) := dgX11_isInBox_0.2.2.2.2.2.2.2.2.2.2.2.2.1
theorem dX11_isInBox_21 : decode cX11_isInBox 21 = .ok (.goto 4, 3) := dgX11_isInBox_0.2.2.2.2.2.2.2.2.2.2.2.2.2.1
theorem dX11_isInBox_24 : decode cX11_isInBox 24 = .ok (.iconst 0, 1) := dgX11_isInBox_0.2.2.2.2.2.2.2.2.2.2.2.2.2.2.1
theorem dX11_isInBox_25 : decode cX11_isInBox 25 = .ok (.ireturn, 1) := dgX11_isInBox_0.2.2.2.2.2.2.2.2.2.2.2.2.2.2.2
theorem dgX11_hasLot_0 : (decode cX11_hasLot 0 = .ok (.iload_n 1, 1)) ∧ (decode cX11_hasLot 1 = .ok (.ifCond .lt 21, 3)) ∧ (decode cX11_hasLot 4 = .ok (.aload_n 0, 1)) ∧ (decode cX11_hasLot 5 = .ok (.getfield 59, 3)) ∧ (decode cX11_hasLot 8 = .ok (.bipush 40, 2)) ∧ (decode cX11_hasLot 10 = .ok (.iload_n 1, 1)) ∧ (decode cX11_hasLot 11 = .ok (.imul, 1)) ∧ (decode cX11_hasLot 12 = .ok (.iload_n 2, 1)) ∧ (decode cX11_hasLot 13 = .ok (.iadd, 1)) ∧ (decode cX11_hasLot 14 = .ok (.iaload, 1)) ∧ (decode cX11_hasLot 15 = .ok (.ifCond .le 7, 3)) ∧ (decode cX11_hasLot 18 = .ok (.iconst 1, 1)) ∧ (decode cX11_hasLot 19 = .ok (.goto 4, 3)) ∧ (decode cX11_hasLot 22 = .ok (.iconst 0, 1)) ∧ (decode cX11_hasLot 23 = .ok (.ireturn, 1)) := by decide +kernel
theorem dX11_hasLot_0 : decode cX11_hasLot 0 = .ok (.iload_n 1, 1) := dgX11_hasLot_0.1
theorem dX11_hasLot_1 : decode cX11_hasLot 1 = .ok (.ifCond .lt 21, 3) := dgX11_hasLot_0.2.1
theorem dX11_hasLot_4 : decode cX11_hasLot 4 = .ok (.aload_n 0, 1) := dgX11_hasLot_0.2.2.1
theorem dX11_hasLot_5 : decode cX11_hasLot 5 = .ok (.getfield 59, 3) := dgX11_hasLot_0.2.2.2.1
theorem dX11_hasLot_8 : decode cX11_hasLot 8 = .ok (.bipush 40, 2) := dgX11_hasLot_0.2.2.2.2.1
theorem dX11_hasLot_10 : decode cX11_hasLot 10 = .ok (.iload_n 1, 1) := dgX11_hasLot_0.2.2.2.2.2.1
theorem dX11_hasLot_11 : decode cX11_hasLot 11 = .ok (.imul, 1) := dgX11_hasLot_0.2.2.2.2.2.2.1
theorem dX11_hasLot_12 : decode cX11_hasLot 12 = .ok (.iload_n 2, 1) := dgX11_hasLot_0.2.2.2.2.2.2.2.1
theorem dX11_hasLot_13 : decode cX11_hasLot 13 = .ok (.iadd, 1) := dgX11_hasLot_0.2.2.2.2.2.2.2.2.1
theorem dX11_hasLot_14 : decode cX11_hasLot 14 = .ok (.iaload, 1) := dgX11_hasLot_0.2.2.2.2.2.2.2.2.2.1
theorem dX11_hasLot_15 : decode cX11_hasLot 15 = .ok (.ifCond .le 7, 3) := dgX11_hasLot_0.2.2.2.2.2.2.2.2.2.2.1
theorem dX11_hasLot_18 : decode cX11_hasLot 18 = .ok (.iconst 1, 1) := dgX11_hasLot_0.2.2.2.2.2.2.2.2.2.2.2.1
theorem dX11_hasLot_19 : decode cX11_hasLot 19 = .ok (.goto 4, 3) := dgX11_hasLot_0.2.2.2.2.2.2.2.2.2.2.2.2.1
theorem dX11_hasLot_22 : decode cX11_hasLot 22 = .ok (.iconst 0, 1) := dgX11_hasLot_0.2.2.2.2.2.2.2.2.2.2.2.2.2.1
theorem dX11_hasLot_23 : decode cX11_hasLot 23 = .ok (.ireturn, 1) := dgX11_hasLot_0.2.2.2.2.2.2.2.2.2.2.2.2.2.2
theorem dgX11_pieceHas_0 : (decode cX11_pieceHas 0 = .ok (.aload_n 0, 1)) ∧ (decode cX11_pieceHas 1 = .ok (.aload_n 0, 1)) ∧ (decode cX11_pieceHas 2 = .ok (.getfield 100, 3)) ∧ (decode cX11_pieceHas 5 = .ok (.iload_n 1, 1)) ∧ (decode cX11_pieceHas 6 = .ok (.iaload, 1)) ∧ (decode cX11_pieceHas 7 = .ok (.iload_n 2, 1)) ∧ (decode cX11_pieceHas 8 = .ok (.invokevirtual 256, 3)) ∧ (decode cX11_pieceHas 11 = .ok (.ifCond .ne 17, 3)) ∧ (decode cX11_pieceHas 14 = .ok (.aload_n 0, 1)) ∧ (decode cX11_pieceHas 15 = .ok (.aload_n 0, 1)) ∧ (decode cX11_pieceHas 16 = .ok (.getfield 106, 3)) ∧ (decode cX11_pieceHas 19 = .ok (.iload_n 1, 1)) ∧ (decode cX11_pieceHas 20 = .ok (.iaload, 1)) ∧ (decode cX11_pieceHas 21 = .ok (.iload_n 2, 1)) ∧ (decode cX11_pieceHas 22 = .ok (.invokevirtual 256, 3)) ∧ (decode cX11_pieceHas 25 = .ok (.ifCond .eq 7, 3)) := by decide +kernel
theorem dX11_pieceHas_0 : decode cX11_pieceHas 0 = .ok (.aload_n 0, 1) := dgX11_pieceHas_0.1
theorem dX11_pieceHas_1 : decode cX11_pieceHas 1 = .ok (.aload_n 0, 1) := dgX11_pieceHas_0.2.1
theorem dX11_pieceHas_2 : decode cX11_pieceHas 2 = .ok (.getfield 100, 3) := dgX11_pieceHas_0.2.2.1
theorem dX11_pieceHas_5 : decode cX11_pieceHas 5 = .ok (.iload_n 1, 1) := dgX11_pieceHas_0.2.2.2.1
theorem dX11_pieceHas_6 : decode cX11_pieceHas 6 = .ok (.iaload, 1) := dgX11_pieceHas_0.2.2.2.2.1
theorem dX11_pieceHas_7 : decode cX11_pieceHas 7 = .ok (.iload_n 2, 1) := dgX11_pieceHas_0.2.2.2.2.2.1
theorem dX11_pieceHas_8 : decode cX11_pieceHas 8 = .ok (.invokevirtual 256, 3) := dgX11_pieceHas_0.2.2.2.2.2.2.1
theorem dX11_pieceHas_11 : decode cX11_pieceHas 11 = .ok (.ifCond .ne 17, 3) := dgX11_pieceHas_0.2.2.2.2.2.2.2.1
theorem dX11_pieceHas_14 : decode cX11_pieceHas 14 = .ok (.aload_n 0, 1) := dgX11_pieceHas_0.2.2.2.2.2.2.2.2.1
theorem dX11_pieceHas_15 : decode cX11_pieceHas 15 = .ok (.aload_n 0, 1) := dgX11_pieceHas_0.2.2.2.2.2.2.2.2.2.1
theorem dX11_pieceHas_16 : decode cX11_pieceHas 16 = .ok (.getfield 106, 3) := dgX11_pieceHas_0.2.2.2.2.2.2.2.2.2.2.1
theorem dX11_pieceHas_19 : decode cX11_pieceHas 19 = .ok (.iload_n 1, 1) := dgX11_pieceHas_0.2.2.2.2.2.2.2.2.2.2.2.1
theorem dX11_pieceHas_20 : decode cX11_pieceHas 20 = .ok (.iaload, 1) := dgX11_pieceHas_0.2.2.2.2.2.2.2.2.2.2.2.2.1
theorem dX11_pieceHas_21 : decode cX11_pieceHas 21 = .ok (.iload_n 2, 1) := dgX11_pieceHas_0.2.2.2.2.2.2.2.2.2.2.2.2.2.1
theorem dX11_pieceHas_22 : decode cX11_pieceHas 22 = .ok (.invokevirtual 256, 3) := dgX11_pieceHas_0.2.2.2.2.2.2.2.2.2.2.2.2.2.2.1
theorem dX11_pieceHas_25 : decode cX11_pieceHas 25 = .ok (.ifCond .eq 7, 3) := dgX11_pieceHas_0.2.2.2.2.2.2.2.2.2.2.2.2.2.2.2
theorem dgX11_pieceHas_16 : (decode cX11_pieceHas 28 = .ok (.iconst 1, 1)) ∧ (decode cX11_pieceHas 29 = .ok (.goto 4, 3)) ∧ (decode cX11_pieceHas 32 = .ok (.iconst 0, 1)) ∧ (decode cX11_pieceHas 33 = .ok (.ireturn, 1)) := by decide +kernel
theorem dX11_pieceHas_28 : decode cX11_pieceHas 28 = .ok (.iconst 1, 1) := dgX11_pieceHas_16.1
theorem dX11_pieceHas_29 : decode cX11_pieceHas 29 = .ok (.goto 4, 3) := dgX11_pieceHas_16.2.1
theorem dX11_pieceHas_32 : decode cX11_pieceHas 32 = .ok (.iconst 0, 1) := dgX11_pieceHas_16.2.2.1
theorem dX11_pieceHas_33 : decode cX11_pieceHas 33 = .ok (.ireturn, 1) := dgX11_pieceHas_16.2.2.2
theorem dgX11_boxHas_0 : (decode cX11_boxHas 0 = .ok (.iconst 0, 1)) ∧ (decode cX11_boxHas 1 = .ok (.istore_n 3, 1)) ∧ (decode cX11_boxHas 2 = .ok (.iload_n 3, 1)) ∧ (decode cX11_boxHas 3 = .ok (.aload_n 0, 1)) ∧ (decode cX11_boxHas 4 = .ok (.getfield 203, 3)) ∧ (decode cX11_boxHas 7 = .ok (.if_icmp .ge 29, 3)) ∧ (decode cX11_boxHas 10 = .ok (.aload_n 0, 1)) ∧ (decode cX11_boxHas 11 = .ok (.iload_n 3, 1)) ∧ (decode cX11_boxHas 12 = .ok (.iload_n 1, 1)) ∧ (decode cX11_boxHas 13 = .ok (.invokevirtual 259, 3)) ∧ (decode cX11_boxHas 16 = .ok (.ifCond .eq 14, 3)) ∧ (decode cX11_boxHas 19 = .ok (.aload_n 0, 1)) ∧ (decode cX11_boxHas 20 = .ok (.iload_n 3, 1)) ∧ (decode cX11_boxHas 21 = .ok (.iload_n 2, 1)) ∧ (decode cX11_boxHas 22 = .ok (.invokevirtual 262, 3)) ∧ (decode cX11_boxHas 25 = .ok (.ifCond .eq 5, 3)) := by decide +kernel
theorem dX11_boxHas_0 : decode cX11_boxHas 0 = .ok (.iconst 0, 1) := dgX11_boxHas_0.1
theorem dX11_boxHas_1 : decode cX11_boxHas 1 = .ok (.istore_n 3, 1) := dgX11_boxHas_0.2.1
theorem dX11_boxHas_2 : decode cX11_boxHas 2 = .ok (.iload_n 3, 1) := dgX11_boxHas_0.2.2.1
theorem dX11_boxHas_3 : decode cX11_boxHas 3 = .ok (.aload_n 0, 1) := dgX11_boxHas_0.2.2.2.1
theorem dX11_boxHas_4 : decode cX11_boxHas 4 = .ok (.getfield 203, 3) := dgX11_boxHas_0.2.2.2.2.1
theorem dX11_boxHas_7 : decode cX11_boxHas 7 = .ok (.if_icmp .ge 29, 3) := dgX11_boxHas_0.2.2.2.2.2.1
theorem dX11_boxHas_10 : decode cX11_boxHas 10 = .ok (.aload_n 0, 1) := dgX11_boxHas_0.2.2.2.2.2.2.1
theorem dX11_boxHas_11 : decode cX11_boxHas 11 = .ok (.iload_n 3, 1) := dgX11_boxHas_0.2.2.2.2.2.2.2.1
theorem dX11_boxHas_12 : decode cX11_boxHas 12 = .ok (.iload_n 1, 1) := dgX11_boxHas_0.2.2.2.2.2.2.2.2.1
theorem dX11_boxHas_13 : decode cX11_boxHas 13 = .ok (.invokevirtual 259, 3) := dgX11_boxHas_0.2.2.2.2.2.2.2.2.2.1
theorem dX11_boxHas_16 : decode cX11_boxHas 16 = .ok (.ifCond .eq 14, 3) := dgX11_boxHas_0.2.2.2.2.2.2.2.2.2.2.1
theorem dX11_boxHas_19 : decode cX11_boxHas 19 = .ok (.aload_n 0, 1) := dgX11_boxHas_0.2.2.2.2.2.2.2.2.2.2.2.1
theorem dX11_boxHas_20 : decode cX11_boxHas 20 = .ok (.iload_n 3, 1) := dgX11_boxHas_0.2.2.2.2.2.2.2.2.2.2.2.2.1
theorem dX11_boxHas_21 : decode cX11_boxHas 21 = .ok (.iload_n 2, 1) := dgX11_boxHas_0.2.2.2.2.2.2.2.2.2.2.2.2.2.1
theorem dX11_boxHas_22 : decode cX11_boxHas 22 = .ok (.invokevirtual 262, 3) := dgX11_boxHas_0.2.2.2.2.2.2.2.2.2.2.2.2.2.2.1
theorem dX11_boxHas_25 : decode cX11_boxHas 25 = .ok (.ifCond .eq 5, 3) := dgX11_boxHas_0.2.2.2.2.2.2.2.2.2.2.2.2.2.2.2
theorem dgX11_boxHas_16 : (decode cX11_boxHas 28 = .ok (.iconst 1, 1)) ∧ (decode cX11_boxHas 29 = .ok (.ireturn, 1)) ∧ (decode cX11_boxHas 30 = .ok (.iinc 3 1, 3)) ∧ (decode cX11_boxHas 33 = .ok (.goto (-31), 3)) ∧ (decode cX11_boxHas 36 = .ok (.iconst 0, 1)) ∧ (decode cX11_boxHas 37 = .ok (.ireturn, 1)) := by decide +kernel
theorem dX11_boxHas_28 : decode cX11_boxHas 28 = .ok (.iconst 1, 1) := dgX11_boxHas_16.1
theorem dX11_boxHas_29 : decode cX11_boxHas 29 = .ok (.ireturn, 1) := dgX11_boxHas_16.2.1
theorem dX11_boxHas_30 : decode cX11_boxHas 30 = .ok (.iinc 3 1, 3) := dgX11_boxHas_16.2.2.1
theorem dX11_boxHas_33 : decode cX11_boxHas 33 = .ok (.goto (-31), 3) := dgX11_boxHas_16.2.2.2.1
theorem dX11_boxHas_36 : decode cX11_boxHas 36 = .ok (.iconst 0, 1) := dgX11_boxHas_16.2.2.2.2.1
theorem dX11_boxHas_37 : decode cX11_boxHas 37 = .ok (.ireturn, 1) := dgX11_boxHas_16.2.2.2.2.2
theorem dgX11_pieceInBox_0 : (decode cX11_pieceInBox 0 = .ok (.iconst 0, 1)) ∧ (decode cX11_pieceInBox 1 = .ok (.istore_n 3, 1)) ∧ (decode cX11_pieceInBox 2 = .ok (.iconst 0, 1)) ∧ (decode cX11_pieceInBox 3 = .ok (.istore 4, 2)) ∧ (decode cX11_pieceInBox 5 = .ok (.iload 4, 2)) ∧ (decode cX11_pieceInBox 7 = .ok (.aload_n 0, 1)) ∧ (decode cX11_pieceInBox 8 = .ok (.getfield 203, 3)) ∧ (decode cX11_pieceInBox 11 = .ok (.if_icmp .ge 33, 3)) ∧ (decode cX11_pieceInBox 14 = .ok (.aload_n 0, 1)) ∧ (decode cX11_pieceInBox 15 = .ok (.iload 4, 2)) ∧ (decode cX11_pieceInBox 17 = .ok (.iload_n 1, 1)) ∧ (decode cX11_pieceInBox 18 = .ok (.invokevirtual 259, 3)) ∧ (decode cX11_pieceInBox 21 = .ok (.ifCond .ne 6, 3)) ∧ (decode cX11_pieceInBox 24 = .ok (.goto 14, 3)) ∧ (decode cX11_pieceInBox 27 = .ok (.iload_n 3, 1)) ∧ (decode cX11_pieceInBox 28 = .ok (.iload_n 2, 1)) := by decide +kernel
theorem dX11_pieceInBox_0 : decode cX11_pieceInBox 0 = .ok (.iconst 0, 1) := dgX11_pieceInBox_0.1
theorem dX11_pieceInBox_1 : decode cX11_pieceInBox 1 = .ok (.istore_n 3, 1) := dgX11_pieceInBox_0.2.1
theorem dX11_pieceInBox_2 : decode cX11_pieceInBox 2 = .ok (.iconst 0, 1) := dgX11_pieceInBox_0.2.2.1
theorem dX11_pieceInBox_3 : decode cX11_pieceInBox 3 = .ok (.istore 4, 2) := dgX11_pieceInBox_0.2.2.2.1
theorem dX11_pieceInBox_5 : decode cX11_pieceInBox 5 = .ok (.iload 4, 2) := dgX11_pieceInBox_0.2.2.2.2.1
theorem dX11_pieceInBox_7 : decode cX11_pieceInBox 7 = .ok (.aload_n 0, 1) := dgX11_pieceInBox_0.2.2.2.2.2.1
theorem dX11_pieceInBox_8 : decode cX11_pieceInBox 8 = .ok (.getfield 203, 3) := dgX11_pieceInBox_0.2.2.2.2.2.2.1
theorem dX11_pieceInBox_11 : decode cX11_pieceInBox 11 = .ok (.if_icmp .ge 33, 3) := dgX11_pieceInBox_0.2.2.2.2.2.2.2.1
theorem dX11_pieceInBox_14 : decode cX11_pieceInBox 14 = .ok (.aload_n 0, 1) := dgX11_pieceInBox_0.2.2.2.2.2.2.2.2.1
theorem dX11_pieceInBox_15 : decode cX11_pieceInBox 15 = .ok (.iload 4, 2) := dgX11_pieceInBox_0.2.2.2.2.2.2.2.2.2.1
theorem dX11_pieceInBox_17 : decode cX11_pieceInBox 17 = .ok (.iload_n 1, 1) := dgX11_pieceInBox_0.2.2.2.2.2.2.2.2.2.2.1
theorem dX11_pieceInBox_18 : decode cX11_pieceInBox 18 = .ok (.invokevirtual 259, 3) := dgX11_pieceInBox_0.2.2.2.2.2.2.2.2.2.2.2.1
theorem dX11_pieceInBox_21 : decode cX11_pieceInBox 21 = .ok (.ifCond .ne 6, 3) := dgX11_pieceInBox_0.2.2.2.2.2.2.2.2.2.2.2.2.1
theorem dX11_pieceInBox_24 : decode cX11_pieceInBox 24 = .ok (.goto 14, 3) := dgX11_pieceInBox_0.2.2.2.2.2.2.2.2.2.2.2.2.2.1
theorem dX11_pieceInBox_27 : decode cX11_pieceInBox 27 = .ok (.iload_n 3, 1) := dgX11_pieceInBox_0.2.2.2.2.2.2.2.2.2.2.2.2.2.2.1
theorem dX11_pieceInBox_28 : decode cX11_pieceInBox 28 = .ok (.iload_n 2, 1) := dgX11_pieceInBox_0.2.2.2.2.2.2.2.2.2.2.2.2.2.2.2
theorem dgX11_pieceInBox_16 : (decode cX11_pieceInBox 29 = .ok (.if_icmp .ne 6, 3)) ∧ (decode cX11_pieceInBox 32 = .ok (.iload 4, 2)) ∧ (decode cX11_pieceInBox 34 = .ok (.ireturn, 1)) ∧ (decode cX11_pieceInBox 35 = .ok (.iinc 3 1, 3)) ∧ (decode cX11_pieceInBox 38 = .ok (.iinc 4 1, 3)) ∧ (decode cX11_pieceInBox 41 = .ok (.goto (-36), 3)) ∧ (decode cX11_pieceInBox 44 = .ok (.iconst (-1), 1)) ∧ (decode cX11_pieceInBox 45 = .ok (.ireturn, 1)) := by decide +kernel
theorem dX11_pieceInBox_29 : decode cX11_pieceInBox 29 = .ok (.if_icmp .ne 6, 3) := dgX11_pieceInBox_16.1
theorem dX11_pieceInBox_32 : decode cX11_pieceInBox 32 = .ok (.iload 4, 2) := dgX11_pieceInBox_16.2.1
theorem dX11_pieceInBox_34 : decode cX11_pieceInBox 34 = .ok (.ireturn, 1) := dgX11_pieceInBox_16.2.2.1
theorem dX11_pieceInBox_35 : decode cX11_pieceInBox 35 = .ok (.iinc 3 1, 3) := dgX11_pieceInBox_16.2.2.2.1
theorem dX11_pieceInBox_38 : decode cX11_pieceInBox 38 = .ok (.iinc 4 1, 3) := dgX11_pieceInBox_16.2.2.2.2.1
theorem dX11_pieceInBox_41 : decode cX11_pieceInBox 41 = .ok (.goto (-36), 3) := dgX11_pieceInBox_16.2.2.2.2.2.1
theorem dX11_pieceInBox_44 : decode cX11_pieceInBox 44 = .ok (.iconst (-1), 1) := dgX11_pieceInBox_16.2.2.2.2.2.2.1
theorem dX11_pieceInBox_45 : decode cX11_pieceInBox 45 = .ok (.ireturn, 1) := dgX11_pieceInBox_16.2.2.2.2.2.2.2
theorem dgX11_lotInBox_0 : (decode cX11_lotInBox 0 = .ok (.iconst 0, 1)) ∧ (decode cX11_lotInBox 1 = .ok (.istore_n 3, 1)) ∧ (decode cX11_lotInBox 2 = .ok (.iconst 0, 1)) ∧ (decode cX11_lotInBox 3 = .ok (.istore 4, 2)) ∧ (decode cX11_lotInBox 5 = .ok (.iload 4, 2)) ∧ (decode cX11_lotInBox 7 = .ok (.aload_n 0, 1)) ∧ (decode cX11_lotInBox 8 = .ok (.getfield 161, 3)) ∧ (decode cX11_lotInBox 11 = .ok (.if_icmp .ge 33, 3)) ∧ (decode cX11_lotInBox 14 = .ok (.aload_n 0, 1)) ∧ (decode cX11_lotInBox 15 = .ok (.iload_n 1, 1)) ∧ (decode cX11_lotInBox 16 = .ok (.iload 4, 2)) ∧ (decode cX11_lotInBox 18 = .ok (.invokevirtual 265, 3)) ∧ (decode cX11_lotInBox 21 = .ok (.ifCond .ne 6, 3)) ∧ (decode cX11_lotInBox 24 = .ok (.goto 14, 3)) ∧ (decode cX11_lotInBox 27 = .ok (.iload_n 3, 1)) ∧ (decode cX11_lotInBox 28 = .ok (.iload_n 2, 1)) := by decide +kernel
theorem dX11_lotInBox_0 : decode cX11_lotInBox 0 = .ok (.iconst 0, 1) := dgX11_lotInBox_0.1
theorem dX11_lotInBox_1 : decode cX11_lotInBox 1 = .ok (.istore_n 3, 1) := dgX11_lotInBox_0.2.1
theorem dX11_lotInBox_2 : decode cX11_lotInBox 2 = .ok (.iconst 0, 1) := dgX11_lotInBox_0.2.2.1
theorem dX11_lotInBox_3 : decode cX11_lotInBox 3 = .ok (.istore 4, 2) := dgX11_lotInBox_0.2.2.2.1
theorem dX11_lotInBox_5 : decode cX11_lotInBox 5 = .ok (.iload 4, 2) := dgX11_lotInBox_0.2.2.2.2.1
theorem dX11_lotInBox_7 : decode cX11_lotInBox 7 = .ok (.aload_n 0, 1) := dgX11_lotInBox_0.2.2.2.2.2.1
theorem dX11_lotInBox_8 : decode cX11_lotInBox 8 = .ok (.getfield 161, 3) := dgX11_lotInBox_0.2.2.2.2.2.2.1
theorem dX11_lotInBox_11 : decode cX11_lotInBox 11 = .ok (.if_icmp .ge 33, 3) := dgX11_lotInBox_0.2.2.2.2.2.2.2.1
theorem dX11_lotInBox_14 : decode cX11_lotInBox 14 = .ok (.aload_n 0, 1) := dgX11_lotInBox_0.2.2.2.2.2.2.2.2.1
theorem dX11_lotInBox_15 : decode cX11_lotInBox 15 = .ok (.iload_n 1, 1) := dgX11_lotInBox_0.2.2.2.2.2.2.2.2.2.1
theorem dX11_lotInBox_16 : decode cX11_lotInBox 16 = .ok (.iload 4, 2) := dgX11_lotInBox_0.2.2.2.2.2.2.2.2.2.2.1
theorem dX11_lotInBox_18 : decode cX11_lotInBox 18 = .ok (.invokevirtual 265, 3) := dgX11_lotInBox_0.2.2.2.2.2.2.2.2.2.2.2.1
theorem dX11_lotInBox_21 : decode cX11_lotInBox 21 = .ok (.ifCond .ne 6, 3) := dgX11_lotInBox_0.2.2.2.2.2.2.2.2.2.2.2.2.1
theorem dX11_lotInBox_24 : decode cX11_lotInBox 24 = .ok (.goto 14, 3) := dgX11_lotInBox_0.2.2.2.2.2.2.2.2.2.2.2.2.2.1
theorem dX11_lotInBox_27 : decode cX11_lotInBox 27 = .ok (.iload_n 3, 1) := dgX11_lotInBox_0.2.2.2.2.2.2.2.2.2.2.2.2.2.2.1
theorem dX11_lotInBox_28 : decode cX11_lotInBox 28 = .ok (.iload_n 2, 1) := dgX11_lotInBox_0.2.2.2.2.2.2.2.2.2.2.2.2.2.2.2
theorem dgX11_lotInBox_16 : (decode cX11_lotInBox 29 = .ok (.if_icmp .ne 6, 3)) ∧ (decode cX11_lotInBox 32 = .ok (.iload 4, 2)) ∧ (decode cX11_lotInBox 34 = .ok (.ireturn, 1)) ∧ (decode cX11_lotInBox 35 = .ok (.iinc 3 1, 3)) ∧ (decode cX11_lotInBox 38 = .ok (.iinc 4 1, 3)) ∧ (decode cX11_lotInBox 41 = .ok (.goto (-36), 3)) ∧ (decode cX11_lotInBox 44 = .ok (.iconst (-1), 1)) ∧ (decode cX11_lotInBox 45 = .ok (.ireturn, 1)) := by decide +kernel
theorem dX11_lotInBox_29 : decode cX11_lotInBox 29 = .ok (.if_icmp .ne 6, 3) := dgX11_lotInBox_16.1
theorem dX11_lotInBox_32 : decode cX11_lotInBox 32 = .ok (.iload 4, 2) := dgX11_lotInBox_16.2.1
theorem dX11_lotInBox_34 : decode cX11_lotInBox 34 = .ok (.ireturn, 1) := dgX11_lotInBox_16.2.2.1
theorem dX11_lotInBox_35 : decode cX11_lotInBox 35 = .ok (.iinc 3 1, 3) := dgX11_lotInBox_16.2.2.2.1
theorem dX11_lotInBox_38 : decode cX11_lotInBox 38 = .ok (.iinc 4 1, 3) := dgX11_lotInBox_16.2.2.2.2.1
theorem dX11_lotInBox_41 : decode cX11_lotInBox 41 = .ok (.goto (-36), 3) := dgX11_lotInBox_16.2.2.2.2.2.1
theorem dX11_lotInBox_44 : decode cX11_lotInBox 44 = .ok (.iconst (-1), 1) := dgX11_lotInBox_16.2.2.2.2.2.2.1
theorem dX11_lotInBox_45 : decode cX11_lotInBox 45 = .ok (.ireturn, 1) := dgX11_lotInBox_16.2.2.2.2.2.2.2
theorem dgX11_boxOf_0 : (decode cX11_boxOf 0 = .ok (.iload_n 1, 1)) ∧ (decode cX11_boxOf 1 = .ok (.iconst 0, 1)) ∧ (decode cX11_boxOf 2 = .ok (.aload_n 0, 1)) ∧ (decode cX11_boxOf 3 = .ok (.getfield 235, 3)) ∧ (decode cX11_boxOf 6 = .ok (.iconst 1, 1)) ∧ (decode cX11_boxOf 7 = .ok (.isub, 1)) ∧ (decode cX11_boxOf 8 = .ok (.invokestatic 156, 3)) ∧ (decode cX11_boxOf 11 = .ok (.ifCond .ne 5, 3)) ∧ (decode cX11_boxOf 14 = .ok (.iconst (-1), 1)) ∧ (decode cX11_boxOf 15 = .ok (.ireturn, 1)) ∧ (decode cX11_boxOf 16 = .ok (.iconst 0, 1)) ∧ (decode cX11_boxOf 17 = .ok (.istore_n 3, 1)) ∧ (decode cX11_boxOf 18 = .ok (.iconst 0, 1)) ∧ (decode cX11_boxOf 19 = .ok (.istore 4, 2)) ∧ (decode cX11_boxOf 21 = .ok (.iconst 0, 1)) ∧ (decode cX11_boxOf 22 = .ok (.istore 5, 2)) := by decide +kernel
theorem dX11_boxOf_0 : decode cX11_boxOf 0 = .ok (.iload_n 1, 1) := dgX11_boxOf_0.1
theorem dX11_boxOf_1 : decode cX11_boxOf 1 = .ok (.iconst 0, 1) := dgX11_boxOf_0.2.1
theorem dX11_boxOf_2 : decode cX11_boxOf 2 = .ok (.aload_n 0, 1) := dgX11_boxOf_0.2.2.1
theorem dX11_boxOf_3 : decode cX11_boxOf 3 = .ok (.getfield 235, 3) := dgX11_boxOf_0.2.2.2.1
theorem dX11_boxOf_6 : decode cX11_boxOf 6 = .ok (.iconst 1, 1) := dgX11_boxOf_0.2.2.2.2.1
theorem dX11_boxOf_7 : decode cX11_boxOf 7 = .ok (.isub, 1) := dgX11_boxOf_0.2.2.2.2.2.1
theorem dX11_boxOf_8 : decode cX11_boxOf 8 = .ok (.invokestatic 156, 3) := dgX11_boxOf_0.2.2.2.2.2.2.1
theorem dX11_boxOf_11 : decode cX11_boxOf 11 = .ok (.ifCond .ne 5, 3) := dgX11_boxOf_0.2.2.2.2.2.2.2.1
theorem dX11_boxOf_14 : decode cX11_boxOf 14 = .ok (.iconst (-1), 1) := dgX11_boxOf_0.2.2.2.2.2.2.2.2.1
theorem dX11_boxOf_15 : decode cX11_boxOf 15 = .ok (.ireturn, 1) := dgX11_boxOf_0.2.2.2.2.2.2.2.2.2.1
theorem dX11_boxOf_16 : decode cX11_boxOf 16 = .ok (.iconst 0, 1) := dgX11_boxOf_0.2.2.2.2.2.2.2.2.2.2.1
theorem dX11_boxOf_17 : decode cX11_boxOf 17 = .ok (.istore_n 3, 1) := dgX11_boxOf_0.2.2.2.2.2.2.2.2.2.2.2.1
theorem dX11_boxOf_18 : decode cX11_boxOf 18 = .ok (.iconst 0, 1) := dgX11_boxOf_0.2.2.2.2.2.2.2.2.2.2.2.2.1
theorem dX11_boxOf_19 : decode cX11_boxOf 19 = .ok (.istore 4, 2) := dgX11_boxOf_0.2.2.2.2.2.2.2.2.2.2.2.2.2.1
theorem dX11_boxOf_21 : decode cX11_boxOf 21 = .ok (.iconst 0, 1) := dgX11_boxOf_0.2.2.2.2.2.2.2.2.2.2.2.2.2.2.1
theorem dX11_boxOf_22 : decode cX11_boxOf 22 = .ok (.istore 5, 2) := dgX11_boxOf_0.2.2.2.2.2.2.2.2.2.2.2.2.2.2.2
theorem dgX11_boxOf_16 : (decode cX11_boxOf 24 = .ok (.iload 5, 2)) ∧ (decode cX11_boxOf 26 = .ok (.aload_n 0, 1)) ∧ (decode cX11_boxOf 27 = .ok (.getfield 203, 3)) ∧ (decode cX11_boxOf 30 = .ok (.if_icmp .ge 37, 3)) ∧ (decode cX11_boxOf 33 = .ok (.aload_n 0, 1)) ∧ (decode cX11_boxOf 34 = .ok (.iload 5, 2)) ∧ (decode cX11_boxOf 36 = .ok (.iload_n 1, 1)) ∧ (decode cX11_boxOf 37 = .ok (.invokevirtual 259, 3)) ∧ (decode cX11_boxOf 40 = .ok (.ifCond .ne 6, 3)) ∧ (decode cX11_boxOf 43 = .ok (.goto 18, 3)) ∧ (decode cX11_boxOf 46 = .ok (.iinc 3 1, 3)) ∧ (decode cX11_boxOf 49 = .ok (.iload 4, 2)) ∧ (decode cX11_boxOf 51 = .ok (.aload_n 0, 1)) ∧ (decode cX11_boxOf 52 = .ok (.getfield 103, 3)) ∧ (decode cX11_boxOf 55 = .ok (.iload 5, 2)) ∧ (decode cX11_boxOf 57 = .ok (.iaload, 1)) := by decide +kernel
theorem dX11_boxOf_24 : decode cX11_boxOf 24 = .ok (.iload 5, 2) := dgX11_boxOf_16.1
theorem dX11_boxOf_26 : decode cX11_boxOf 26 = .ok (.aload_n 0, 1) := dgX11_boxOf_16.2.1
theorem dX11_boxOf_27 : decode cX11_boxOf 27 = .ok (.getfield 203, 3) := dgX11_boxOf_16.2.2.1
theorem dX11_boxOf_30 : decode cX11_boxOf 30 = .ok (.if_icmp .ge 37, 3) := dgX11_boxOf_16.2.2.2.1
theorem dX11_boxOf_33 : decode cX11_boxOf 33 = .ok (.aload_n 0, 1) := dgX11_boxOf_16.2.2.2.2.1
theorem dX11_boxOf_34 : decode cX11_boxOf 34 = .ok (.iload 5, 2) := dgX11_boxOf_16.2.2.2.2.2.1
theorem dX11_boxOf_36 : decode cX11_boxOf 36 = .ok (.iload_n 1, 1) := dgX11_boxOf_16.2.2.2.2.2.2.1
theorem dX11_boxOf_37 : decode cX11_boxOf 37 = .ok (.invokevirtual 259, 3) := dgX11_boxOf_16.2.2.2.2.2.2.2.1
theorem dX11_boxOf_40 : decode cX11_boxOf 40 = .ok (.ifCond .ne 6, 3) := dgX11_boxOf_16.2.2.2.2.2.2.2.2.1
theorem dX11_boxOf_43 : decode cX11_boxOf 43 = .ok (.goto 18, 3) := dgX11_boxOf_16.2.2.2.2.2.2.2.2.2.1
theorem dX11_boxOf_46 : decode cX11_boxOf 46 = .ok (.iinc 3 1, 3) := dgX11_boxOf_16.2.2.2.2.2.2.2.2.2.2.1
theorem dX11_boxOf_49 : decode cX11_boxOf 49 = .ok (.iload 4, 2) := dgX11_boxOf_16.2.2.2.2.2.2.2.2.2.2.2.1
theorem dX11_boxOf_51 : decode cX11_boxOf 51 = .ok (.aload_n 0, 1) := dgX11_boxOf_16.2.2.2.2.2.2.2.2.2.2.2.2.1
theorem dX11_boxOf_52 : decode cX11_boxOf 52 = .ok (.getfield 103, 3) := dgX11_boxOf_16.2.2.2.2.2.2.2.2.2.2.2.2.2.1
theorem dX11_boxOf_55 : decode cX11_boxOf 55 = .ok (.iload 5, 2) := dgX11_boxOf_16.2.2.2.2.2.2.2.2.2.2.2.2.2.2.1
theorem dX11_boxOf_57 : decode cX11_boxOf 57 = .ok (.iaload, 1) := dgX11_boxOf_16.2.2.2.2.2.2.2.2.2.2.2.2.2.2.2
theorem dgX11_boxOf_32 : (decode cX11_boxOf 58 = .ok (.iadd, 1)) ∧ (decode cX11_boxOf 59 = .ok (.istore 4, 2)) ∧ (decode cX11_boxOf 61 = .ok (.iinc 5 1, 3)) ∧ (decode cX11_boxOf 64 = .ok (.goto (-40), 3)) ∧ (decode cX11_boxOf 67 = .ok (.iconst 0, 1)) ∧ (decode cX11_boxOf 68 = .ok (.istore 5, 2)) ∧ (decode cX11_boxOf 70 = .ok (.iconst 0, 1)) ∧ (decode cX11_boxOf 71 = .ok (.istore 6, 2)) ∧ (decode cX11_boxOf 73 = .ok (.iconst 0, 1)) ∧ (decode cX11_boxOf 74 = .ok (.istore 7, 2)) ∧ (decode cX11_boxOf 76 = .ok (.iload 7, 2)) ∧ (decode cX11_boxOf 78 = .ok (.aload_n 0, 1)) ∧ (decode cX11_boxOf 79 = .ok (.getfield 161, 3)) ∧ (decode cX11_boxOf 82 = .ok (.if_icmp .ge 37, 3)) ∧ (decode cX11_boxOf 85 = .ok (.aload_n 0, 1)) ∧ (decode cX11_boxOf 86 = .ok (.iload_n 1, 1)) := by decide +kernel
theorem dX11_boxOf_58 : decode cX11_boxOf 58 = .ok (.iadd, 1) := dgX11_boxOf_32.1
theorem dX11_boxOf_59 : decode cX11_boxOf 59 = .ok (.istore 4, 2) := dgX11_boxOf_32.2.1
theorem dX11_boxOf_61 : decode cX11_boxOf 61 = .ok (.iinc 5 1, 3) := dgX11_boxOf_32.2.2.1
theorem dX11_boxOf_64 : decode cX11_boxOf 64 = .ok (.goto (-40), 3) := dgX11_boxOf_32.2.2.2.1
theorem dX11_boxOf_67 : decode cX11_boxOf 67 = .ok (.iconst 0, 1) := dgX11_boxOf_32.2.2.2.2.1
theorem dX11_boxOf_68 : decode cX11_boxOf 68 = .ok (.istore 5, 2) := dgX11_boxOf_32.2.2.2.2.2.1
theorem dX11_boxOf_70 : decode cX11_boxOf 70 = .ok (.iconst 0, 1) := dgX11_boxOf_32.2.2.2.2.2.2.1
theorem dX11_boxOf_71 : decode cX11_boxOf 71 = .ok (.istore 6, 2) := dgX11_boxOf_32.2.2.2.2.2.2.2.1
theorem dX11_boxOf_73 : decode cX11_boxOf 73 = .ok (.iconst 0, 1) := dgX11_boxOf_32.2.2.2.2.2.2.2.2.1
theorem dX11_boxOf_74 : decode cX11_boxOf 74 = .ok (.istore 7, 2) := dgX11_boxOf_32.2.2.2.2.2.2.2.2.2.1
theorem dX11_boxOf_76 : decode cX11_boxOf 76 = .ok (.iload 7, 2) := dgX11_boxOf_32.2.2.2.2.2.2.2.2.2.2.1
theorem dX11_boxOf_78 : decode cX11_boxOf 78 = .ok (.aload_n 0, 1) := dgX11_boxOf_32.2.2.2.2.2.2.2.2.2.2.2.1
theorem dX11_boxOf_79 : decode cX11_boxOf 79 = .ok (.getfield 161, 3) := dgX11_boxOf_32.2.2.2.2.2.2.2.2.2.2.2.2.1
theorem dX11_boxOf_82 : decode cX11_boxOf 82 = .ok (.if_icmp .ge 37, 3) := dgX11_boxOf_32.2.2.2.2.2.2.2.2.2.2.2.2.2.1
theorem dX11_boxOf_85 : decode cX11_boxOf 85 = .ok (.aload_n 0, 1) := dgX11_boxOf_32.2.2.2.2.2.2.2.2.2.2.2.2.2.2.1
theorem dX11_boxOf_86 : decode cX11_boxOf 86 = .ok (.iload_n 1, 1) := dgX11_boxOf_32.2.2.2.2.2.2.2.2.2.2.2.2.2.2.2
theorem dgX11_boxOf_48 : (decode cX11_boxOf 87 = .ok (.iload 7, 2)) ∧ (decode cX11_boxOf 89 = .ok (.invokevirtual 265, 3)) ∧ (decode cX11_boxOf 92 = .ok (.ifCond .ne 6, 3)) ∧ (decode cX11_boxOf 95 = .ok (.goto 18, 3)) ∧ (decode cX11_boxOf 98 = .ok (.iload 5, 2)) ∧ (decode cX11_boxOf 100 = .ok (.aload_n 0, 1)) ∧ (decode cX11_boxOf 101 = .ok (.getfield 13, 3)) ∧ (decode cX11_boxOf 104 = .ok (.iload 7, 2)) ∧ (decode cX11_boxOf 106 = .ok (.iaload, 1)) ∧ (decode cX11_boxOf 107 = .ok (.ior, 1)) ∧ (decode cX11_boxOf 108 = .ok (.istore 5, 2)) ∧ (decode cX11_boxOf 110 = .ok (.iinc 6 1, 3)) ∧ (decode cX11_boxOf 113 = .ok (.iinc 7 1, 3)) ∧ (decode cX11_boxOf 116 = .ok (.goto (-40), 3)) ∧ (decode cX11_boxOf 119 = .ok (.iload_n 2, 1)) ∧ (decode cX11_boxOf 120 = .ok (.sipush 200, 3)) := by decide +kernel
theorem dX11_boxOf_87 : decode cX11_boxOf 87 = .ok (.iload 7, 2) := dgX11_boxOf_48.1
theorem dX11_boxOf_89 : decode cX11_boxOf 89 = .ok (.invokevirtual 265, 3) := dgX11_boxOf_48.2.1
theorem dX11_boxOf_92 : decode cX11_boxOf 92 = .ok (.ifCond .ne 6, 3) := dgX11_boxOf_48.2.2.1
theorem dX11_boxOf_95 : decode cX11_boxOf 95 = .ok (.goto 18, 3) := dgX11_boxOf_48.2.2.2.1
theorem dX11_boxOf_98 : decode cX11_boxOf 98 = .ok (.iload 5, 2) := dgX11_boxOf_48.2.2.2.2.1
theorem dX11_boxOf_100 : decode cX11_boxOf 100 = .ok (.aload_n 0, 1) := dgX11_boxOf_48.2.2.2.2.2.1
theorem dX11_boxOf_101 : decode cX11_boxOf 101 = .ok (.getfield 13, 3) := dgX11_boxOf_48.2.2.2.2.2.2.1
theorem dX11_boxOf_104 : decode cX11_boxOf 104 = .ok (.iload 7, 2) := dgX11_boxOf_48.2.2.2.2.2.2.2.1
theorem dX11_boxOf_106 : decode cX11_boxOf 106 = .ok (.iaload, 1) := dgX11_boxOf_48.2.2.2.2.2.2.2.2.1
theorem dX11_boxOf_107 : decode cX11_boxOf 107 = .ok (.ior, 1) := dgX11_boxOf_48.2.2.2.2.2.2.2.2.2.1
theorem dX11_boxOf_108 : decode cX11_boxOf 108 = .ok (.istore 5, 2) := dgX11_boxOf_48.2.2.2.2.2.2.2.2.2.2.1
theorem dX11_boxOf_110 : decode cX11_boxOf 110 = .ok (.iinc 6 1, 3) := dgX11_boxOf_48.2.2.2.2.2.2.2.2.2.2.2.1
theorem dX11_boxOf_113 : decode cX11_boxOf 113 = .ok (.iinc 7 1, 3) := dgX11_boxOf_48.2.2.2.2.2.2.2.2.2.2.2.2.1
theorem dX11_boxOf_116 : decode cX11_boxOf 116 = .ok (.goto (-40), 3) := dgX11_boxOf_48.2.2.2.2.2.2.2.2.2.2.2.2.2.1
theorem dX11_boxOf_119 : decode cX11_boxOf 119 = .ok (.iload_n 2, 1) := dgX11_boxOf_48.2.2.2.2.2.2.2.2.2.2.2.2.2.2.1
theorem dX11_boxOf_120 : decode cX11_boxOf 120 = .ok (.sipush 200, 3) := dgX11_boxOf_48.2.2.2.2.2.2.2.2.2.2.2.2.2.2.2
theorem dgX11_boxOf_64 : (decode cX11_boxOf 123 = .ok (.if_icmp .lt 14, 3)) ∧ (decode cX11_boxOf 126 = .ok (.aload_n 0, 1)) ∧ (decode cX11_boxOf 127 = .ok (.iload_n 1, 1)) ∧ (decode cX11_boxOf 128 = .ok (.iload_n 2, 1)) ∧ (decode cX11_boxOf 129 = .ok (.sipush 200, 3)) ∧ (decode cX11_boxOf 132 = .ok (.isub, 1)) ∧ (decode cX11_boxOf 133 = .ok (.invokevirtual 268, 3)) ∧ (decode cX11_boxOf 136 = .ok (.ireturn, 1)) ∧ (decode cX11_boxOf 137 = .ok (.iload_n 2, 1)) ∧ (decode cX11_boxOf 138 = .ok (.bipush 100, 2)) ∧ (decode cX11_boxOf 140 = .ok (.if_icmp .lt 13, 3)) ∧ (decode cX11_boxOf 143 = .ok (.aload_n 0, 1)) ∧ (decode cX11_boxOf 144 = .ok (.iload_n 1, 1)) ∧ (decode cX11_boxOf 145 = .ok (.iload_n 2, 1)) ∧ (decode cX11_boxOf 146 = .ok (.bipush 100, 2)) ∧ (decode cX11_boxOf 148 = .ok (.isub, 1)) := by decide +kernel
theorem dX11_boxOf_123 : decode cX11_boxOf 123 = .ok (.if_icmp .lt 14, 3) := dgX11_boxOf_64.1
theorem dX11_boxOf_126 : decode cX11_boxOf 126 = .ok (.aload_n 0, 1) := dgX11_boxOf_64.2.1
theorem dX11_boxOf_127 : decode cX11_boxOf 127 = .ok (.iload_n 1, 1) := dgX11_boxOf_64.2.2.1
theorem dX11_boxOf_128 : decode cX11_boxOf 128 = .ok (.iload_n 2, 1) := dgX11_boxOf_64.2.2.2.1
theorem dX11_boxOf_129 : decode cX11_boxOf 129 = .ok (.sipush 200, 3) := dgX11_boxOf_64.2.2.2.2.1
theorem dX11_boxOf_132 : decode cX11_boxOf 132 = .ok (.isub, 1) := dgX11_boxOf_64.2.2.2.2.2.1
theorem dX11_boxOf_133 : decode cX11_boxOf 133 = .ok (.invokevirtual 268, 3) := dgX11_boxOf_64.2.2.2.2.2.2.1
theorem dX11_boxOf_136 : decode cX11_boxOf 136 = .ok (.ireturn, 1) := dgX11_boxOf_64.2.2.2.2.2.2.2.1
theorem dX11_boxOf_137 : decode cX11_boxOf 137 = .ok (.iload_n 2, 1) := dgX11_boxOf_64.2.2.2.2.2.2.2.2.1
theorem dX11_boxOf_138 : decode cX11_boxOf 138 = .ok (.bipush 100, 2) := dgX11_boxOf_64.2.2.2.2.2.2.2.2.2.1
theorem dX11_boxOf_140 : decode cX11_boxOf 140 = .ok (.if_icmp .lt 13, 3) := dgX11_boxOf_64.2.2.2.2.2.2.2.2.2.2.1
theorem dX11_boxOf_143 : decode cX11_boxOf 143 = .ok (.aload_n 0, 1) := dgX11_boxOf_64.2.2.2.2.2.2.2.2.2.2.2.1
theorem dX11_boxOf_144 : decode cX11_boxOf 144 = .ok (.iload_n 1, 1) := dgX11_boxOf_64.2.2.2.2.2.2.2.2.2.2.2.2.1
theorem dX11_boxOf_145 : decode cX11_boxOf 145 = .ok (.iload_n 2, 1) := dgX11_boxOf_64.2.2.2.2.2.2.2.2.2.2.2.2.2.1
theorem dX11_boxOf_146 : decode cX11_boxOf 146 = .ok (.bipush 100, 2) := dgX11_boxOf_64.2.2.2.2.2.2.2.2.2.2.2.2.2.2.1
theorem dX11_boxOf_148 : decode cX11_boxOf 148 = .ok (.isub, 1) := dgX11_boxOf_64.2.2.2.2.2.2.2.2.2.2.2.2.2.2.2
theorem dgX11_boxOf_80 : (decode cX11_boxOf 149 = .ok (.invokevirtual 271, 3)) ∧ (decode cX11_boxOf 152 = .ok (.ireturn, 1)) ∧ (decode cX11_boxOf 153 = .ok (.iload_n 2, 1)) ∧ (decode cX11_boxOf 154 = .ok (.tableswitch 52 0 4 #[34, 36, 39, 46, 49], 34)) ∧ (decode cX11_boxOf 188 = .ok (.iload_n 3, 1)) ∧ (decode cX11_boxOf 189 = .ok (.ireturn, 1)) ∧ (decode cX11_boxOf 190 = .ok (.iload 4, 2)) ∧ (decode cX11_boxOf 192 = .ok (.ireturn, 1)) ∧ (decode cX11_boxOf 193 = .ok (.aload_n 0, 1)) ∧ (decode cX11_boxOf 194 = .ok (.getfield 124, 3)) ∧ (decode cX11_boxOf 197 = .ok (.iload_n 1, 1)) ∧ (decode cX11_boxOf 198 = .ok (.iaload, 1)) ∧ (decode cX11_boxOf 199 = .ok (.ireturn, 1)) ∧ (decode cX11_boxOf 200 = .ok (.iload 5, 2)) ∧ (decode cX11_boxOf 202 = .ok (.ireturn, 1)) ∧ (decode cX11_boxOf 203 = .ok (.iload 6, 2)) := by decide +kernel
theorem dX11_boxOf_149 : decode cX11_boxOf 149 = .ok (.invokevirtual 271, 3) := dgX11_boxOf_80.1
theorem dX11_boxOf_152 : decode cX11_boxOf 152 = .ok (.ireturn, 1) := dgX11_boxOf_80.2.1
theorem dX11_boxOf_153 : decode cX11_boxOf 153 = .ok (.iload_n 2, 1) := dgX11_boxOf_80.2.2.1
theorem dX11_boxOf_154 : decode cX11_boxOf 154 = .ok (.tableswitch 52 0 4 #[34, 36, 39, 46, 49], 34) := dgX11_boxOf_80.2.2.2.1
theorem dX11_boxOf_188 : decode cX11_boxOf 188 = .ok (.iload_n 3, 1) := dgX11_boxOf_80.2.2.2.2.1
theorem dX11_boxOf_189 : decode cX11_boxOf 189 = .ok (.ireturn, 1) := dgX11_boxOf_80.2.2.2.2.2.1
theorem dX11_boxOf_190 : decode cX11_boxOf 190 = .ok (.iload 4, 2) := dgX11_boxOf_80.2.2.2.2.2.2.1
theorem dX11_boxOf_192 : decode cX11_boxOf 192 = .ok (.ireturn, 1) := dgX11_boxOf_80.2.2.2.2.2.2.2.1
theorem dX11_boxOf_193 : decode cX11_boxOf 193 = .ok (.aload_n 0, 1) := dgX11_boxOf_80.2.2.2.2.2.2.2.2.1
theorem dX11_boxOf_194 : decode cX11_boxOf 194 = .ok (.getfield 124, 3) := dgX11_boxOf_80.2.2.2.2.2.2.2.2.2.1
theorem dX11_boxOf_197 : decode cX11_boxOf 197 = .ok (.iload_n 1, 1) := dgX11_boxOf_80.2.2.2.2.2.2.2.2.2.2.1
theorem dX11_boxOf_198 : decode cX11_boxOf 198 = .ok (.iaload, 1) := dgX11_boxOf_80.2.2.2.2.2.2.2.2.2.2.2.1
theorem dX11_boxOf_199 : decode cX11_boxOf 199 = .ok (.ireturn, 1) := dgX11_boxOf_80.2.2.2.2.2.2.2.2.2.2.2.2.1
theorem dX11_boxOf_200 : decode cX11_boxOf 200 = .ok (.iload 5, 2) := dgX11_boxOf_80.2.2.2.2.2.2.2.2.2.2.2.2.2.1
theorem dX11_boxOf_202 : decode cX11_boxOf 202 = .ok (.ireturn, 1) := dgX11_boxOf_80.2.2.2.2.2.2.2.2.2.2.2.2.2.2.1
theorem dX11_boxOf_203 : decode cX11_boxOf 203 = .ok (.iload 6, 2) := dgX11_boxOf_80.2.2.2.2.2.2.2.2.2.2.2.2.2.2.2
theorem dgX11_boxOf_96 : (decode cX11_boxOf 205 = .ok (.ireturn, 1)) ∧ (decode cX11_boxOf 206 = .ok (.iconst (-1), 1)) ∧ (decode cX11_boxOf 207 = .ok (.ireturn, 1)) := by decide +kernel
theorem dX11_boxOf_205 : decode cX11_boxOf 205 = .ok (.ireturn, 1) := dgX11_boxOf_96.1
theorem dX11_boxOf_206 : decode cX11_boxOf 206 = .ok (.iconst (-1), 1) := dgX11_boxOf_96.2.1
theorem dX11_boxOf_207 : decode cX11_boxOf 207 = .ok (.ireturn, 1) := dgX11_boxOf_96.2.2
theorem dgX11_wash_0 : (decode cX11_wash 0 = .ok (.iload_n 1, 1)) ∧ (decode cX11_wash 1 = .ok (.iconst 0, 1)) ∧ (decode cX11_wash 2 = .ok (.iconst 5, 1)) ∧ (decode cX11_wash 3 = .ok (.invokestatic 156, 3)) ∧ (decode cX11_wash 6 = .ok (.ifCond .eq 23, 3)) ∧ (decode cX11_wash 9 = .ok (.iload_n 2, 1)) ∧ (decode cX11_wash 10 = .ok (.iconst 0, 1)) ∧ (decode cX11_wash 11 = .ok (.iconst 5, 1)) ∧ (decode cX11_wash 12 = .ok (.invokestatic 156, 3)) ∧ (decode cX11_wash 15 = .ok (.ifCond .eq 14, 3)) ∧ (decode cX11_wash 18 = .ok (.iload_n 3, 1)) ∧ (decode cX11_wash 19 = .ok (.iconst 0, 1)) ∧ (decode cX11_wash 20 = .ok (.sipush 600, 3)) ∧ (decode cX11_wash 23 = .ok (.invokestatic 156, 3)) ∧ (decode cX11_wash 26 = .ok (.ifCond .ne 5, 3)) ∧ (decode cX11_wash 29 = .ok (.iconst 0, 1)) := by decide +kernel
theorem dX11_wash_0 : decode cX11_wash 0 = .ok (.iload_n 1, 1) := dgX11_wash_0.1
theorem dX11_wash_1 : decode cX11_wash 1 = .ok (.iconst 0, 1) := dgX11_wash_0.2.1
theorem dX11_wash_2 : decode cX11_wash 2 = .ok (.iconst 5, 1) := dgX11_wash_0.2.2.1
theorem dX11_wash_3 : decode cX11_wash 3 = .ok (.invokestatic 156, 3) := dgX11_wash_0.2.2.2.1
theorem dX11_wash_6 : decode cX11_wash 6 = .ok (.ifCond .eq 23, 3) := dgX11_wash_0.2.2.2.2.1
theorem dX11_wash_9 : decode cX11_wash 9 = .ok (.iload_n 2, 1) := dgX11_wash_0.2.2.2.2.2.1
theorem dX11_wash_10 : decode cX11_wash 10 = .ok (.iconst 0, 1) := dgX11_wash_0.2.2.2.2.2.2.1
theorem dX11_wash_11 : decode cX11_wash 11 = .ok (.iconst 5, 1) := dgX11_wash_0.2.2.2.2.2.2.2.1
theorem dX11_wash_12 : decode cX11_wash 12 = .ok (.invokestatic 156, 3) := dgX11_wash_0.2.2.2.2.2.2.2.2.1
theorem dX11_wash_15 : decode cX11_wash 15 = .ok (.ifCond .eq 14, 3) := dgX11_wash_0.2.2.2.2.2.2.2.2.2.1
theorem dX11_wash_18 : decode cX11_wash 18 = .ok (.iload_n 3, 1) := dgX11_wash_0.2.2.2.2.2.2.2.2.2.2.1
theorem dX11_wash_19 : decode cX11_wash 19 = .ok (.iconst 0, 1) := dgX11_wash_0.2.2.2.2.2.2.2.2.2.2.2.1
theorem dX11_wash_20 : decode cX11_wash 20 = .ok (.sipush 600, 3) := dgX11_wash_0.2.2.2.2.2.2.2.2.2.2.2.2.1
theorem dX11_wash_23 : decode cX11_wash 23 = .ok (.invokestatic 156, 3) := dgX11_wash_0.2.2.2.2.2.2.2.2.2.2.2.2.2.1
theorem dX11_wash_26 : decode cX11_wash 26 = .ok (.ifCond .ne 5, 3) := dgX11_wash_0.2.2.2.2.2.2.2.2.2.2.2.2.2.2.1
theorem dX11_wash_29 : decode cX11_wash 29 = .ok (.iconst 0, 1) := dgX11_wash_0.2.2.2.2.2.2.2.2.2.2.2.2.2.2.2
theorem dgX11_wash_16 : (decode cX11_wash 30 = .ok (.ireturn, 1)) ∧ (decode cX11_wash 31 = .ok (.aload_n 0, 1)) ∧ (decode cX11_wash 32 = .ok (.getfield 94, 3)) ∧ (decode cX11_wash 35 = .ok (.bipush 6, 2)) ∧ (decode cX11_wash 37 = .ok (.iload_n 1, 1)) ∧ (decode cX11_wash 38 = .ok (.imul, 1)) ∧ (decode cX11_wash 39 = .ok (.iload_n 2, 1)) ∧ (decode cX11_wash 40 = .ok (.iadd, 1)) ∧ (decode cX11_wash 41 = .ok (.iload_n 3, 1)) ∧ (decode cX11_wash 42 = .ok (.iastore, 1)) ∧ (decode cX11_wash 43 = .ok (.iconst 1, 1)) ∧ (decode cX11_wash 44 = .ok (.ireturn, 1)) := by decide +kernel
theorem dX11_wash_30 : decode cX11_wash 30 = .ok (.ireturn, 1) := dgX11_wash_16.1
theorem dX11_wash_31 : decode cX11_wash 31 = .ok (.aload_n 0, 1) := dgX11_wash_16.2.1
theorem dX11_wash_32 : decode cX11_wash 32 = .ok (.getfield 94, 3) := dgX11_wash_16.2.2.1
theorem dX11_wash_35 : decode cX11_wash 35 = .ok (.bipush 6, 2) := dgX11_wash_16.2.2.2.1
theorem dX11_wash_37 : decode cX11_wash 37 = .ok (.iload_n 1, 1) := dgX11_wash_16.2.2.2.2.1
theorem dX11_wash_38 : decode cX11_wash 38 = .ok (.imul, 1) := dgX11_wash_16.2.2.2.2.2.1
theorem dX11_wash_39 : decode cX11_wash 39 = .ok (.iload_n 2, 1) := dgX11_wash_16.2.2.2.2.2.2.1
theorem dX11_wash_40 : decode cX11_wash 40 = .ok (.iadd, 1) := dgX11_wash_16.2.2.2.2.2.2.2.1
theorem dX11_wash_41 : decode cX11_wash 41 = .ok (.iload_n 3, 1) := dgX11_wash_16.2.2.2.2.2.2.2.2.1
theorem dX11_wash_42 : decode cX11_wash 42 = .ok (.iastore, 1) := dgX11_wash_16.2.2.2.2.2.2.2.2.2.1
theorem dX11_wash_43 : decode cX11_wash 43 = .ok (.iconst 1, 1) := dgX11_wash_16.2.2.2.2.2.2.2.2.2.2.1
theorem dX11_wash_44 : decode cX11_wash 44 = .ok (.ireturn, 1) := dgX11_wash_16.2.2.2.2.2.2.2.2.2.2.2
theorem dgX11_queue_0 : (decode cX11_queue 0 = .ok (.iload_n 1, 1)) ∧ (decode cX11_queue 1 = .ok (.iconst (-1), 1)) ∧ (decode cX11_queue 2 = .ok (.if_icmp .ne 10, 3)) ∧ (decode cX11_queue 5 = .ok (.aload_n 0, 1)) ∧ (decode cX11_queue 6 = .ok (.iconst 0, 1)) ∧ (decode cX11_queue 7 = .ok (.putfield 274, 3)) ∧ (decode cX11_queue 10 = .ok (.iconst 0, 1)) ∧ (decode cX11_queue 11 = .ok (.ireturn, 1)) ∧ (decode cX11_queue 12 = .ok (.aload_n 0, 1)) ∧ (decode cX11_queue 13 = .ok (.iload_n 1, 1)) ∧ (decode cX11_queue 14 = .ok (.invokevirtual 165, 3)) ∧ (decode cX11_queue 17 = .ok (.ifCond .eq 12, 3)) ∧ (decode cX11_queue 20 = .ok (.aload_n 0, 1)) ∧ (decode cX11_queue 21 = .ok (.getfield 274, 3)) ∧ (decode cX11_queue 24 = .ok (.bipush 10, 2)) ∧ (decode cX11_queue 26 = .ok (.if_icmp .ne 5, 3)) := by decide +kernel
theorem dX11_queue_0 : decode cX11_queue 0 = .ok (.iload_n 1, 1) := dgX11_queue_0.1
theorem dX11_queue_1 : decode cX11_queue 1 = .ok (.iconst (-1), 1) := dgX11_queue_0.2.1
theorem dX11_queue_2 : decode cX11_queue 2 = .ok (.if_icmp .ne 10, 3) := dgX11_queue_0.2.2.1
theorem dX11_queue_5 : decode cX11_queue 5 = .ok (.aload_n 0, 1) := dgX11_queue_0.2.2.2.1
theorem dX11_queue_6 : decode cX11_queue 6 = .ok (.iconst 0, 1) := dgX11_queue_0.2.2.2.2.1
theorem dX11_queue_7 : decode cX11_queue 7 = .ok (.putfield 274, 3) := dgX11_queue_0.2.2.2.2.2.1
theorem dX11_queue_10 : decode cX11_queue 10 = .ok (.iconst 0, 1) := dgX11_queue_0.2.2.2.2.2.2.1
theorem dX11_queue_11 : decode cX11_queue 11 = .ok (.ireturn, 1) := dgX11_queue_0.2.2.2.2.2.2.2.1
theorem dX11_queue_12 : decode cX11_queue 12 = .ok (.aload_n 0, 1) := dgX11_queue_0.2.2.2.2.2.2.2.2.1
theorem dX11_queue_13 : decode cX11_queue 13 = .ok (.iload_n 1, 1) := dgX11_queue_0.2.2.2.2.2.2.2.2.2.1
theorem dX11_queue_14 : decode cX11_queue 14 = .ok (.invokevirtual 165, 3) := dgX11_queue_0.2.2.2.2.2.2.2.2.2.2.1
theorem dX11_queue_17 : decode cX11_queue 17 = .ok (.ifCond .eq 12, 3) := dgX11_queue_0.2.2.2.2.2.2.2.2.2.2.2.1
theorem dX11_queue_20 : decode cX11_queue 20 = .ok (.aload_n 0, 1) := dgX11_queue_0.2.2.2.2.2.2.2.2.2.2.2.2.1
theorem dX11_queue_21 : decode cX11_queue 21 = .ok (.getfield 274, 3) := dgX11_queue_0.2.2.2.2.2.2.2.2.2.2.2.2.2.1
theorem dX11_queue_24 : decode cX11_queue 24 = .ok (.bipush 10, 2) := dgX11_queue_0.2.2.2.2.2.2.2.2.2.2.2.2.2.2.1
theorem dX11_queue_26 : decode cX11_queue 26 = .ok (.if_icmp .ne 5, 3) := dgX11_queue_0.2.2.2.2.2.2.2.2.2.2.2.2.2.2.2
theorem dgX11_queue_16 : (decode cX11_queue 29 = .ok (.iconst (-1), 1)) ∧ (decode cX11_queue 30 = .ok (.ireturn, 1)) ∧ (decode cX11_queue 31 = .ok (.iconst 0, 1)) ∧ (decode cX11_queue 32 = .ok (.istore_n 2, 1)) ∧ (decode cX11_queue 33 = .ok (.iload_n 2, 1)) ∧ (decode cX11_queue 34 = .ok (.aload_n 0, 1)) ∧ (decode cX11_queue 35 = .ok (.getfield 274, 3)) ∧ (decode cX11_queue 38 = .ok (.if_icmp .ge 21, 3)) ∧ (decode cX11_queue 41 = .ok (.aload_n 0, 1)) ∧ (decode cX11_queue 42 = .ok (.getfield 97, 3)) ∧ (decode cX11_queue 45 = .ok (.iload_n 2, 1)) ∧ (decode cX11_queue 46 = .ok (.iaload, 1)) ∧ (decode cX11_queue 47 = .ok (.iload_n 1, 1)) ∧ (decode cX11_queue 48 = .ok (.if_icmp .ne 5, 3)) ∧ (decode cX11_queue 51 = .ok (.iconst (-1), 1)) ∧ (decode cX11_queue 52 = .ok (.ireturn, 1)) := by decide +kernel
theorem dX11_queue_29 : decode cX11_queue 29 = .ok (.iconst (-1), 1) := dgX11_queue_16.1
theorem dX11_queue_30 : decode cX11_queue 30 = .ok (.ireturn, 1) := dgX11_queue_16.2.1
theorem dX11_queue_31 : decode cX11_queue 31 = .ok (.iconst 0, 1) := dgX11_queue_16.2.2.1
theorem dX11_queue_32 : decode cX11_queue 32 = .ok (.istore_n 2, 1) := dgX11_queue_16.2.2.2.1
theorem dX11_queue_33 : decode cX11_queue 33 = .ok (.iload_n 2, 1) := dgX11_queue_16.2.2.2.2.1
theorem dX11_queue_34 : decode cX11_queue 34 = .ok (.aload_n 0, 1) := dgX11_queue_16.2.2.2.2.2.1
theorem dX11_queue_35 : decode cX11_queue 35 = .ok (.getfield 274, 3) := dgX11_queue_16.2.2.2.2.2.2.1
theorem dX11_queue_38 : decode cX11_queue 38 = .ok (.if_icmp .ge 21, 3) := dgX11_queue_16.2.2.2.2.2.2.2.1
theorem dX11_queue_41 : decode cX11_queue 41 = .ok (.aload_n 0, 1) := dgX11_queue_16.2.2.2.2.2.2.2.2.1
theorem dX11_queue_42 : decode cX11_queue 42 = .ok (.getfield 97, 3) := dgX11_queue_16.2.2.2.2.2.2.2.2.2.1
theorem dX11_queue_45 : decode cX11_queue 45 = .ok (.iload_n 2, 1) := dgX11_queue_16.2.2.2.2.2.2.2.2.2.2.1
theorem dX11_queue_46 : decode cX11_queue 46 = .ok (.iaload, 1) := dgX11_queue_16.2.2.2.2.2.2.2.2.2.2.2.1
theorem dX11_queue_47 : decode cX11_queue 47 = .ok (.iload_n 1, 1) := dgX11_queue_16.2.2.2.2.2.2.2.2.2.2.2.2.1
theorem dX11_queue_48 : decode cX11_queue 48 = .ok (.if_icmp .ne 5, 3) := dgX11_queue_16.2.2.2.2.2.2.2.2.2.2.2.2.2.1
theorem dX11_queue_51 : decode cX11_queue 51 = .ok (.iconst (-1), 1) := dgX11_queue_16.2.2.2.2.2.2.2.2.2.2.2.2.2.2.1
theorem dX11_queue_52 : decode cX11_queue 52 = .ok (.ireturn, 1) := dgX11_queue_16.2.2.2.2.2.2.2.2.2.2.2.2.2.2.2
theorem dgX11_queue_32 : (decode cX11_queue 53 = .ok (.iinc 2 1, 3)) ∧ (decode cX11_queue 56 = .ok (.goto (-23), 3)) ∧ (decode cX11_queue 59 = .ok (.aload_n 0, 1)) ∧ (decode cX11_queue 60 = .ok (.getfield 97, 3)) ∧ (decode cX11_queue 63 = .ok (.aload_n 0, 1)) ∧ (decode cX11_queue 64 = .ok (.getfield 274, 3)) ∧ (decode cX11_queue 67 = .ok (.iload_n 1, 1)) ∧ (decode cX11_queue 68 = .ok (.iastore, 1)) ∧ (decode cX11_queue 69 = .ok (.aload_n 0, 1)) ∧ (decode cX11_queue 70 = .ok (.dup, 1)) ∧ (decode cX11_queue 71 = .ok (.getfield 274, 3)) ∧ (decode cX11_queue 74 = .ok (.iconst 1, 1)) ∧ (decode cX11_queue 75 = .ok (.iadd, 1)) ∧ (decode cX11_queue 76 = .ok (.putfield 274, 3)) ∧ (decode cX11_queue 79 = .ok (.aload_n 0, 1)) ∧ (decode cX11_queue 80 = .ok (.getfield 274, 3)) := by decide +kernel
theorem dX11_queue_53 : decode cX11_queue 53 = .ok (.iinc 2 1, 3) := dgX11_queue_32.1
theorem dX11_queue_56 : decode cX11_queue 56 = .ok (.goto (-23), 3) := dgX11_queue_32.2.1
theorem dX11_queue_59 : decode cX11_queue 59 = .ok (.aload_n 0, 1) := dgX11_queue_32.2.2.1
theorem dX11_queue_60 : decode cX11_queue 60 = .ok (.getfield 97, 3) := dgX11_queue_32.2.2.2.1
theorem dX11_queue_63 : decode cX11_queue 63 = .ok (.aload_n 0, 1) := dgX11_queue_32.2.2.2.2.1
theorem dX11_queue_64 : decode cX11_queue 64 = .ok (.getfield 274, 3) := dgX11_queue_32.2.2.2.2.2.1
theorem dX11_queue_67 : decode cX11_queue 67 = .ok (.iload_n 1, 1) := dgX11_queue_32.2.2.2.2.2.2.1
theorem dX11_queue_68 : decode cX11_queue 68 = .ok (.iastore, 1) := dgX11_queue_32.2.2.2.2.2.2.2.1
theorem dX11_queue_69 : decode cX11_queue 69 = .ok (.aload_n 0, 1) := dgX11_queue_32.2.2.2.2.2.2.2.2.1
theorem dX11_queue_70 : decode cX11_queue 70 = .ok (.dup, 1) := dgX11_queue_32.2.2.2.2.2.2.2.2.2.1
theorem dX11_queue_71 : decode cX11_queue 71 = .ok (.getfield 274, 3) := dgX11_queue_32.2.2.2.2.2.2.2.2.2.2.1
theorem dX11_queue_74 : decode cX11_queue 74 = .ok (.iconst 1, 1) := dgX11_queue_32.2.2.2.2.2.2.2.2.2.2.2.1
theorem dX11_queue_75 : decode cX11_queue 75 = .ok (.iadd, 1) := dgX11_queue_32.2.2.2.2.2.2.2.2.2.2.2.2.1
theorem dX11_queue_76 : decode cX11_queue 76 = .ok (.putfield 274, 3) := dgX11_queue_32.2.2.2.2.2.2.2.2.2.2.2.2.2.1
theorem dX11_queue_79 : decode cX11_queue 79 = .ok (.aload_n 0, 1) := dgX11_queue_32.2.2.2.2.2.2.2.2.2.2.2.2.2.2.1
theorem dX11_queue_80 : decode cX11_queue 80 = .ok (.getfield 274, 3) := dgX11_queue_32.2.2.2.2.2.2.2.2.2.2.2.2.2.2.2
theorem dX11_queue_83 : decode cX11_queue 83 = .ok (.ireturn, 1) := by decide +kernel
theorem dgX11_isNut_0 : (decode cX11_isNut 0 = .ok (.aload_n 0, 1)) ∧ (decode cX11_isNut 1 = .ok (.getfield 16, 3)) ∧ (decode cX11_isNut 4 = .ok (.aload_n 0, 1)) ∧ (decode cX11_isNut 5 = .ok (.getfield 97, 3)) ∧ (decode cX11_isNut 8 = .ok (.iload_n 1, 1)) ∧ (decode cX11_isNut 9 = .ok (.iaload, 1)) ∧ (decode cX11_isNut 10 = .ok (.iaload, 1)) ∧ (decode cX11_isNut 11 = .ok (.iconst 4, 1)) ∧ (decode cX11_isNut 12 = .ok (.if_icmp .ne 7, 3)) ∧ (decode cX11_isNut 15 = .ok (.iconst 1, 1)) ∧ (decode cX11_isNut 16 = .ok (.goto 4, 3)) ∧ (decode cX11_isNut 19 = .ok (.iconst 0, 1)) ∧ (decode cX11_isNut 20 = .ok (.ireturn, 1)) := by decide +kernel
theorem dX11_isNut_0 : decode cX11_isNut 0 = .ok (.aload_n 0, 1) := dgX11_isNut_0.1
theorem dX11_isNut_1 : decode cX11_isNut 1 = .ok (.getfield 16, 3) := dgX11_isNut_0.2.1
theorem dX11_isNut_4 : decode cX11_isNut 4 = .ok (.aload_n 0, 1) := dgX11_isNut_0.2.2.1
theorem dX11_isNut_5 : decode cX11_isNut 5 = .ok (.getfield 97, 3) := dgX11_isNut_0.2.2.2.1
theorem dX11_isNut_8 : decode cX11_isNut 8 = .ok (.iload_n 1, 1) := dgX11_isNut_0.2.2.2.2.1
theorem dX11_isNut_9 : decode cX11_isNut 9 = .ok (.iaload, 1) := dgX11_isNut_0.2.2.2.2.2.1
theorem dX11_isNut_10 : decode cX11_isNut 10 = .ok (.iaload, 1) := dgX11_isNut_0.2.2.2.2.2.2.1
theorem dX11_isNut_11 : decode cX11_isNut 11 = .ok (.iconst 4, 1) := dgX11_isNut_0.2.2.2.2.2.2.2.1
theorem dX11_isNut_12 : decode cX11_isNut 12 = .ok (.if_icmp .ne 7, 3) := dgX11_isNut_0.2.2.2.2.2.2.2.2.1
theorem dX11_isNut_15 : decode cX11_isNut 15 = .ok (.iconst 1, 1) := dgX11_isNut_0.2.2.2.2.2.2.2.2.2.1
theorem dX11_isNut_16 : decode cX11_isNut 16 = .ok (.goto 4, 3) := dgX11_isNut_0.2.2.2.2.2.2.2.2.2.2.1
theorem dX11_isNut_19 : decode cX11_isNut 19 = .ok (.iconst 0, 1) := dgX11_isNut_0.2.2.2.2.2.2.2.2.2.2.2.1
theorem dX11_isNut_20 : decode cX11_isNut 20 = .ok (.ireturn, 1) := dgX11_isNut_0.2.2.2.2.2.2.2.2.2.2.2.2
theorem dgX11_mayCome_0 : (decode cX11_mayCome 0 = .ok (.iload_n 1, 1)) ∧ (decode cX11_mayCome 1 = .ok (.iload_n 2, 1)) ∧ (decode cX11_mayCome 2 = .ok (.ishr, 1)) ∧ (decode cX11_mayCome 3 = .ok (.iconst 1, 1)) ∧ (decode cX11_mayCome 4 = .ok (.iand, 1)) ∧ (decode cX11_mayCome 5 = .ok (.iconst 1, 1)) ∧ (decode cX11_mayCome 6 = .ok (.if_icmp .ne 5, 3)) ∧ (decode cX11_mayCome 9 = .ok (.iconst 0, 1)) ∧ (decode cX11_mayCome 10 = .ok (.ireturn, 1)) ∧ (decode cX11_mayCome 11 = .ok (.iconst 0, 1)) ∧ (decode cX11_mayCome 12 = .ok (.istore 4, 2)) ∧ (decode cX11_mayCome 14 = .ok (.iload 4, 2)) ∧ (decode cX11_mayCome 16 = .ok (.aload_n 0, 1)) ∧ (decode cX11_mayCome 17 = .ok (.getfield 274, 3)) ∧ (decode cX11_mayCome 20 = .ok (.if_icmp .ge 41, 3)) ∧ (decode cX11_mayCome 23 = .ok (.iload_n 3, 1)) := by decide +kernel
theorem dX11_mayCome_0 : decode cX11_mayCome 0 = .ok (.iload_n 1, 1) := dgX11_mayCome_0.1
theorem dX11_mayCome_1 : decode cX11_mayCome 1 = .ok (.iload_n 2, 1) := dgX11_mayCome_0.2.1
theorem dX11_mayCome_2 : decode cX11_mayCome 2 = .ok (.ishr, 1) := dgX11_mayCome_0.2.2.1
theorem dX11_mayCome_3 : decode cX11_mayCome 3 = .ok (.iconst 1, 1) := dgX11_mayCome_0.2.2.2.1
theorem dX11_mayCome_4 : decode cX11_mayCome 4 = .ok (.iand, 1) := dgX11_mayCome_0.2.2.2.2.1
theorem dX11_mayCome_5 : decode cX11_mayCome 5 = .ok (.iconst 1, 1) := dgX11_mayCome_0.2.2.2.2.2.1
theorem dX11_mayCome_6 : decode cX11_mayCome 6 = .ok (.if_icmp .ne 5, 3) := dgX11_mayCome_0.2.2.2.2.2.2.1
theorem dX11_mayCome_9 : decode cX11_mayCome 9 = .ok (.iconst 0, 1) := dgX11_mayCome_0.2.2.2.2.2.2.2.1
theorem dX11_mayCome_10 : decode cX11_mayCome 10 = .ok (.ireturn, 1) := dgX11_mayCome_0.2.2.2.2.2.2.2.2.1
theorem dX11_mayCome_11 : decode cX11_mayCome 11 = .ok (.iconst 0, 1) := dgX11_mayCome_0.2.2.2.2.2.2.2.2.2.1
theorem dX11_mayCome_12 : decode cX11_mayCome 12 = .ok (.istore 4, 2) := dgX11_mayCome_0.2.2.2.2.2.2.2.2.2.2.1
theorem dX11_mayCome_14 : decode cX11_mayCome 14 = .ok (.iload 4, 2) := dgX11_mayCome_0.2.2.2.2.2.2.2.2.2.2.2.1
theorem dX11_mayCome_16 : decode cX11_mayCome 16 = .ok (.aload_n 0, 1) := dgX11_mayCome_0.2.2.2.2.2.2.2.2.2.2.2.2.1
theorem dX11_mayCome_17 : decode cX11_mayCome 17 = .ok (.getfield 274, 3) := dgX11_mayCome_0.2.2.2.2.2.2.2.2.2.2.2.2.2.1
theorem dX11_mayCome_20 : decode cX11_mayCome 20 = .ok (.if_icmp .ge 41, 3) := dgX11_mayCome_0.2.2.2.2.2.2.2.2.2.2.2.2.2.2.1
theorem dX11_mayCome_23 : decode cX11_mayCome 23 = .ok (.iload_n 3, 1) := dgX11_mayCome_0.2.2.2.2.2.2.2.2.2.2.2.2.2.2.2
theorem dgX11_mayCome_16 : (decode cX11_mayCome 24 = .ok (.ifCond .eq 37, 3)) ∧ (decode cX11_mayCome 27 = .ok (.aload_n 0, 1)) ∧ (decode cX11_mayCome 28 = .ok (.iload_n 2, 1)) ∧ (decode cX11_mayCome 29 = .ok (.invokevirtual 277, 3)) ∧ (decode cX11_mayCome 32 = .ok (.ifCond .eq 29, 3)) ∧ (decode cX11_mayCome 35 = .ok (.aload_n 0, 1)) ∧ (decode cX11_mayCome 36 = .ok (.iload 4, 2)) ∧ (decode cX11_mayCome 38 = .ok (.invokevirtual 277, 3)) ∧ (decode cX11_mayCome 41 = .ok (.ifCond .ne 14, 3)) ∧ (decode cX11_mayCome 44 = .ok (.iload_n 1, 1)) ∧ (decode cX11_mayCome 45 = .ok (.iload 4, 2)) ∧ (decode cX11_mayCome 47 = .ok (.ishr, 1)) ∧ (decode cX11_mayCome 48 = .ok (.iconst 1, 1)) ∧ (decode cX11_mayCome 49 = .ok (.iand, 1)) ∧ (decode cX11_mayCome 50 = .ok (.ifCond .ne 5, 3)) ∧ (decode cX11_mayCome 53 = .ok (.iconst 0, 1)) := by decide +kernel
theorem dX11_mayCome_24 : decode cX11_mayCome 24 = .ok (.ifCond .eq 37, 3) := dgX11_mayCome_16.1
theorem dX11_mayCome_27 : decode cX11_mayCome 27 = .ok (.aload_n 0, 1) := dgX11_mayCome_16.2.1
theorem dX11_mayCome_28 : decode cX11_mayCome 28 = .ok (.iload_n 2, 1) := dgX11_mayCome_16.2.2.1
theorem dX11_mayCome_29 : decode cX11_mayCome 29 = .ok (.invokevirtual 277, 3) := dgX11_mayCome_16.2.2.2.1
theorem dX11_mayCome_32 : decode cX11_mayCome 32 = .ok (.ifCond .eq 29, 3) := dgX11_mayCome_16.2.2.2.2.1
theorem dX11_mayCome_35 : decode cX11_mayCome 35 = .ok (.aload_n 0, 1) := dgX11_mayCome_16.2.2.2.2.2.1
theorem dX11_mayCome_36 : decode cX11_mayCome 36 = .ok (.iload 4, 2) := dgX11_mayCome_16.2.2.2.2.2.2.1
theorem dX11_mayCome_38 : decode cX11_mayCome 38 = .ok (.invokevirtual 277, 3) := dgX11_mayCome_16.2.2.2.2.2.2.2.1
theorem dX11_mayCome_41 : decode cX11_mayCome 41 = .ok (.ifCond .ne 14, 3) := dgX11_mayCome_16.2.2.2.2.2.2.2.2.1
theorem dX11_mayCome_44 : decode cX11_mayCome 44 = .ok (.iload_n 1, 1) := dgX11_mayCome_16.2.2.2.2.2.2.2.2.2.1
theorem dX11_mayCome_45 : decode cX11_mayCome 45 = .ok (.iload 4, 2) := dgX11_mayCome_16.2.2.2.2.2.2.2.2.2.2.1
theorem dX11_mayCome_47 : decode cX11_mayCome 47 = .ok (.ishr, 1) := dgX11_mayCome_16.2.2.2.2.2.2.2.2.2.2.2.1
theorem dX11_mayCome_48 : decode cX11_mayCome 48 = .ok (.iconst 1, 1) := dgX11_mayCome_16.2.2.2.2.2.2.2.2.2.2.2.2.1
theorem dX11_mayCome_49 : decode cX11_mayCome 49 = .ok (.iand, 1) := dgX11_mayCome_16.2.2.2.2.2.2.2.2.2.2.2.2.2.1
theorem dX11_mayCome_50 : decode cX11_mayCome 50 = .ok (.ifCond .ne 5, 3) := dgX11_mayCome_16.2.2.2.2.2.2.2.2.2.2.2.2.2.2.1
theorem dX11_mayCome_53 : decode cX11_mayCome 53 = .ok (.iconst 0, 1) := dgX11_mayCome_16.2.2.2.2.2.2.2.2.2.2.2.2.2.2.2
theorem dgX11_mayCome_32 : (decode cX11_mayCome 54 = .ok (.ireturn, 1)) ∧ (decode cX11_mayCome 55 = .ok (.iinc 4 1, 3)) ∧ (decode cX11_mayCome 58 = .ok (.goto (-44), 3)) ∧ (decode cX11_mayCome 61 = .ok (.iconst 1, 1)) ∧ (decode cX11_mayCome 62 = .ok (.ireturn, 1)) := by decide +kernel
theorem dX11_mayCome_54 : decode cX11_mayCome 54 = .ok (.ireturn, 1) := dgX11_mayCome_32.1
theorem dX11_mayCome_55 : decode cX11_mayCome 55 = .ok (.iinc 4 1, 3) := dgX11_mayCome_32.2.1
theorem dX11_mayCome_58 : decode cX11_mayCome 58 = .ok (.goto (-44), 3) := dgX11_mayCome_32.2.2.1
theorem dX11_mayCome_61 : decode cX11_mayCome 61 = .ok (.iconst 1, 1) := dgX11_mayCome_32.2.2.2.1
theorem dX11_mayCome_62 : decode cX11_mayCome 62 = .ok (.ireturn, 1) := dgX11_mayCome_32.2.2.2.2
theorem dgX11_minutes_0 : (decode cX11_minutes 0 = .ok (.iload_n 1, 1)) ∧ (decode cX11_minutes 1 = .ok (.ifCond .ge 7, 3)) ∧ (decode cX11_minutes 4 = .ok (.iconst 0, 1)) ∧ (decode cX11_minutes 5 = .ok (.goto 34, 3)) ∧ (decode cX11_minutes 8 = .ok (.aload_n 0, 1)) ∧ (decode cX11_minutes 9 = .ok (.getfield 94, 3)) ∧ (decode cX11_minutes 12 = .ok (.bipush 6, 2)) ∧ (decode cX11_minutes 14 = .ok (.aload_n 0, 1)) ∧ (decode cX11_minutes 15 = .ok (.getfield 16, 3)) ∧ (decode cX11_minutes 18 = .ok (.aload_n 0, 1)) ∧ (decode cX11_minutes 19 = .ok (.getfield 97, 3)) ∧ (decode cX11_minutes 22 = .ok (.iload_n 1, 1)) ∧ (decode cX11_minutes 23 = .ok (.iaload, 1)) ∧ (decode cX11_minutes 24 = .ok (.iaload, 1)) ∧ (decode cX11_minutes 25 = .ok (.imul, 1)) ∧ (decode cX11_minutes 26 = .ok (.aload_n 0, 1)) := by decide +kernel
theorem dX11_minutes_0 : decode cX11_minutes 0 = .ok (.iload_n 1, 1) := dgX11_minutes_0.1
theorem dX11_minutes_1 : decode cX11_minutes 1 = .ok (.ifCond .ge 7, 3) := dgX11_minutes_0.2.1
theorem dX11_minutes_4 : decode cX11_minutes 4 = .ok (.iconst 0, 1) := dgX11_minutes_0.2.2.1
theorem dX11_minutes_5 : decode cX11_minutes 5 = .ok (.goto 34, 3) := dgX11_minutes_0.2.2.2.1
theorem dX11_minutes_8 : decode cX11_minutes 8 = .ok (.aload_n 0, 1) := dgX11_minutes_0.2.2.2.2.1
theorem dX11_minutes_9 : decode cX11_minutes 9 = .ok (.getfield 94, 3) := dgX11_minutes_0.2.2.2.2.2.1
theorem dX11_minutes_12 : decode cX11_minutes 12 = .ok (.bipush 6, 2) := dgX11_minutes_0.2.2.2.2.2.2.1
theorem dX11_minutes_14 : decode cX11_minutes 14 = .ok (.aload_n 0, 1) := dgX11_minutes_0.2.2.2.2.2.2.2.1
theorem dX11_minutes_15 : decode cX11_minutes 15 = .ok (.getfield 16, 3) := dgX11_minutes_0.2.2.2.2.2.2.2.2.1
theorem dX11_minutes_18 : decode cX11_minutes 18 = .ok (.aload_n 0, 1) := dgX11_minutes_0.2.2.2.2.2.2.2.2.2.1
theorem dX11_minutes_19 : decode cX11_minutes 19 = .ok (.getfield 97, 3) := dgX11_minutes_0.2.2.2.2.2.2.2.2.2.2.1
theorem dX11_minutes_22 : decode cX11_minutes 22 = .ok (.iload_n 1, 1) := dgX11_minutes_0.2.2.2.2.2.2.2.2.2.2.2.1
theorem dX11_minutes_23 : decode cX11_minutes 23 = .ok (.iaload, 1) := dgX11_minutes_0.2.2.2.2.2.2.2.2.2.2.2.2.1
theorem dX11_minutes_24 : decode cX11_minutes 24 = .ok (.iaload, 1) := dgX11_minutes_0.2.2.2.2.2.2.2.2.2.2.2.2.2.1
theorem dX11_minutes_25 : decode cX11_minutes 25 = .ok (.imul, 1) := dgX11_minutes_0.2.2.2.2.2.2.2.2.2.2.2.2.2.2.1
theorem dX11_minutes_26 : decode cX11_minutes 26 = .ok (.aload_n 0, 1) := dgX11_minutes_0.2.2.2.2.2.2.2.2.2.2.2.2.2.2.2
theorem dgX11_minutes_16 : (decode cX11_minutes 27 = .ok (.getfield 16, 3)) ∧ (decode cX11_minutes 30 = .ok (.aload_n 0, 1)) ∧ (decode cX11_minutes 31 = .ok (.getfield 97, 3)) ∧ (decode cX11_minutes 34 = .ok (.iload_n 2, 1)) ∧ (decode cX11_minutes 35 = .ok (.iaload, 1)) ∧ (decode cX11_minutes 36 = .ok (.iaload, 1)) ∧ (decode cX11_minutes 37 = .ok (.iadd, 1)) ∧ (decode cX11_minutes 38 = .ok (.iaload, 1)) ∧ (decode cX11_minutes 39 = .ok (.ireturn, 1)) := by decide +kernel
theorem dX11_minutes_27 : decode cX11_minutes 27 = .ok (.getfield 16, 3) := dgX11_minutes_16.1
theorem dX11_minutes_30 : decode cX11_minutes 30 = .ok (.aload_n 0, 1) := dgX11_minutes_16.2.1
theorem dX11_minutes_31 : decode cX11_minutes 31 = .ok (.getfield 97, 3) := dgX11_minutes_16.2.2.1
theorem dX11_minutes_34 : decode cX11_minutes 34 = .ok (.iload_n 2, 1) := dgX11_minutes_16.2.2.2.1
theorem dX11_minutes_35 : decode cX11_minutes 35 = .ok (.iaload, 1) := dgX11_minutes_16.2.2.2.2.1
theorem dX11_minutes_36 : decode cX11_minutes 36 = .ok (.iaload, 1) := dgX11_minutes_16.2.2.2.2.2.1
theorem dX11_minutes_37 : decode cX11_minutes 37 = .ok (.iadd, 1) := dgX11_minutes_16.2.2.2.2.2.2.1
theorem dX11_minutes_38 : decode cX11_minutes 38 = .ok (.iaload, 1) := dgX11_minutes_16.2.2.2.2.2.2.2.1
theorem dX11_minutes_39 : decode cX11_minutes 39 = .ok (.ireturn, 1) := dgX11_minutes_16.2.2.2.2.2.2.2.2
theorem dgX11_restOf_0 : (decode cX11_restOf 0 = .ok (.aload_n 0, 1)) ∧ (decode cX11_restOf 1 = .ok (.getfield 150, 3)) ∧ (decode cX11_restOf 4 = .ok (.bipush 10, 2)) ∧ (decode cX11_restOf 6 = .ok (.iload_n 1, 1)) ∧ (decode cX11_restOf 7 = .ok (.imul, 1)) ∧ (decode cX11_restOf 8 = .ok (.iload_n 2, 1)) ∧ (decode cX11_restOf 9 = .ok (.iadd, 1)) ∧ (decode cX11_restOf 10 = .ok (.iaload, 1)) ∧ (decode cX11_restOf 11 = .ok (.ireturn, 1)) := by decide +kernel
theorem dX11_restOf_0 : decode cX11_restOf 0 = .ok (.aload_n 0, 1) := dgX11_restOf_0.1
theorem dX11_restOf_1 : decode cX11_restOf 1 = .ok (.getfield 150, 3) := dgX11_restOf_0.2.1
theorem dX11_restOf_4 : decode cX11_restOf 4 = .ok (.bipush 10, 2) := dgX11_restOf_0.2.2.1
theorem dX11_restOf_6 : decode cX11_restOf 6 = .ok (.iload_n 1, 1) := dgX11_restOf_0.2.2.2.1
theorem dX11_restOf_7 : decode cX11_restOf 7 = .ok (.imul, 1) := dgX11_restOf_0.2.2.2.2.1
theorem dX11_restOf_8 : decode cX11_restOf 8 = .ok (.iload_n 2, 1) := dgX11_restOf_0.2.2.2.2.2.1
theorem dX11_restOf_9 : decode cX11_restOf 9 = .ok (.iadd, 1) := dgX11_restOf_0.2.2.2.2.2.2.1
theorem dX11_restOf_10 : decode cX11_restOf 10 = .ok (.iaload, 1) := dgX11_restOf_0.2.2.2.2.2.2.2.1
theorem dX11_restOf_11 : decode cX11_restOf 11 = .ok (.ireturn, 1) := dgX11_restOf_0.2.2.2.2.2.2.2.2
theorem dgX11_reckon_0 : (decode cX11_reckon 0 = .ok (.iconst 1, 1)) ∧ (decode cX11_reckon 1 = .ok (.aload_n 0, 1)) ∧ (decode cX11_reckon 2 = .ok (.getfield 274, 3)) ∧ (decode cX11_reckon 5 = .ok (.ishl, 1)) ∧ (decode cX11_reckon 6 = .ok (.iconst 1, 1)) ∧ (decode cX11_reckon 7 = .ok (.isub, 1)) ∧ (decode cX11_reckon 8 = .ok (.istore_n 2, 1)) ∧ (decode cX11_reckon 9 = .ok (.iload_n 2, 1)) ∧ (decode cX11_reckon 10 = .ok (.istore_n 3, 1)) ∧ (decode cX11_reckon 11 = .ok (.iload_n 3, 1)) ∧ (decode cX11_reckon 12 = .ok (.ifCond .le 126, 3)) ∧ (decode cX11_reckon 15 = .ok (.iconst 0, 1)) ∧ (decode cX11_reckon 16 = .ok (.istore 4, 2)) ∧ (decode cX11_reckon 18 = .ok (.iload 4, 2)) ∧ (decode cX11_reckon 20 = .ok (.aload_n 0, 1)) ∧ (decode cX11_reckon 21 = .ok (.getfield 274, 3)) := by decide +kernel
theorem dX11_reckon_0 : decode cX11_reckon 0 = .ok (.iconst 1, 1) := dgX11_reckon_0.1
theorem dX11_reckon_1 : decode cX11_reckon 1 = .ok (.aload_n 0, 1) := dgX11_reckon_0.2.1
theorem dX11_reckon_2 : decode cX11_reckon 2 = .ok (.getfield 274, 3) := dgX11_reckon_0.2.2.1
theorem dX11_reckon_5 : decode cX11_reckon 5 = .ok (.ishl, 1) := dgX11_reckon_0.2.2.2.1
theorem dX11_reckon_6 : decode cX11_reckon 6 = .ok (.iconst 1, 1) := dgX11_reckon_0.2.2.2.2.1
theorem dX11_reckon_7 : decode cX11_reckon 7 = .ok (.isub, 1) := dgX11_reckon_0.2.2.2.2.2.1
theorem dX11_reckon_8 : decode cX11_reckon 8 = .ok (.istore_n 2, 1) := dgX11_reckon_0.2.2.2.2.2.2.1
theorem dX11_reckon_9 : decode cX11_reckon 9 = .ok (.iload_n 2, 1) := dgX11_reckon_0.2.2.2.2.2.2.2.1
theorem dX11_reckon_10 : decode cX11_reckon 10 = .ok (.istore_n 3, 1) := dgX11_reckon_0.2.2.2.2.2.2.2.2.1
theorem dX11_reckon_11 : decode cX11_reckon 11 = .ok (.iload_n 3, 1) := dgX11_reckon_0.2.2.2.2.2.2.2.2.2.1
theorem dX11_reckon_12 : decode cX11_reckon 12 = .ok (.ifCond .le 126, 3) := dgX11_reckon_0.2.2.2.2.2.2.2.2.2.2.1
theorem dX11_reckon_15 : decode cX11_reckon 15 = .ok (.iconst 0, 1) := dgX11_reckon_0.2.2.2.2.2.2.2.2.2.2.2.1
theorem dX11_reckon_16 : decode cX11_reckon 16 = .ok (.istore 4, 2) := dgX11_reckon_0.2.2.2.2.2.2.2.2.2.2.2.2.1
theorem dX11_reckon_18 : decode cX11_reckon 18 = .ok (.iload 4, 2) := dgX11_reckon_0.2.2.2.2.2.2.2.2.2.2.2.2.2.1
theorem dX11_reckon_20 : decode cX11_reckon 20 = .ok (.aload_n 0, 1) := dgX11_reckon_0.2.2.2.2.2.2.2.2.2.2.2.2.2.2.1
theorem dX11_reckon_21 : decode cX11_reckon 21 = .ok (.getfield 274, 3) := dgX11_reckon_0.2.2.2.2.2.2.2.2.2.2.2.2.2.2.2
theorem dgX11_reckon_16 : (decode cX11_reckon 24 = .ok (.if_icmp .ge 108, 3)) ∧ (decode cX11_reckon 27 = .ok (.iload_n 3, 1)) ∧ (decode cX11_reckon 28 = .ok (.iload_n 2, 1)) ∧ (decode cX11_reckon 29 = .ok (.if_icmp .ne 7, 3)) ∧ (decode cX11_reckon 32 = .ok (.iconst 0, 1)) ∧ (decode cX11_reckon 33 = .ok (.goto 6, 3)) ∧ (decode cX11_reckon 36 = .ok (.ldc_w 280, 3)) ∧ (decode cX11_reckon 39 = .ok (.istore 5, 2)) ∧ (decode cX11_reckon 41 = .ok (.iconst 0, 1)) ∧ (decode cX11_reckon 42 = .ok (.istore 6, 2)) ∧ (decode cX11_reckon 44 = .ok (.iload 6, 2)) ∧ (decode cX11_reckon 46 = .ok (.aload_n 0, 1)) ∧ (decode cX11_reckon 47 = .ok (.getfield 274, 3)) ∧ (decode cX11_reckon 50 = .ok (.if_icmp .ge 62, 3)) ∧ (decode cX11_reckon 53 = .ok (.iload_n 3, 1)) ∧ (decode cX11_reckon 54 = .ok (.iload_n 2, 1)) := by decide +kernel
theorem dX11_reckon_24 : decode cX11_reckon 24 = .ok (.if_icmp .ge 108, 3) := dgX11_reckon_16.1
theorem dX11_reckon_27 : decode cX11_reckon 27 = .ok (.iload_n 3, 1) := dgX11_reckon_16.2.1
theorem dX11_reckon_28 : decode cX11_reckon 28 = .ok (.iload_n 2, 1) := dgX11_reckon_16.2.2.1
theorem dX11_reckon_29 : decode cX11_reckon 29 = .ok (.if_icmp .ne 7, 3) := dgX11_reckon_16.2.2.2.1
theorem dX11_reckon_32 : decode cX11_reckon 32 = .ok (.iconst 0, 1) := dgX11_reckon_16.2.2.2.2.1
theorem dX11_reckon_33 : decode cX11_reckon 33 = .ok (.goto 6, 3) := dgX11_reckon_16.2.2.2.2.2.1
theorem dX11_reckon_36 : decode cX11_reckon 36 = .ok (.ldc_w 280, 3) := dgX11_reckon_16.2.2.2.2.2.2.1
theorem dX11_reckon_39 : decode cX11_reckon 39 = .ok (.istore 5, 2) := dgX11_reckon_16.2.2.2.2.2.2.2.1
theorem dX11_reckon_41 : decode cX11_reckon 41 = .ok (.iconst 0, 1) := dgX11_reckon_16.2.2.2.2.2.2.2.2.1
theorem dX11_reckon_42 : decode cX11_reckon 42 = .ok (.istore 6, 2) := dgX11_reckon_16.2.2.2.2.2.2.2.2.2.1
theorem dX11_reckon_44 : decode cX11_reckon 44 = .ok (.iload 6, 2) := dgX11_reckon_16.2.2.2.2.2.2.2.2.2.2.1
theorem dX11_reckon_46 : decode cX11_reckon 46 = .ok (.aload_n 0, 1) := dgX11_reckon_16.2.2.2.2.2.2.2.2.2.2.2.1
theorem dX11_reckon_47 : decode cX11_reckon 47 = .ok (.getfield 274, 3) := dgX11_reckon_16.2.2.2.2.2.2.2.2.2.2.2.2.1
theorem dX11_reckon_50 : decode cX11_reckon 50 = .ok (.if_icmp .ge 62, 3) := dgX11_reckon_16.2.2.2.2.2.2.2.2.2.2.2.2.2.1
theorem dX11_reckon_53 : decode cX11_reckon 53 = .ok (.iload_n 3, 1) := dgX11_reckon_16.2.2.2.2.2.2.2.2.2.2.2.2.2.2.1
theorem dX11_reckon_54 : decode cX11_reckon 54 = .ok (.iload_n 2, 1) := dgX11_reckon_16.2.2.2.2.2.2.2.2.2.2.2.2.2.2.2
theorem dgX11_reckon_32 : (decode cX11_reckon 55 = .ok (.if_icmp .eq 57, 3)) ∧ (decode cX11_reckon 58 = .ok (.aload_n 0, 1)) ∧ (decode cX11_reckon 59 = .ok (.iload_n 3, 1)) ∧ (decode cX11_reckon 60 = .ok (.iload 6, 2)) ∧ (decode cX11_reckon 62 = .ok (.iload_n 1, 1)) ∧ (decode cX11_reckon 63 = .ok (.invokevirtual 281, 3)) ∧ (decode cX11_reckon 66 = .ok (.ifCond .ne 6, 3)) ∧ (decode cX11_reckon 69 = .ok (.goto 37, 3)) ∧ (decode cX11_reckon 72 = .ok (.aload_n 0, 1)) ∧ (decode cX11_reckon 73 = .ok (.iload 4, 2)) ∧ (decode cX11_reckon 75 = .ok (.iload 6, 2)) ∧ (decode cX11_reckon 77 = .ok (.invokevirtual 285, 3)) ∧ (decode cX11_reckon 80 = .ok (.aload_n 0, 1)) ∧ (decode cX11_reckon 81 = .ok (.iload_n 3, 1)) ∧ (decode cX11_reckon 82 = .ok (.iconst 1, 1)) ∧ (decode cX11_reckon 83 = .ok (.iload 6, 2)) := by decide +kernel
theorem dX11_reckon_55 : decode cX11_reckon 55 = .ok (.if_icmp .eq 57, 3) := dgX11_reckon_32.1
theorem dX11_reckon_58 : decode cX11_reckon 58 = .ok (.aload_n 0, 1) := dgX11_reckon_32.2.1
theorem dX11_reckon_59 : decode cX11_reckon 59 = .ok (.iload_n 3, 1) := dgX11_reckon_32.2.2.1
theorem dX11_reckon_60 : decode cX11_reckon 60 = .ok (.iload 6, 2) := dgX11_reckon_32.2.2.2.1
theorem dX11_reckon_62 : decode cX11_reckon 62 = .ok (.iload_n 1, 1) := dgX11_reckon_32.2.2.2.2.1
theorem dX11_reckon_63 : decode cX11_reckon 63 = .ok (.invokevirtual 281, 3) := dgX11_reckon_32.2.2.2.2.2.1
theorem dX11_reckon_66 : decode cX11_reckon 66 = .ok (.ifCond .ne 6, 3) := dgX11_reckon_32.2.2.2.2.2.2.1
theorem dX11_reckon_69 : decode cX11_reckon 69 = .ok (.goto 37, 3) := dgX11_reckon_32.2.2.2.2.2.2.2.1
theorem dX11_reckon_72 : decode cX11_reckon 72 = .ok (.aload_n 0, 1) := dgX11_reckon_32.2.2.2.2.2.2.2.2.1
theorem dX11_reckon_73 : decode cX11_reckon 73 = .ok (.iload 4, 2) := dgX11_reckon_32.2.2.2.2.2.2.2.2.2.1
theorem dX11_reckon_75 : decode cX11_reckon 75 = .ok (.iload 6, 2) := dgX11_reckon_32.2.2.2.2.2.2.2.2.2.2.1
theorem dX11_reckon_77 : decode cX11_reckon 77 = .ok (.invokevirtual 285, 3) := dgX11_reckon_32.2.2.2.2.2.2.2.2.2.2.2.1
theorem dX11_reckon_80 : decode cX11_reckon 80 = .ok (.aload_n 0, 1) := dgX11_reckon_32.2.2.2.2.2.2.2.2.2.2.2.2.1
theorem dX11_reckon_81 : decode cX11_reckon 81 = .ok (.iload_n 3, 1) := dgX11_reckon_32.2.2.2.2.2.2.2.2.2.2.2.2.2.1
theorem dX11_reckon_82 : decode cX11_reckon 82 = .ok (.iconst 1, 1) := dgX11_reckon_32.2.2.2.2.2.2.2.2.2.2.2.2.2.2.1
theorem dX11_reckon_83 : decode cX11_reckon 83 = .ok (.iload 6, 2) := dgX11_reckon_32.2.2.2.2.2.2.2.2.2.2.2.2.2.2.2
theorem dgX11_reckon_48 : (decode cX11_reckon 85 = .ok (.ishl, 1)) ∧ (decode cX11_reckon 86 = .ok (.ior, 1)) ∧ (decode cX11_reckon 87 = .ok (.iload 6, 2)) ∧ (decode cX11_reckon 89 = .ok (.invokevirtual 288, 3)) ∧ (decode cX11_reckon 92 = .ok (.iadd, 1)) ∧ (decode cX11_reckon 93 = .ok (.istore 7, 2)) ∧ (decode cX11_reckon 95 = .ok (.iload 7, 2)) ∧ (decode cX11_reckon 97 = .ok (.iload 5, 2)) ∧ (decode cX11_reckon 99 = .ok (.if_icmp .ge 7, 3)) ∧ (decode cX11_reckon 102 = .ok (.iload 7, 2)) ∧ (decode cX11_reckon 104 = .ok (.istore 5, 2)) ∧ (decode cX11_reckon 106 = .ok (.iinc 6 1, 3)) ∧ (decode cX11_reckon 109 = .ok (.goto (-65), 3)) ∧ (decode cX11_reckon 112 = .ok (.aload_n 0, 1)) ∧ (decode cX11_reckon 113 = .ok (.getfield 150, 3)) ∧ (decode cX11_reckon 116 = .ok (.bipush 10, 2)) := by decide +kernel
theorem dX11_reckon_85 : decode cX11_reckon 85 = .ok (.ishl, 1) := dgX11_reckon_48.1
theorem dX11_reckon_86 : decode cX11_reckon 86 = .ok (.ior, 1) := dgX11_reckon_48.2.1
theorem dX11_reckon_87 : decode cX11_reckon 87 = .ok (.iload 6, 2) := dgX11_reckon_48.2.2.1
theorem dX11_reckon_89 : decode cX11_reckon 89 = .ok (.invokevirtual 288, 3) := dgX11_reckon_48.2.2.2.1
theorem dX11_reckon_92 : decode cX11_reckon 92 = .ok (.iadd, 1) := dgX11_reckon_48.2.2.2.2.1
theorem dX11_reckon_93 : decode cX11_reckon 93 = .ok (.istore 7, 2) := dgX11_reckon_48.2.2.2.2.2.1
theorem dX11_reckon_95 : decode cX11_reckon 95 = .ok (.iload 7, 2) := dgX11_reckon_48.2.2.2.2.2.2.1
theorem dX11_reckon_97 : decode cX11_reckon 97 = .ok (.iload 5, 2) := dgX11_reckon_48.2.2.2.2.2.2.2.1
theorem dX11_reckon_99 : decode cX11_reckon 99 = .ok (.if_icmp .ge 7, 3) := dgX11_reckon_48.2.2.2.2.2.2.2.2.1
theorem dX11_reckon_102 : decode cX11_reckon 102 = .ok (.iload 7, 2) := dgX11_reckon_48.2.2.2.2.2.2.2.2.2.1
theorem dX11_reckon_104 : decode cX11_reckon 104 = .ok (.istore 5, 2) := dgX11_reckon_48.2.2.2.2.2.2.2.2.2.2.1
theorem dX11_reckon_106 : decode cX11_reckon 106 = .ok (.iinc 6 1, 3) := dgX11_reckon_48.2.2.2.2.2.2.2.2.2.2.2.1
theorem dX11_reckon_109 : decode cX11_reckon 109 = .ok (.goto (-65), 3) := dgX11_reckon_48.2.2.2.2.2.2.2.2.2.2.2.2.1
theorem dX11_reckon_112 : decode cX11_reckon 112 = .ok (.aload_n 0, 1) := dgX11_reckon_48.2.2.2.2.2.2.2.2.2.2.2.2.2.1
theorem dX11_reckon_113 : decode cX11_reckon 113 = .ok (.getfield 150, 3) := dgX11_reckon_48.2.2.2.2.2.2.2.2.2.2.2.2.2.2.1
theorem dX11_reckon_116 : decode cX11_reckon 116 = .ok (.bipush 10, 2) := dgX11_reckon_48.2.2.2.2.2.2.2.2.2.2.2.2.2.2.2
theorem dgX11_reckon_64 : (decode cX11_reckon 118 = .ok (.iload_n 3, 1)) ∧ (decode cX11_reckon 119 = .ok (.imul, 1)) ∧ (decode cX11_reckon 120 = .ok (.iload 4, 2)) ∧ (decode cX11_reckon 122 = .ok (.iadd, 1)) ∧ (decode cX11_reckon 123 = .ok (.iload 5, 2)) ∧ (decode cX11_reckon 125 = .ok (.iastore, 1)) ∧ (decode cX11_reckon 126 = .ok (.iinc 4 1, 3)) ∧ (decode cX11_reckon 129 = .ok (.goto (-111), 3)) ∧ (decode cX11_reckon 132 = .ok (.iinc 3 (-1), 3)) ∧ (decode cX11_reckon 135 = .ok (.goto (-124), 3)) ∧ (decode cX11_reckon 138 = .ok (.return_, 1)) := by decide +kernel
theorem dX11_reckon_118 : decode cX11_reckon 118 = .ok (.iload_n 3, 1) := dgX11_reckon_64.1
theorem dX11_reckon_119 : decode cX11_reckon 119 = .ok (.imul, 1) := dgX11_reckon_64.2.1
theorem dX11_reckon_120 : decode cX11_reckon 120 = .ok (.iload 4, 2) := dgX11_reckon_64.2.2.1
theorem dX11_reckon_122 : decode cX11_reckon 122 = .ok (.iadd, 1) := dgX11_reckon_64.2.2.2.1
theorem dX11_reckon_123 : decode cX11_reckon 123 = .ok (.iload 5, 2) := dgX11_reckon_64.2.2.2.2.1
theorem dX11_reckon_125 : decode cX11_reckon 125 = .ok (.iastore, 1) := dgX11_reckon_64.2.2.2.2.2.1
theorem dX11_reckon_126 : decode cX11_reckon 126 = .ok (.iinc 4 1, 3) := dgX11_reckon_64.2.2.2.2.2.2.1
theorem dX11_reckon_129 : decode cX11_reckon 129 = .ok (.goto (-111), 3) := dgX11_reckon_64.2.2.2.2.2.2.2.1
theorem dX11_reckon_132 : decode cX11_reckon 132 = .ok (.iinc 3 (-1), 3) := dgX11_reckon_64.2.2.2.2.2.2.2.2.1
theorem dX11_reckon_135 : decode cX11_reckon 135 = .ok (.goto (-124), 3) := dgX11_reckon_64.2.2.2.2.2.2.2.2.2.1
theorem dX11_reckon_138 : decode cX11_reckon 138 = .ok (.return_, 1) := dgX11_reckon_64.2.2.2.2.2.2.2.2.2.2
theorem dgX11_order_0 : (decode cX11_order 0 = .ok (.iload_n 2, 1)) ∧ (decode cX11_order 1 = .ok (.iconst (-1), 1)) ∧ (decode cX11_order 2 = .ok (.aload_n 0, 1)) ∧ (decode cX11_order 3 = .ok (.getfield 274, 3)) ∧ (decode cX11_order 6 = .ok (.iconst 1, 1)) ∧ (decode cX11_order 7 = .ok (.isub, 1)) ∧ (decode cX11_order 8 = .ok (.invokestatic 156, 3)) ∧ (decode cX11_order 11 = .ok (.ifCond .ne 5, 3)) ∧ (decode cX11_order 14 = .ok (.iconst (-1), 1)) ∧ (decode cX11_order 15 = .ok (.ireturn, 1)) ∧ (decode cX11_order 16 = .ok (.aload_n 0, 1)) ∧ (decode cX11_order 17 = .ok (.iload_n 1, 1)) ∧ (decode cX11_order 18 = .ok (.invokevirtual 291, 3)) ∧ (decode cX11_order 21 = .ok (.iconst 0, 1)) ∧ (decode cX11_order 22 = .ok (.istore_n 3, 1)) ∧ (decode cX11_order 23 = .ok (.iconst (-1), 1)) := by decide +kernel
theorem dX11_order_0 : decode cX11_order 0 = .ok (.iload_n 2, 1) := dgX11_order_0.1
theorem dX11_order_1 : decode cX11_order 1 = .ok (.iconst (-1), 1) := dgX11_order_0.2.1
theorem dX11_order_2 : decode cX11_order 2 = .ok (.aload_n 0, 1) := dgX11_order_0.2.2.1
theorem dX11_order_3 : decode cX11_order 3 = .ok (.getfield 274, 3) := dgX11_order_0.2.2.2.1
theorem dX11_order_6 : decode cX11_order 6 = .ok (.iconst 1, 1) := dgX11_order_0.2.2.2.2.1
theorem dX11_order_7 : decode cX11_order 7 = .ok (.isub, 1) := dgX11_order_0.2.2.2.2.2.1
theorem dX11_order_8 : decode cX11_order 8 = .ok (.invokestatic 156, 3) := dgX11_order_0.2.2.2.2.2.2.1
theorem dX11_order_11 : decode cX11_order 11 = .ok (.ifCond .ne 5, 3) := dgX11_order_0.2.2.2.2.2.2.2.1
theorem dX11_order_14 : decode cX11_order 14 = .ok (.iconst (-1), 1) := dgX11_order_0.2.2.2.2.2.2.2.2.1
theorem dX11_order_15 : decode cX11_order 15 = .ok (.ireturn, 1) := dgX11_order_0.2.2.2.2.2.2.2.2.2.1
theorem dX11_order_16 : decode cX11_order 16 = .ok (.aload_n 0, 1) := dgX11_order_0.2.2.2.2.2.2.2.2.2.2.1
theorem dX11_order_17 : decode cX11_order 17 = .ok (.iload_n 1, 1) := dgX11_order_0.2.2.2.2.2.2.2.2.2.2.2.1
theorem dX11_order_18 : decode cX11_order 18 = .ok (.invokevirtual 291, 3) := dgX11_order_0.2.2.2.2.2.2.2.2.2.2.2.2.1
theorem dX11_order_21 : decode cX11_order 21 = .ok (.iconst 0, 1) := dgX11_order_0.2.2.2.2.2.2.2.2.2.2.2.2.2.1
theorem dX11_order_22 : decode cX11_order 22 = .ok (.istore_n 3, 1) := dgX11_order_0.2.2.2.2.2.2.2.2.2.2.2.2.2.2.1
theorem dX11_order_23 : decode cX11_order 23 = .ok (.iconst (-1), 1) := dgX11_order_0.2.2.2.2.2.2.2.2.2.2.2.2.2.2.2
theorem dgX11_order_16 : (decode cX11_order 24 = .ok (.istore 4, 2)) ∧ (decode cX11_order 26 = .ok (.iconst 0, 1)) ∧ (decode cX11_order 27 = .ok (.istore 5, 2)) ∧ (decode cX11_order 29 = .ok (.iconst 0, 1)) ∧ (decode cX11_order 30 = .ok (.istore 6, 2)) ∧ (decode cX11_order 32 = .ok (.iload 6, 2)) ∧ (decode cX11_order 34 = .ok (.aload_n 0, 1)) ∧ (decode cX11_order 35 = .ok (.getfield 274, 3)) ∧ (decode cX11_order 38 = .ok (.if_icmp .ge 131, 3)) ∧ (decode cX11_order 41 = .ok (.iconst (-1), 1)) ∧ (decode cX11_order 42 = .ok (.istore 7, 2)) ∧ (decode cX11_order 44 = .ok (.iconst 0, 1)) ∧ (decode cX11_order 45 = .ok (.istore 8, 2)) ∧ (decode cX11_order 47 = .ok (.iconst 0, 1)) ∧ (decode cX11_order 48 = .ok (.istore 9, 2)) ∧ (decode cX11_order 50 = .ok (.iload 9, 2)) := by decide +kernel
theorem dX11_order_24 : decode cX11_order 24 = .ok (.istore 4, 2) := dgX11_order_16.1
theorem dX11_order_26 : decode cX11_order 26 = .ok (.iconst 0, 1) := dgX11_order_16.2.1
theorem dX11_order_27 : decode cX11_order 27 = .ok (.istore 5, 2) := dgX11_order_16.2.2.1
theorem dX11_order_29 : decode cX11_order 29 = .ok (.iconst 0, 1) := dgX11_order_16.2.2.2.1
theorem dX11_order_30 : decode cX11_order 30 = .ok (.istore 6, 2) := dgX11_order_16.2.2.2.2.1
theorem dX11_order_32 : decode cX11_order 32 = .ok (.iload 6, 2) := dgX11_order_16.2.2.2.2.2.1
theorem dX11_order_34 : decode cX11_order 34 = .ok (.aload_n 0, 1) := dgX11_order_16.2.2.2.2.2.2.1
theorem dX11_order_35 : decode cX11_order 35 = .ok (.getfield 274, 3) := dgX11_order_16.2.2.2.2.2.2.2.1
theorem dX11_order_38 : decode cX11_order 38 = .ok (.if_icmp .ge 131, 3) := dgX11_order_16.2.2.2.2.2.2.2.2.1
theorem dX11_order_41 : decode cX11_order 41 = .ok (.iconst (-1), 1) := dgX11_order_16.2.2.2.2.2.2.2.2.2.1
theorem dX11_order_42 : decode cX11_order 42 = .ok (.istore 7, 2) := dgX11_order_16.2.2.2.2.2.2.2.2.2.2.1
theorem dX11_order_44 : decode cX11_order 44 = .ok (.iconst 0, 1) := dgX11_order_16.2.2.2.2.2.2.2.2.2.2.2.1
theorem dX11_order_45 : decode cX11_order 45 = .ok (.istore 8, 2) := dgX11_order_16.2.2.2.2.2.2.2.2.2.2.2.2.1
theorem dX11_order_47 : decode cX11_order 47 = .ok (.iconst 0, 1) := dgX11_order_16.2.2.2.2.2.2.2.2.2.2.2.2.2.1
theorem dX11_order_48 : decode cX11_order 48 = .ok (.istore 9, 2) := dgX11_order_16.2.2.2.2.2.2.2.2.2.2.2.2.2.2.1
theorem dX11_order_50 : decode cX11_order 50 = .ok (.iload 9, 2) := dgX11_order_16.2.2.2.2.2.2.2.2.2.2.2.2.2.2.2
theorem dgX11_order_32 : (decode cX11_order 52 = .ok (.aload_n 0, 1)) ∧ (decode cX11_order 53 = .ok (.getfield 274, 3)) ∧ (decode cX11_order 56 = .ok (.if_icmp .ge 69, 3)) ∧ (decode cX11_order 59 = .ok (.aload_n 0, 1)) ∧ (decode cX11_order 60 = .ok (.iload_n 3, 1)) ∧ (decode cX11_order 61 = .ok (.iload 9, 2)) ∧ (decode cX11_order 63 = .ok (.iload_n 1, 1)) ∧ (decode cX11_order 64 = .ok (.invokevirtual 281, 3)) ∧ (decode cX11_order 67 = .ok (.ifCond .ne 6, 3)) ∧ (decode cX11_order 70 = .ok (.goto 49, 3)) ∧ (decode cX11_order 73 = .ok (.aload_n 0, 1)) ∧ (decode cX11_order 74 = .ok (.iload 4, 2)) ∧ (decode cX11_order 76 = .ok (.iload 9, 2)) ∧ (decode cX11_order 78 = .ok (.invokevirtual 285, 3)) ∧ (decode cX11_order 81 = .ok (.aload_n 0, 1)) ∧ (decode cX11_order 82 = .ok (.iload_n 3, 1)) := by decide +kernel
theorem dX11_order_52 : decode cX11_order 52 = .ok (.aload_n 0, 1) := dgX11_order_32.1
theorem dX11_order_53 : decode cX11_order 53 = .ok (.getfield 274, 3) := dgX11_order_32.2.1
theorem dX11_order_56 : decode cX11_order 56 = .ok (.if_icmp .ge 69, 3) := dgX11_order_32.2.2.1
theorem dX11_order_59 : decode cX11_order 59 = .ok (.aload_n 0, 1) := dgX11_order_32.2.2.2.1
theorem dX11_order_60 : decode cX11_order 60 = .ok (.iload_n 3, 1) := dgX11_order_32.2.2.2.2.1
theorem dX11_order_61 : decode cX11_order 61 = .ok (.iload 9, 2) := dgX11_order_32.2.2.2.2.2.1
theorem dX11_order_63 : decode cX11_order 63 = .ok (.iload_n 1, 1) := dgX11_order_32.2.2.2.2.2.2.1
theorem dX11_order_64 : decode cX11_order 64 = .ok (.invokevirtual 281, 3) := dgX11_order_32.2.2.2.2.2.2.2.1
theorem dX11_order_67 : decode cX11_order 67 = .ok (.ifCond .ne 6, 3) := dgX11_order_32.2.2.2.2.2.2.2.2.1
theorem dX11_order_70 : decode cX11_order 70 = .ok (.goto 49, 3) := dgX11_order_32.2.2.2.2.2.2.2.2.2.1
theorem dX11_order_73 : decode cX11_order 73 = .ok (.aload_n 0, 1) := dgX11_order_32.2.2.2.2.2.2.2.2.2.2.1
theorem dX11_order_74 : decode cX11_order 74 = .ok (.iload 4, 2) := dgX11_order_32.2.2.2.2.2.2.2.2.2.2.2.1
theorem dX11_order_76 : decode cX11_order 76 = .ok (.iload 9, 2) := dgX11_order_32.2.2.2.2.2.2.2.2.2.2.2.2.1
theorem dX11_order_78 : decode cX11_order 78 = .ok (.invokevirtual 285, 3) := dgX11_order_32.2.2.2.2.2.2.2.2.2.2.2.2.2.1
theorem dX11_order_81 : decode cX11_order 81 = .ok (.aload_n 0, 1) := dgX11_order_32.2.2.2.2.2.2.2.2.2.2.2.2.2.2.1
theorem dX11_order_82 : decode cX11_order 82 = .ok (.iload_n 3, 1) := dgX11_order_32.2.2.2.2.2.2.2.2.2.2.2.2.2.2.2
theorem dgX11_order_48 : (decode cX11_order 83 = .ok (.iconst 1, 1)) ∧ (decode cX11_order 84 = .ok (.iload 9, 2)) ∧ (decode cX11_order 86 = .ok (.ishl, 1)) ∧ (decode cX11_order 87 = .ok (.ior, 1)) ∧ (decode cX11_order 88 = .ok (.iload 9, 2)) ∧ (decode cX11_order 90 = .ok (.invokevirtual 288, 3)) ∧ (decode cX11_order 93 = .ok (.iadd, 1)) ∧ (decode cX11_order 94 = .ok (.istore 10, 2)) ∧ (decode cX11_order 96 = .ok (.iload 7, 2)) ∧ (decode cX11_order 98 = .ok (.ifCond .lt 13, 3)) ∧ (decode cX11_order 101 = .ok (.iload 10, 2)) ∧ (decode cX11_order 103 = .ok (.iload 8, 2)) ∧ (decode cX11_order 105 = .ok (.if_icmp .lt 6, 3)) ∧ (decode cX11_order 108 = .ok (.goto 11, 3)) ∧ (decode cX11_order 111 = .ok (.iload 9, 2)) ∧ (decode cX11_order 113 = .ok (.istore 7, 2)) := by decide +kernel
theorem dX11_order_83 : decode cX11_order 83 = .ok (.iconst 1, 1) := dgX11_order_48.1
theorem dX11_order_84 : decode cX11_order 84 = .ok (.iload 9, 2) := dgX11_order_48.2.1
theorem dX11_order_86 : decode cX11_order 86 = .ok (.ishl, 1) := dgX11_order_48.2.2.1
theorem dX11_order_87 : decode cX11_order 87 = .ok (.ior, 1) := dgX11_order_48.2.2.2.1
theorem dX11_order_88 : decode cX11_order 88 = .ok (.iload 9, 2) := dgX11_order_48.2.2.2.2.1
theorem dX11_order_90 : decode cX11_order 90 = .ok (.invokevirtual 288, 3) := dgX11_order_48.2.2.2.2.2.1
theorem dX11_order_93 : decode cX11_order 93 = .ok (.iadd, 1) := dgX11_order_48.2.2.2.2.2.2.1
theorem dX11_order_94 : decode cX11_order 94 = .ok (.istore 10, 2) := dgX11_order_48.2.2.2.2.2.2.2.1
theorem dX11_order_96 : decode cX11_order 96 = .ok (.iload 7, 2) := dgX11_order_48.2.2.2.2.2.2.2.2.1
theorem dX11_order_98 : decode cX11_order 98 = .ok (.ifCond .lt 13, 3) := dgX11_order_48.2.2.2.2.2.2.2.2.2.1
theorem dX11_order_101 : decode cX11_order 101 = .ok (.iload 10, 2) := dgX11_order_48.2.2.2.2.2.2.2.2.2.2.1
theorem dX11_order_103 : decode cX11_order 103 = .ok (.iload 8, 2) := dgX11_order_48.2.2.2.2.2.2.2.2.2.2.2.1
theorem dX11_order_105 : decode cX11_order 105 = .ok (.if_icmp .lt 6, 3) := dgX11_order_48.2.2.2.2.2.2.2.2.2.2.2.2.1
theorem dX11_order_108 : decode cX11_order 108 = .ok (.goto 11, 3) := dgX11_order_48.2.2.2.2.2.2.2.2.2.2.2.2.2.1
theorem dX11_order_111 : decode cX11_order 111 = .ok (.iload 9, 2) := dgX11_order_48.2.2.2.2.2.2.2.2.2.2.2.2.2.2.1
theorem dX11_order_113 : decode cX11_order 113 = .ok (.istore 7, 2) := dgX11_order_48.2.2.2.2.2.2.2.2.2.2.2.2.2.2.2
theorem dgX11_order_64 : (decode cX11_order 115 = .ok (.iload 10, 2)) ∧ (decode cX11_order 117 = .ok (.istore 8, 2)) ∧ (decode cX11_order 119 = .ok (.iinc 9 1, 3)) ∧ (decode cX11_order 122 = .ok (.goto (-72), 3)) ∧ (decode cX11_order 125 = .ok (.iload 5, 2)) ∧ (decode cX11_order 127 = .ok (.aload_n 0, 1)) ∧ (decode cX11_order 128 = .ok (.iload 4, 2)) ∧ (decode cX11_order 130 = .ok (.iload 7, 2)) ∧ (decode cX11_order 132 = .ok (.invokevirtual 285, 3)) ∧ (decode cX11_order 135 = .ok (.iadd, 1)) ∧ (decode cX11_order 136 = .ok (.istore 5, 2)) ∧ (decode cX11_order 138 = .ok (.iload_n 3, 1)) ∧ (decode cX11_order 139 = .ok (.iconst 1, 1)) ∧ (decode cX11_order 140 = .ok (.iload 7, 2)) ∧ (decode cX11_order 142 = .ok (.ishl, 1)) ∧ (decode cX11_order 143 = .ok (.ior, 1)) := by decide +kernel
theorem dX11_order_115 : decode cX11_order 115 = .ok (.iload 10, 2) := dgX11_order_64.1
theorem dX11_order_117 : decode cX11_order 117 = .ok (.istore 8, 2) := dgX11_order_64.2.1
theorem dX11_order_119 : decode cX11_order 119 = .ok (.iinc 9 1, 3) := dgX11_order_64.2.2.1
theorem dX11_order_122 : decode cX11_order 122 = .ok (.goto (-72), 3) := dgX11_order_64.2.2.2.1
theorem dX11_order_125 : decode cX11_order 125 = .ok (.iload 5, 2) := dgX11_order_64.2.2.2.2.1
theorem dX11_order_127 : decode cX11_order 127 = .ok (.aload_n 0, 1) := dgX11_order_64.2.2.2.2.2.1
theorem dX11_order_128 : decode cX11_order 128 = .ok (.iload 4, 2) := dgX11_order_64.2.2.2.2.2.2.1
theorem dX11_order_130 : decode cX11_order 130 = .ok (.iload 7, 2) := dgX11_order_64.2.2.2.2.2.2.2.1
theorem dX11_order_132 : decode cX11_order 132 = .ok (.invokevirtual 285, 3) := dgX11_order_64.2.2.2.2.2.2.2.2.1
theorem dX11_order_135 : decode cX11_order 135 = .ok (.iadd, 1) := dgX11_order_64.2.2.2.2.2.2.2.2.2.1
theorem dX11_order_136 : decode cX11_order 136 = .ok (.istore 5, 2) := dgX11_order_64.2.2.2.2.2.2.2.2.2.2.1
theorem dX11_order_138 : decode cX11_order 138 = .ok (.iload_n 3, 1) := dgX11_order_64.2.2.2.2.2.2.2.2.2.2.2.1
theorem dX11_order_139 : decode cX11_order 139 = .ok (.iconst 1, 1) := dgX11_order_64.2.2.2.2.2.2.2.2.2.2.2.2.1
theorem dX11_order_140 : decode cX11_order 140 = .ok (.iload 7, 2) := dgX11_order_64.2.2.2.2.2.2.2.2.2.2.2.2.2.1
theorem dX11_order_142 : decode cX11_order 142 = .ok (.ishl, 1) := dgX11_order_64.2.2.2.2.2.2.2.2.2.2.2.2.2.2.1
theorem dX11_order_143 : decode cX11_order 143 = .ok (.ior, 1) := dgX11_order_64.2.2.2.2.2.2.2.2.2.2.2.2.2.2.2
theorem dgX11_order_80 : (decode cX11_order 144 = .ok (.istore_n 3, 1)) ∧ (decode cX11_order 145 = .ok (.iload 7, 2)) ∧ (decode cX11_order 147 = .ok (.istore 4, 2)) ∧ (decode cX11_order 149 = .ok (.iload 6, 2)) ∧ (decode cX11_order 151 = .ok (.iload_n 2, 1)) ∧ (decode cX11_order 152 = .ok (.if_icmp .ne 11, 3)) ∧ (decode cX11_order 155 = .ok (.aload_n 0, 1)) ∧ (decode cX11_order 156 = .ok (.getfield 97, 3)) ∧ (decode cX11_order 159 = .ok (.iload 7, 2)) ∧ (decode cX11_order 161 = .ok (.iaload, 1)) ∧ (decode cX11_order 162 = .ok (.ireturn, 1)) ∧ (decode cX11_order 163 = .ok (.iinc 6 1, 3)) ∧ (decode cX11_order 166 = .ok (.goto (-134), 3)) ∧ (decode cX11_order 169 = .ok (.iload 5, 2)) ∧ (decode cX11_order 171 = .ok (.ireturn, 1)) := by decide +kernel
theorem dX11_order_144 : decode cX11_order 144 = .ok (.istore_n 3, 1) := dgX11_order_80.1
theorem dX11_order_145 : decode cX11_order 145 = .ok (.iload 7, 2) := dgX11_order_80.2.1
theorem dX11_order_147 : decode cX11_order 147 = .ok (.istore 4, 2) := dgX11_order_80.2.2.1
theorem dX11_order_149 : decode cX11_order 149 = .ok (.iload 6, 2) := dgX11_order_80.2.2.2.1
theorem dX11_order_151 : decode cX11_order 151 = .ok (.iload_n 2, 1) := dgX11_order_80.2.2.2.2.1
theorem dX11_order_152 : decode cX11_order 152 = .ok (.if_icmp .ne 11, 3) := dgX11_order_80.2.2.2.2.2.1
theorem dX11_order_155 : decode cX11_order 155 = .ok (.aload_n 0, 1) := dgX11_order_80.2.2.2.2.2.2.1
theorem dX11_order_156 : decode cX11_order 156 = .ok (.getfield 97, 3) := dgX11_order_80.2.2.2.2.2.2.2.1
theorem dX11_order_159 : decode cX11_order 159 = .ok (.iload 7, 2) := dgX11_order_80.2.2.2.2.2.2.2.2.1
theorem dX11_order_161 : decode cX11_order 161 = .ok (.iaload, 1) := dgX11_order_80.2.2.2.2.2.2.2.2.2.1
theorem dX11_order_162 : decode cX11_order 162 = .ok (.ireturn, 1) := dgX11_order_80.2.2.2.2.2.2.2.2.2.2.1
theorem dX11_order_163 : decode cX11_order 163 = .ok (.iinc 6 1, 3) := dgX11_order_80.2.2.2.2.2.2.2.2.2.2.2.1
theorem dX11_order_166 : decode cX11_order 166 = .ok (.goto (-134), 3) := dgX11_order_80.2.2.2.2.2.2.2.2.2.2.2.2.1
theorem dX11_order_169 : decode cX11_order 169 = .ok (.iload 5, 2) := dgX11_order_80.2.2.2.2.2.2.2.2.2.2.2.2.2.1
theorem dX11_order_171 : decode cX11_order 171 = .ok (.ireturn, 1) := dgX11_order_80.2.2.2.2.2.2.2.2.2.2.2.2.2.2
theorem dgX11_hasSome_0 : (decode cX11_hasSome 0 = .ok (.iload_n 1, 1)) ∧ (decode cX11_hasSome 1 = .ok (.ifCond .ne 12, 3)) ∧ (decode cX11_hasSome 4 = .ok (.aload_n 0, 1)) ∧ (decode cX11_hasSome 5 = .ok (.iload_n 2, 1)) ∧ (decode cX11_hasSome 6 = .ok (.iload_n 3, 1)) ∧ (decode cX11_hasSome 7 = .ok (.invokevirtual 256, 3)) ∧ (decode cX11_hasSome 10 = .ok (.goto 23, 3)) ∧ (decode cX11_hasSome 13 = .ok (.iload_n 1, 1)) ∧ (decode cX11_hasSome 14 = .ok (.iconst 1, 1)) ∧ (decode cX11_hasSome 15 = .ok (.if_icmp .ne 12, 3)) ∧ (decode cX11_hasSome 18 = .ok (.aload_n 0, 1)) ∧ (decode cX11_hasSome 19 = .ok (.iload_n 2, 1)) ∧ (decode cX11_hasSome 20 = .ok (.iload_n 3, 1)) ∧ (decode cX11_hasSome 21 = .ok (.invokevirtual 262, 3)) ∧ (decode cX11_hasSome 24 = .ok (.goto 9, 3)) ∧ (decode cX11_hasSome 27 = .ok (.aload_n 0, 1)) := by decide +kernel
theorem dX11_hasSome_0 : decode cX11_hasSome 0 = .ok (.iload_n 1, 1) := dgX11_hasSome_0.1
theorem dX11_hasSome_1 : decode cX11_hasSome 1 = .ok (.ifCond .ne 12, 3) := dgX11_hasSome_0.2.1
theorem dX11_hasSome_4 : decode cX11_hasSome 4 = .ok (.aload_n 0, 1) := dgX11_hasSome_0.2.2.1
theorem dX11_hasSome_5 : decode cX11_hasSome 5 = .ok (.iload_n 2, 1) := dgX11_hasSome_0.2.2.2.1
theorem dX11_hasSome_6 : decode cX11_hasSome 6 = .ok (.iload_n 3, 1) := dgX11_hasSome_0.2.2.2.2.1
theorem dX11_hasSome_7 : decode cX11_hasSome 7 = .ok (.invokevirtual 256, 3) := dgX11_hasSome_0.2.2.2.2.2.1
theorem dX11_hasSome_10 : decode cX11_hasSome 10 = .ok (.goto 23, 3) := dgX11_hasSome_0.2.2.2.2.2.2.1
theorem dX11_hasSome_13 : decode cX11_hasSome 13 = .ok (.iload_n 1, 1) := dgX11_hasSome_0.2.2.2.2.2.2.2.1
theorem dX11_hasSome_14 : decode cX11_hasSome 14 = .ok (.iconst 1, 1) := dgX11_hasSome_0.2.2.2.2.2.2.2.2.1
theorem dX11_hasSome_15 : decode cX11_hasSome 15 = .ok (.if_icmp .ne 12, 3) := dgX11_hasSome_0.2.2.2.2.2.2.2.2.2.1
theorem dX11_hasSome_18 : decode cX11_hasSome 18 = .ok (.aload_n 0, 1) := dgX11_hasSome_0.2.2.2.2.2.2.2.2.2.2.1
theorem dX11_hasSome_19 : decode cX11_hasSome 19 = .ok (.iload_n 2, 1) := dgX11_hasSome_0.2.2.2.2.2.2.2.2.2.2.2.1
theorem dX11_hasSome_20 : decode cX11_hasSome 20 = .ok (.iload_n 3, 1) := dgX11_hasSome_0.2.2.2.2.2.2.2.2.2.2.2.2.1
theorem dX11_hasSome_21 : decode cX11_hasSome 21 = .ok (.invokevirtual 262, 3) := dgX11_hasSome_0.2.2.2.2.2.2.2.2.2.2.2.2.2.1
theorem dX11_hasSome_24 : decode cX11_hasSome 24 = .ok (.goto 9, 3) := dgX11_hasSome_0.2.2.2.2.2.2.2.2.2.2.2.2.2.2.1
theorem dX11_hasSome_27 : decode cX11_hasSome 27 = .ok (.aload_n 0, 1) := dgX11_hasSome_0.2.2.2.2.2.2.2.2.2.2.2.2.2.2.2
theorem dgX11_hasSome_16 : (decode cX11_hasSome 28 = .ok (.iload_n 2, 1)) ∧ (decode cX11_hasSome 29 = .ok (.iload_n 3, 1)) ∧ (decode cX11_hasSome 30 = .ok (.invokevirtual 265, 3)) ∧ (decode cX11_hasSome 33 = .ok (.ireturn, 1)) := by decide +kernel
theorem dX11_hasSome_28 : decode cX11_hasSome 28 = .ok (.iload_n 2, 1) := dgX11_hasSome_16.1
theorem dX11_hasSome_29 : decode cX11_hasSome 29 = .ok (.iload_n 3, 1) := dgX11_hasSome_16.2.1
theorem dX11_hasSome_30 : decode cX11_hasSome 30 = .ok (.invokevirtual 265, 3) := dgX11_hasSome_16.2.2.1
theorem dX11_hasSome_33 : decode cX11_hasSome 33 = .ok (.ireturn, 1) := dgX11_hasSome_16.2.2.2
theorem dgX11_recall_0 : (decode cX11_recall 0 = .ok (.iload_n 1, 1)) ∧ (decode cX11_recall 1 = .ok (.iconst 0, 1)) ∧ (decode cX11_recall 2 = .ok (.aload_n 0, 1)) ∧ (decode cX11_recall 3 = .ok (.getfield 161, 3)) ∧ (decode cX11_recall 6 = .ok (.iconst 1, 1)) ∧ (decode cX11_recall 7 = .ok (.isub, 1)) ∧ (decode cX11_recall 8 = .ok (.invokestatic 156, 3)) ∧ (decode cX11_recall 11 = .ok (.ifCond .eq 12, 3)) ∧ (decode cX11_recall 14 = .ok (.iload_n 2, 1)) ∧ (decode cX11_recall 15 = .ok (.iconst 0, 1)) ∧ (decode cX11_recall 16 = .ok (.iconst 2, 1)) ∧ (decode cX11_recall 17 = .ok (.invokestatic 156, 3)) ∧ (decode cX11_recall 20 = .ok (.ifCond .ne 5, 3)) ∧ (decode cX11_recall 23 = .ok (.iconst (-1), 1)) ∧ (decode cX11_recall 24 = .ok (.ireturn, 1)) ∧ (decode cX11_recall 25 = .ok (.iload_n 2, 1)) := by decide +kernel
theorem dX11_recall_0 : decode cX11_recall 0 = .ok (.iload_n 1, 1) := dgX11_recall_0.1
theorem dX11_recall_1 : decode cX11_recall 1 = .ok (.iconst 0, 1) := dgX11_recall_0.2.1
theorem dX11_recall_2 : decode cX11_recall 2 = .ok (.aload_n 0, 1) := dgX11_recall_0.2.2.1
theorem dX11_recall_3 : decode cX11_recall 3 = .ok (.getfield 161, 3) := dgX11_recall_0.2.2.2.1
theorem dX11_recall_6 : decode cX11_recall 6 = .ok (.iconst 1, 1) := dgX11_recall_0.2.2.2.2.1
theorem dX11_recall_7 : decode cX11_recall 7 = .ok (.isub, 1) := dgX11_recall_0.2.2.2.2.2.1
theorem dX11_recall_8 : decode cX11_recall 8 = .ok (.invokestatic 156, 3) := dgX11_recall_0.2.2.2.2.2.2.1
theorem dX11_recall_11 : decode cX11_recall 11 = .ok (.ifCond .eq 12, 3) := dgX11_recall_0.2.2.2.2.2.2.2.1
theorem dX11_recall_14 : decode cX11_recall 14 = .ok (.iload_n 2, 1) := dgX11_recall_0.2.2.2.2.2.2.2.2.1
theorem dX11_recall_15 : decode cX11_recall 15 = .ok (.iconst 0, 1) := dgX11_recall_0.2.2.2.2.2.2.2.2.2.1
theorem dX11_recall_16 : decode cX11_recall 16 = .ok (.iconst 2, 1) := dgX11_recall_0.2.2.2.2.2.2.2.2.2.2.1
theorem dX11_recall_17 : decode cX11_recall 17 = .ok (.invokestatic 156, 3) := dgX11_recall_0.2.2.2.2.2.2.2.2.2.2.2.1
theorem dX11_recall_20 : decode cX11_recall 20 = .ok (.ifCond .ne 5, 3) := dgX11_recall_0.2.2.2.2.2.2.2.2.2.2.2.2.1
theorem dX11_recall_23 : decode cX11_recall 23 = .ok (.iconst (-1), 1) := dgX11_recall_0.2.2.2.2.2.2.2.2.2.2.2.2.2.1
theorem dX11_recall_24 : decode cX11_recall 24 = .ok (.ireturn, 1) := dgX11_recall_0.2.2.2.2.2.2.2.2.2.2.2.2.2.2.1
theorem dX11_recall_25 : decode cX11_recall 25 = .ok (.iload_n 2, 1) := dgX11_recall_0.2.2.2.2.2.2.2.2.2.2.2.2.2.2.2
theorem dgX11_recall_16 : (decode cX11_recall 26 = .ok (.ifCond .ne 10, 3)) ∧ (decode cX11_recall 29 = .ok (.aload_n 0, 1)) ∧ (decode cX11_recall 30 = .ok (.getfield 153, 3)) ∧ (decode cX11_recall 33 = .ok (.goto 19, 3)) ∧ (decode cX11_recall 36 = .ok (.iload_n 2, 1)) ∧ (decode cX11_recall 37 = .ok (.iconst 1, 1)) ∧ (decode cX11_recall 38 = .ok (.if_icmp .ne 10, 3)) ∧ (decode cX11_recall 41 = .ok (.aload_n 0, 1)) ∧ (decode cX11_recall 42 = .ok (.getfield 203, 3)) ∧ (decode cX11_recall 45 = .ok (.goto 7, 3)) ∧ (decode cX11_recall 48 = .ok (.aload_n 0, 1)) ∧ (decode cX11_recall 49 = .ok (.getfield 235, 3)) ∧ (decode cX11_recall 52 = .ok (.istore 4, 2)) ∧ (decode cX11_recall 54 = .ok (.iconst 0, 1)) ∧ (decode cX11_recall 55 = .ok (.istore 5, 2)) ∧ (decode cX11_recall 57 = .ok (.iconst 0, 1)) := by decide +kernel
theorem dX11_recall_26 : decode cX11_recall 26 = .ok (.ifCond .ne 10, 3) := dgX11_recall_16.1
theorem dX11_recall_29 : decode cX11_recall 29 = .ok (.aload_n 0, 1) := dgX11_recall_16.2.1
theorem dX11_recall_30 : decode cX11_recall 30 = .ok (.getfield 153, 3) := dgX11_recall_16.2.2.1
theorem dX11_recall_33 : decode cX11_recall 33 = .ok (.goto 19, 3) := dgX11_recall_16.2.2.2.1
theorem dX11_recall_36 : decode cX11_recall 36 = .ok (.iload_n 2, 1) := dgX11_recall_16.2.2.2.2.1
theorem dX11_recall_37 : decode cX11_recall 37 = .ok (.iconst 1, 1) := dgX11_recall_16.2.2.2.2.2.1
theorem dX11_recall_38 : decode cX11_recall 38 = .ok (.if_icmp .ne 10, 3) := dgX11_recall_16.2.2.2.2.2.2.1
theorem dX11_recall_41 : decode cX11_recall 41 = .ok (.aload_n 0, 1) := dgX11_recall_16.2.2.2.2.2.2.2.1
theorem dX11_recall_42 : decode cX11_recall 42 = .ok (.getfield 203, 3) := dgX11_recall_16.2.2.2.2.2.2.2.2.1
theorem dX11_recall_45 : decode cX11_recall 45 = .ok (.goto 7, 3) := dgX11_recall_16.2.2.2.2.2.2.2.2.2.1
theorem dX11_recall_48 : decode cX11_recall 48 = .ok (.aload_n 0, 1) := dgX11_recall_16.2.2.2.2.2.2.2.2.2.2.1
theorem dX11_recall_49 : decode cX11_recall 49 = .ok (.getfield 235, 3) := dgX11_recall_16.2.2.2.2.2.2.2.2.2.2.2.1
theorem dX11_recall_52 : decode cX11_recall 52 = .ok (.istore 4, 2) := dgX11_recall_16.2.2.2.2.2.2.2.2.2.2.2.2.1
theorem dX11_recall_54 : decode cX11_recall 54 = .ok (.iconst 0, 1) := dgX11_recall_16.2.2.2.2.2.2.2.2.2.2.2.2.2.1
theorem dX11_recall_55 : decode cX11_recall 55 = .ok (.istore 5, 2) := dgX11_recall_16.2.2.2.2.2.2.2.2.2.2.2.2.2.2.1
theorem dX11_recall_57 : decode cX11_recall 57 = .ok (.iconst 0, 1) := dgX11_recall_16.2.2.2.2.2.2.2.2.2.2.2.2.2.2.2
theorem dgX11_recall_32 : (decode cX11_recall 58 = .ok (.istore 6, 2)) ∧ (decode cX11_recall 60 = .ok (.iload 6, 2)) ∧ (decode cX11_recall 62 = .ok (.iload 4, 2)) ∧ (decode cX11_recall 64 = .ok (.if_icmp .ge 35, 3)) ∧ (decode cX11_recall 67 = .ok (.aload_n 0, 1)) ∧ (decode cX11_recall 68 = .ok (.iload_n 2, 1)) ∧ (decode cX11_recall 69 = .ok (.iload 6, 2)) ∧ (decode cX11_recall 71 = .ok (.iload_n 1, 1)) ∧ (decode cX11_recall 72 = .ok (.invokevirtual 295, 3)) ∧ (decode cX11_recall 75 = .ok (.ifCond .ne 6, 3)) ∧ (decode cX11_recall 78 = .ok (.goto 15, 3)) ∧ (decode cX11_recall 81 = .ok (.iload 5, 2)) ∧ (decode cX11_recall 83 = .ok (.iload_n 3, 1)) ∧ (decode cX11_recall 84 = .ok (.if_icmp .ne 6, 3)) ∧ (decode cX11_recall 87 = .ok (.iload 6, 2)) ∧ (decode cX11_recall 89 = .ok (.ireturn, 1)) := by decide +kernel
theorem dX11_recall_58 : decode cX11_recall 58 = .ok (.istore 6, 2) := dgX11_recall_32.1
theorem dX11_recall_60 : decode cX11_recall 60 = .ok (.iload 6, 2) := dgX11_recall_32.2.1
theorem dX11_recall_62 : decode cX11_recall 62 = .ok (.iload 4, 2) := dgX11_recall_32.2.2.1
theorem dX11_recall_64 : decode cX11_recall 64 = .ok (.if_icmp .ge 35, 3) := dgX11_recall_32.2.2.2.1
theorem dX11_recall_67 : decode cX11_recall 67 = .ok (.aload_n 0, 1) := dgX11_recall_32.2.2.2.2.1
theorem dX11_recall_68 : decode cX11_recall 68 = .ok (.iload_n 2, 1) := dgX11_recall_32.2.2.2.2.2.1
theorem dX11_recall_69 : decode cX11_recall 69 = .ok (.iload 6, 2) := dgX11_recall_32.2.2.2.2.2.2.1
theorem dX11_recall_71 : decode cX11_recall 71 = .ok (.iload_n 1, 1) := dgX11_recall_32.2.2.2.2.2.2.2.1
theorem dX11_recall_72 : decode cX11_recall 72 = .ok (.invokevirtual 295, 3) := dgX11_recall_32.2.2.2.2.2.2.2.2.1
theorem dX11_recall_75 : decode cX11_recall 75 = .ok (.ifCond .ne 6, 3) := dgX11_recall_32.2.2.2.2.2.2.2.2.2.1
theorem dX11_recall_78 : decode cX11_recall 78 = .ok (.goto 15, 3) := dgX11_recall_32.2.2.2.2.2.2.2.2.2.2.1
theorem dX11_recall_81 : decode cX11_recall 81 = .ok (.iload 5, 2) := dgX11_recall_32.2.2.2.2.2.2.2.2.2.2.2.1
theorem dX11_recall_83 : decode cX11_recall 83 = .ok (.iload_n 3, 1) := dgX11_recall_32.2.2.2.2.2.2.2.2.2.2.2.2.1
theorem dX11_recall_84 : decode cX11_recall 84 = .ok (.if_icmp .ne 6, 3) := dgX11_recall_32.2.2.2.2.2.2.2.2.2.2.2.2.2.1
theorem dX11_recall_87 : decode cX11_recall 87 = .ok (.iload 6, 2) := dgX11_recall_32.2.2.2.2.2.2.2.2.2.2.2.2.2.2.1
theorem dX11_recall_89 : decode cX11_recall 89 = .ok (.ireturn, 1) := dgX11_recall_32.2.2.2.2.2.2.2.2.2.2.2.2.2.2.2
theorem dgX11_recall_48 : (decode cX11_recall 90 = .ok (.iinc 5 1, 3)) ∧ (decode cX11_recall 93 = .ok (.iinc 6 1, 3)) ∧ (decode cX11_recall 96 = .ok (.goto (-36), 3)) ∧ (decode cX11_recall 99 = .ok (.iconst (-1), 1)) ∧ (decode cX11_recall 100 = .ok (.ireturn, 1)) := by decide +kernel
theorem dX11_recall_90 : decode cX11_recall 90 = .ok (.iinc 5 1, 3) := dgX11_recall_48.1
theorem dX11_recall_93 : decode cX11_recall 93 = .ok (.iinc 6 1, 3) := dgX11_recall_48.2.1
theorem dX11_recall_96 : decode cX11_recall 96 = .ok (.goto (-36), 3) := dgX11_recall_48.2.2.1
theorem dX11_recall_99 : decode cX11_recall 99 = .ok (.iconst (-1), 1) := dgX11_recall_48.2.2.2.1
theorem dX11_recall_100 : decode cX11_recall 100 = .ok (.ireturn, 1) := dgX11_recall_48.2.2.2.2
theorem dgX11_about_0 : (decode cX11_about 0 = .ok (.iconst 0, 1)) ∧ (decode cX11_about 1 = .ok (.istore_n 2, 1)) ∧ (decode cX11_about 2 = .ok (.iconst 0, 1)) ∧ (decode cX11_about 3 = .ok (.istore_n 3, 1)) ∧ (decode cX11_about 4 = .ok (.iload_n 3, 1)) ∧ (decode cX11_about 5 = .ok (.aload_n 0, 1)) ∧ (decode cX11_about 6 = .ok (.getfield 203, 3)) ∧ (decode cX11_about 9 = .ok (.if_icmp .ge 25, 3)) ∧ (decode cX11_about 12 = .ok (.iload_n 2, 1)) ∧ (decode cX11_about 13 = .ok (.aload_n 0, 1)) ∧ (decode cX11_about 14 = .ok (.iload_n 3, 1)) ∧ (decode cX11_about 15 = .ok (.invokevirtual 216, 3)) ∧ (decode cX11_about 18 = .ok (.ifCond .eq 7, 3)) ∧ (decode cX11_about 21 = .ok (.iconst 1, 1)) ∧ (decode cX11_about 22 = .ok (.goto 4, 3)) ∧ (decode cX11_about 25 = .ok (.iconst 0, 1)) := by decide +kernel
theorem dX11_about_0 : decode cX11_about 0 = .ok (.iconst 0, 1) := dgX11_about_0.1
theorem dX11_about_1 : decode cX11_about 1 = .ok (.istore_n 2, 1) := dgX11_about_0.2.1
theorem dX11_about_2 : decode cX11_about 2 = .ok (.iconst 0, 1) := dgX11_about_0.2.2.1
theorem dX11_about_3 : decode cX11_about 3 = .ok (.istore_n 3, 1) := dgX11_about_0.2.2.2.1
theorem dX11_about_4 : decode cX11_about 4 = .ok (.iload_n 3, 1) := dgX11_about_0.2.2.2.2.1
theorem dX11_about_5 : decode cX11_about 5 = .ok (.aload_n 0, 1) := dgX11_about_0.2.2.2.2.2.1
theorem dX11_about_6 : decode cX11_about 6 = .ok (.getfield 203, 3) := dgX11_about_0.2.2.2.2.2.2.1
theorem dX11_about_9 : decode cX11_about 9 = .ok (.if_icmp .ge 25, 3) := dgX11_about_0.2.2.2.2.2.2.2.1
theorem dX11_about_12 : decode cX11_about 12 = .ok (.iload_n 2, 1) := dgX11_about_0.2.2.2.2.2.2.2.2.1
theorem dX11_about_13 : decode cX11_about 13 = .ok (.aload_n 0, 1) := dgX11_about_0.2.2.2.2.2.2.2.2.2.1
theorem dX11_about_14 : decode cX11_about 14 = .ok (.iload_n 3, 1) := dgX11_about_0.2.2.2.2.2.2.2.2.2.2.1
theorem dX11_about_15 : decode cX11_about 15 = .ok (.invokevirtual 216, 3) := dgX11_about_0.2.2.2.2.2.2.2.2.2.2.2.1
theorem dX11_about_18 : decode cX11_about 18 = .ok (.ifCond .eq 7, 3) := dgX11_about_0.2.2.2.2.2.2.2.2.2.2.2.2.1
theorem dX11_about_21 : decode cX11_about 21 = .ok (.iconst 1, 1) := dgX11_about_0.2.2.2.2.2.2.2.2.2.2.2.2.2.1
theorem dX11_about_22 : decode cX11_about 22 = .ok (.goto 4, 3) := dgX11_about_0.2.2.2.2.2.2.2.2.2.2.2.2.2.2.1
theorem dX11_about_25 : decode cX11_about 25 = .ok (.iconst 0, 1) := dgX11_about_0.2.2.2.2.2.2.2.2.2.2.2.2.2.2.2
theorem dgX11_about_16 : (decode cX11_about 26 = .ok (.iadd, 1)) ∧ (decode cX11_about 27 = .ok (.istore_n 2, 1)) ∧ (decode cX11_about 28 = .ok (.iinc 3 1, 3)) ∧ (decode cX11_about 31 = .ok (.goto (-27), 3)) ∧ (decode cX11_about 34 = .ok (.iload_n 1, 1)) ∧ (decode cX11_about 35 = .ok (.tableswitch 73 0 6 #[41, 46, 51, 56, 61, 66, 71], 41)) ∧ (decode cX11_about 76 = .ok (.aload_n 0, 1)) ∧ (decode cX11_about 77 = .ok (.getfield 161, 3)) ∧ (decode cX11_about 80 = .ok (.ireturn, 1)) ∧ (decode cX11_about 81 = .ok (.aload_n 0, 1)) ∧ (decode cX11_about 82 = .ok (.getfield 153, 3)) ∧ (decode cX11_about 85 = .ok (.ireturn, 1)) ∧ (decode cX11_about 86 = .ok (.aload_n 0, 1)) ∧ (decode cX11_about 87 = .ok (.getfield 203, 3)) ∧ (decode cX11_about 90 = .ok (.ireturn, 1)) ∧ (decode cX11_about 91 = .ok (.aload_n 0, 1)) := by decide +kernel
theorem dX11_about_26 : decode cX11_about 26 = .ok (.iadd, 1) := dgX11_about_16.1
theorem dX11_about_27 : decode cX11_about 27 = .ok (.istore_n 2, 1) := dgX11_about_16.2.1
theorem dX11_about_28 : decode cX11_about 28 = .ok (.iinc 3 1, 3) := dgX11_about_16.2.2.1
theorem dX11_about_31 : decode cX11_about 31 = .ok (.goto (-27), 3) := dgX11_about_16.2.2.2.1
theorem dX11_about_34 : decode cX11_about 34 = .ok (.iload_n 1, 1) := dgX11_about_16.2.2.2.2.1
theorem dX11_about_35 : decode cX11_about 35 = .ok (.tableswitch 73 0 6 #[41, 46, 51, 56, 61, 66, 71], 41) := dgX11_about_16.2.2.2.2.2.1
theorem dX11_about_76 : decode cX11_about 76 = .ok (.aload_n 0, 1) := dgX11_about_16.2.2.2.2.2.2.1
theorem dX11_about_77 : decode cX11_about 77 = .ok (.getfield 161, 3) := dgX11_about_16.2.2.2.2.2.2.2.1
theorem dX11_about_80 : decode cX11_about 80 = .ok (.ireturn, 1) := dgX11_about_16.2.2.2.2.2.2.2.2.1
theorem dX11_about_81 : decode cX11_about 81 = .ok (.aload_n 0, 1) := dgX11_about_16.2.2.2.2.2.2.2.2.2.1
theorem dX11_about_82 : decode cX11_about 82 = .ok (.getfield 153, 3) := dgX11_about_16.2.2.2.2.2.2.2.2.2.2.1
theorem dX11_about_85 : decode cX11_about 85 = .ok (.ireturn, 1) := dgX11_about_16.2.2.2.2.2.2.2.2.2.2.2.1
theorem dX11_about_86 : decode cX11_about 86 = .ok (.aload_n 0, 1) := dgX11_about_16.2.2.2.2.2.2.2.2.2.2.2.2.1
theorem dX11_about_87 : decode cX11_about 87 = .ok (.getfield 203, 3) := dgX11_about_16.2.2.2.2.2.2.2.2.2.2.2.2.2.1
theorem dX11_about_90 : decode cX11_about 90 = .ok (.ireturn, 1) := dgX11_about_16.2.2.2.2.2.2.2.2.2.2.2.2.2.2.1
theorem dX11_about_91 : decode cX11_about 91 = .ok (.aload_n 0, 1) := dgX11_about_16.2.2.2.2.2.2.2.2.2.2.2.2.2.2.2
theorem dgX11_about_32 : (decode cX11_about 92 = .ok (.getfield 235, 3)) ∧ (decode cX11_about 95 = .ok (.ireturn, 1)) ∧ (decode cX11_about 96 = .ok (.aload_n 0, 1)) ∧ (decode cX11_about 97 = .ok (.getfield 175, 3)) ∧ (decode cX11_about 100 = .ok (.ireturn, 1)) ∧ (decode cX11_about 101 = .ok (.aload_n 0, 1)) ∧ (decode cX11_about 102 = .ok (.getfield 274, 3)) ∧ (decode cX11_about 105 = .ok (.ireturn, 1)) ∧ (decode cX11_about 106 = .ok (.iload_n 2, 1)) ∧ (decode cX11_about 107 = .ok (.ireturn, 1)) ∧ (decode cX11_about 108 = .ok (.iconst (-1), 1)) ∧ (decode cX11_about 109 = .ok (.ireturn, 1)) := by decide +kernel
theorem dX11_about_92 : decode cX11_about 92 = .ok (.getfield 235, 3) := dgX11_about_32.1
theorem dX11_about_95 : decode cX11_about 95 = .ok (.ireturn, 1) := dgX11_about_32.2.1
theorem dX11_about_96 : decode cX11_about 96 = .ok (.aload_n 0, 1) := dgX11_about_32.2.2.1
theorem dX11_about_97 : decode cX11_about 97 = .ok (.getfield 175, 3) := dgX11_about_32.2.2.2.1
theorem dX11_about_100 : decode cX11_about 100 = .ok (.ireturn, 1) := dgX11_about_32.2.2.2.2.1
theorem dX11_about_101 : decode cX11_about 101 = .ok (.aload_n 0, 1) := dgX11_about_32.2.2.2.2.2.1
theorem dX11_about_102 : decode cX11_about 102 = .ok (.getfield 274, 3) := dgX11_about_32.2.2.2.2.2.2.1
theorem dX11_about_105 : decode cX11_about 105 = .ok (.ireturn, 1) := dgX11_about_32.2.2.2.2.2.2.2.1
theorem dX11_about_106 : decode cX11_about 106 = .ok (.iload_n 2, 1) := dgX11_about_32.2.2.2.2.2.2.2.2.1
theorem dX11_about_107 : decode cX11_about 107 = .ok (.ireturn, 1) := dgX11_about_32.2.2.2.2.2.2.2.2.2.1
theorem dX11_about_108 : decode cX11_about 108 = .ok (.iconst (-1), 1) := dgX11_about_32.2.2.2.2.2.2.2.2.2.2.1
theorem dX11_about_109 : decode cX11_about 109 = .ok (.ireturn, 1) := dgX11_about_32.2.2.2.2.2.2.2.2.2.2.2
theorem dgX11_left_0 : (decode cX11_left 0 = .ok (.iload_n 1, 1)) ∧ (decode cX11_left 1 = .ok (.iconst 0, 1)) ∧ (decode cX11_left 2 = .ok (.aload_n 0, 1)) ∧ (decode cX11_left 3 = .ok (.getfield 161, 3)) ∧ (decode cX11_left 6 = .ok (.iconst 1, 1)) ∧ (decode cX11_left 7 = .ok (.isub, 1)) ∧ (decode cX11_left 8 = .ok (.invokestatic 156, 3)) ∧ (decode cX11_left 11 = .ok (.ifCond .eq 12, 3)) ∧ (decode cX11_left 14 = .ok (.aload_n 0, 1)) ∧ (decode cX11_left 15 = .ok (.getfield 7, 3)) ∧ (decode cX11_left 18 = .ok (.iload_n 1, 1)) ∧ (decode cX11_left 19 = .ok (.iaload, 1)) ∧ (decode cX11_left 20 = .ok (.goto 4, 3)) ∧ (decode cX11_left 23 = .ok (.iconst (-1), 1)) ∧ (decode cX11_left 24 = .ok (.ireturn, 1)) := by decide +kernel
theorem dX11_left_0 : decode cX11_left 0 = .ok (.iload_n 1, 1) := dgX11_left_0.1
theorem dX11_left_1 : decode cX11_left 1 = .ok (.iconst 0, 1) := dgX11_left_0.2.1
theorem dX11_left_2 : decode cX11_left 2 = .ok (.aload_n 0, 1) := dgX11_left_0.2.2.1
theorem dX11_left_3 : decode cX11_left 3 = .ok (.getfield 161, 3) := dgX11_left_0.2.2.2.1
theorem dX11_left_6 : decode cX11_left 6 = .ok (.iconst 1, 1) := dgX11_left_0.2.2.2.2.1
theorem dX11_left_7 : decode cX11_left 7 = .ok (.isub, 1) := dgX11_left_0.2.2.2.2.2.1
theorem dX11_left_8 : decode cX11_left 8 = .ok (.invokestatic 156, 3) := dgX11_left_0.2.2.2.2.2.2.1
theorem dX11_left_11 : decode cX11_left 11 = .ok (.ifCond .eq 12, 3) := dgX11_left_0.2.2.2.2.2.2.2.1
theorem dX11_left_14 : decode cX11_left 14 = .ok (.aload_n 0, 1) := dgX11_left_0.2.2.2.2.2.2.2.2.1
theorem dX11_left_15 : decode cX11_left 15 = .ok (.getfield 7, 3) := dgX11_left_0.2.2.2.2.2.2.2.2.2.1
theorem dX11_left_18 : decode cX11_left 18 = .ok (.iload_n 1, 1) := dgX11_left_0.2.2.2.2.2.2.2.2.2.2.1
theorem dX11_left_19 : decode cX11_left 19 = .ok (.iaload, 1) := dgX11_left_0.2.2.2.2.2.2.2.2.2.2.2.1
theorem dX11_left_20 : decode cX11_left 20 = .ok (.goto 4, 3) := dgX11_left_0.2.2.2.2.2.2.2.2.2.2.2.2.1
theorem dX11_left_23 : decode cX11_left 23 = .ok (.iconst (-1), 1) := dgX11_left_0.2.2.2.2.2.2.2.2.2.2.2.2.2.1
theorem dX11_left_24 : decode cX11_left 24 = .ok (.ireturn, 1) := dgX11_left_0.2.2.2.2.2.2.2.2.2.2.2.2.2.2
