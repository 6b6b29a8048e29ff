theorem m_all_chunk {α : Type} (f : α → Bool) (l : List α) (n : Nat) (h1 : (l.take n).all f = true) (h2 : (l.drop n).all f = true) : l.all f = true := by
  rw [← List.take_append_drop n l, List.all_append, h1, h2]; rfl
theorem m_all_end {α : Type} (f : α → Bool) (l : List α) (a n : Nat) (h1 : ((l.drop a).take n).all f = true) (h2 : (l.drop (a + n)).all f = true) : (l.drop a).all f = true := by
  refine m_all_chunk f (l.drop a) n h1 ?_
  rw [List.drop_drop]
  exact h2
set_option maxRecDepth 100000 in
theorem m_okl_end : (m_p_244.drop 1600).all (m_okE 244) = true := by decide +kernel
theorem m_okt_39 : (m_p_244.drop 1560).all (m_okE 244) = true := m_all_end _ _ 1560 40 m_okl_39 m_okl_end
theorem m_okt_38 : (m_p_244.drop 1520).all (m_okE 244) = true := m_all_end _ _ 1520 40 m_okl_38 m_okt_39
theorem m_okt_37 : (m_p_244.drop 1480).all (m_okE 244) = true := m_all_end _ _ 1480 40 m_okl_37 m_okt_38
theorem m_okt_36 : (m_p_244.drop 1440).all (m_okE 244) = true := m_all_end _ _ 1440 40 m_okl_36 m_okt_37
theorem m_okt_35 : (m_p_244.drop 1400).all (m_okE 244) = true := m_all_end _ _ 1400 40 m_okl_35 m_okt_36
theorem m_okt_34 : (m_p_244.drop 1360).all (m_okE 244) = true := m_all_end _ _ 1360 40 m_okl_34 m_okt_35
theorem m_okt_33 : (m_p_244.drop 1320).all (m_okE 244) = true := m_all_end _ _ 1320 40 m_okl_33 m_okt_34
theorem m_okt_32 : (m_p_244.drop 1280).all (m_okE 244) = true := m_all_end _ _ 1280 40 m_okl_32 m_okt_33
theorem m_okt_31 : (m_p_244.drop 1240).all (m_okE 244) = true := m_all_end _ _ 1240 40 m_okl_31 m_okt_32
theorem m_okt_30 : (m_p_244.drop 1200).all (m_okE 244) = true := m_all_end _ _ 1200 40 m_okl_30 m_okt_31
theorem m_okt_29 : (m_p_244.drop 1160).all (m_okE 244) = true := m_all_end _ _ 1160 40 m_okl_29 m_okt_30
theorem m_okt_28 : (m_p_244.drop 1120).all (m_okE 244) = true := m_all_end _ _ 1120 40 m_okl_28 m_okt_29
theorem m_okt_27 : (m_p_244.drop 1080).all (m_okE 244) = true := m_all_end _ _ 1080 40 m_okl_27 m_okt_28
theorem m_okt_26 : (m_p_244.drop 1040).all (m_okE 244) = true := m_all_end _ _ 1040 40 m_okl_26 m_okt_27
theorem m_okt_25 : (m_p_244.drop 1000).all (m_okE 244) = true := m_all_end _ _ 1000 40 m_okl_25 m_okt_26
theorem m_okt_24 : (m_p_244.drop 960).all (m_okE 244) = true := m_all_end _ _ 960 40 m_okl_24 m_okt_25
theorem m_okt_23 : (m_p_244.drop 920).all (m_okE 244) = true := m_all_end _ _ 920 40 m_okl_23 m_okt_24
theorem m_okt_22 : (m_p_244.drop 880).all (m_okE 244) = true := m_all_end _ _ 880 40 m_okl_22 m_okt_23
theorem m_okt_21 : (m_p_244.drop 840).all (m_okE 244) = true := m_all_end _ _ 840 40 m_okl_21 m_okt_22
theorem m_okt_20 : (m_p_244.drop 800).all (m_okE 244) = true := m_all_end _ _ 800 40 m_okl_20 m_okt_21
theorem m_okt_19 : (m_p_244.drop 760).all (m_okE 244) = true := m_all_end _ _ 760 40 m_okl_19 m_okt_20
theorem m_okt_18 : (m_p_244.drop 720).all (m_okE 244) = true := m_all_end _ _ 720 40 m_okl_18 m_okt_19
theorem m_okt_17 : (m_p_244.drop 680).all (m_okE 244) = true := m_all_end _ _ 680 40 m_okl_17 m_okt_18
theorem m_okt_16 : (m_p_244.drop 640).all (m_okE 244) = true := m_all_end _ _ 640 40 m_okl_16 m_okt_17
theorem m_okt_15 : (m_p_244.drop 600).all (m_okE 244) = true := m_all_end _ _ 600 40 m_okl_15 m_okt_16
theorem m_okt_14 : (m_p_244.drop 560).all (m_okE 244) = true := m_all_end _ _ 560 40 m_okl_14 m_okt_15
theorem m_okt_13 : (m_p_244.drop 520).all (m_okE 244) = true := m_all_end _ _ 520 40 m_okl_13 m_okt_14
theorem m_okt_12 : (m_p_244.drop 480).all (m_okE 244) = true := m_all_end _ _ 480 40 m_okl_12 m_okt_13
theorem m_okt_11 : (m_p_244.drop 440).all (m_okE 244) = true := m_all_end _ _ 440 40 m_okl_11 m_okt_12
theorem m_okt_10 : (m_p_244.drop 400).all (m_okE 244) = true := m_all_end _ _ 400 40 m_okl_10 m_okt_11
theorem m_okt_9 : (m_p_244.drop 360).all (m_okE 244) = true := m_all_end _ _ 360 40 m_okl_9 m_okt_10
theorem m_okt_8 : (m_p_244.drop 320).all (m_okE 244) = true := m_all_end _ _ 320 40 m_okl_8 m_okt_9
theorem m_okt_7 : (m_p_244.drop 280).all (m_okE 244) = true := m_all_end _ _ 280 40 m_okl_7 m_okt_8
theorem m_okt_6 : (m_p_244.drop 240).all (m_okE 244) = true := m_all_end _ _ 240 40 m_okl_6 m_okt_7
theorem m_okt_5 : (m_p_244.drop 200).all (m_okE 244) = true := m_all_end _ _ 200 40 m_okl_5 m_okt_6
theorem m_okt_4 : (m_p_244.drop 160).all (m_okE 244) = true := m_all_end _ _ 160 40 m_okl_4 m_okt_5
theorem m_okt_3 : (m_p_244.drop 120).all (m_okE 244) = true := m_all_end _ _ 120 40 m_okl_3 m_okt_4
theorem m_okt_2 : (m_p_244.drop 80).all (m_okE 244) = true := m_all_end _ _ 80 40 m_okl_2 m_okt_3
theorem m_okt_1 : (m_p_244.drop 40).all (m_okE 244) = true := m_all_end _ _ 40 40 m_okl_1 m_okt_2
theorem m_okt_0 : (m_p_244.drop 0).all (m_okE 244) = true := m_all_end _ _ 0 40 m_okl_0 m_okt_1
theorem m_ok_244 : m_p_244.all (m_okE 244) = true := m_okt_0
theorem m_okAll : ∀ M, M < 245 → (m_prog M).all (m_okE M) = true := by
  intro M h
  match M, h with
  | 0, _ => exact m_ok_0
  | 1, _ => exact m_ok_1
  | 2, _ => exact m_ok_2
  | 3, _ => exact m_ok_3
  | 4, _ => exact m_ok_4
  | 5, _ => exact m_ok_5
  | 6, _ => exact m_ok_6
  | 7, _ => exact m_ok_7
  | 8, _ => exact m_ok_8
  | 9, _ => exact m_ok_9
  | 10, _ => exact m_ok_10
  | 11, _ => exact m_ok_11
  | 12, _ => exact m_ok_12
  | 13, _ => exact m_ok_13
  | 14, _ => exact m_ok_14
  | 15, _ => exact m_ok_15
  | 16, _ => exact m_ok_16
  | 17, _ => exact m_ok_17
  | 18, _ => exact m_ok_18
  | 19, _ => exact m_ok_19
  | 20, _ => exact m_ok_20
  | 21, _ => exact m_ok_21
  | 22, _ => exact m_ok_22
  | 23, _ => exact m_ok_23
  | 24, _ => exact m_ok_24
  | 25, _ => exact m_ok_25
  | 26, _ => exact m_ok_26
  | 27, _ => exact m_ok_27
  | 28, _ => exact m_ok_28
  | 29, _ => exact m_ok_29
  | 30, _ => exact m_ok_30
  | 31, _ => exact m_ok_31
  | 32, _ => exact m_ok_32
  | 33, _ => exact m_ok_33
  | 34, _ => exact m_ok_34
  | 35, _ => exact m_ok_35
  | 36, _ => exact m_ok_36
  | 37, _ => exact m_ok_37
  | 38, _ => exact m_ok_38
  | 39, _ => exact m_ok_39
  | 40, _ => exact m_ok_40
  | 41, _ => exact m_ok_41
  | 42, _ => exact m_ok_42
  | 43, _ => exact m_ok_43
  | 44, _ => exact m_ok_44
  | 45, _ => exact m_ok_45
  | 46, _ => exact m_ok_46
  | 47, _ => exact m_ok_47
  | 48, _ => exact m_ok_48
  | 49, _ => exact m_ok_49
  | 50, _ => exact m_ok_50
  | 51, _ => exact m_ok_51
  | 52, _ => exact m_ok_52
  | 53, _ => exact m_ok_53
  | 54, _ => exact m_ok_54
  | 55, _ => exact m_ok_55
  | 56, _ => exact m_ok_56
  | 57, _ => exact m_ok_57
  | 58, _ => exact m_ok_58
  | 59, _ => exact m_ok_59
  | 60, _ => exact m_ok_60
  | 61, _ => exact m_ok_61
  | 62, _ => exact m_ok_62
  | 63, _ => exact m_ok_63
  | 64, _ => exact m_ok_64
  | 65, _ => exact m_ok_65
  | 66, _ => exact m_ok_66
  | 67, _ => exact m_ok_67
  | 68, _ => exact m_ok_68
  | 69, _ => exact m_ok_69
  | 70, _ => exact m_ok_70
  | 71, _ => exact m_ok_71
  | 72, _ => exact m_ok_72
  | 73, _ => exact m_ok_73
  | 74, _ => exact m_ok_74
  | 75, _ => exact m_ok_75
  | 76, _ => exact m_ok_76
  | 77, _ => exact m_ok_77
  | 78, _ => exact m_ok_78
  | 79, _ => exact m_ok_79
  | 80, _ => exact m_ok_80
  | 81, _ => exact m_ok_81
  | 82, _ => exact m_ok_82
  | 83, _ => exact m_ok_83
  | 84, _ => exact m_ok_84
  | 85, _ => exact m_ok_85
  | 86, _ => exact m_ok_86
  | 87, _ => exact m_ok_87
  | 88, _ => exact m_ok_88
  | 89, _ => exact m_ok_89
  | 90, _ => exact m_ok_90
  | 91, _ => exact m_ok_91
  | 92, _ => exact m_ok_92
  | 93, _ => exact m_ok_93
  | 94, _ => exact m_ok_94
  | 95, _ => exact m_ok_95
  | 96, _ => exact m_ok_96
  | 97, _ => exact m_ok_97
  | 98, _ => exact m_ok_98
  | 99, _ => exact m_ok_99
  | 100, _ => exact m_ok_100
  | 101, _ => exact m_ok_101
  | 102, _ => exact m_ok_102
  | 103, _ => exact m_ok_103
  | 104, _ => exact m_ok_104
  | 105, _ => exact m_ok_105
  | 106, _ => exact m_ok_106
  | 107, _ => exact m_ok_107
  | 108, _ => exact m_ok_108
  | 109, _ => exact m_ok_109
  | 110, _ => exact m_ok_110
  | 111, _ => exact m_ok_111
  | 112, _ => exact m_ok_112
  | 113, _ => exact m_ok_113
  | 114, _ => exact m_ok_114
  | 115, _ => exact m_ok_115
  | 116, _ => exact m_ok_116
  | 117, _ => exact m_ok_117
  | 118, _ => exact m_ok_118
  | 119, _ => exact m_ok_119
  | 120, _ => exact m_ok_120
  | 121, _ => exact m_ok_121
  | 122, _ => exact m_ok_122
  | 123, _ => exact m_ok_123
  | 124, _ => exact m_ok_124
  | 125, _ => exact m_ok_125
  | 126, _ => exact m_ok_126
  | 127, _ => exact m_ok_127
  | 128, _ => exact m_ok_128
  | 129, _ => exact m_ok_129
  | 130, _ => exact m_ok_130
  | 131, _ => exact m_ok_131
  | 132, _ => exact m_ok_132
  | 133, _ => exact m_ok_133
  | 134, _ => exact m_ok_134
  | 135, _ => exact m_ok_135
  | 136, _ => exact m_ok_136
  | 137, _ => exact m_ok_137
  | 138, _ => exact m_ok_138
  | 139, _ => exact m_ok_139
  | 140, _ => exact m_ok_140
  | 141, _ => exact m_ok_141
  | 142, _ => exact m_ok_142
  | 143, _ => exact m_ok_143
  | 144, _ => exact m_ok_144
  | 145, _ => exact m_ok_145
  | 146, _ => exact m_ok_146
  | 147, _ => exact m_ok_147
  | 148, _ => exact m_ok_148
  | 149, _ => exact m_ok_149
  | 150, _ => exact m_ok_150
  | 151, _ => exact m_ok_151
  | 152, _ => exact m_ok_152
  | 153, _ => exact m_ok_153
  | 154, _ => exact m_ok_154
  | 155, _ => exact m_ok_155
  | 156, _ => exact m_ok_156
  | 157, _ => exact m_ok_157
  | 158, _ => exact m_ok_158
  | 159, _ => exact m_ok_159
  | 160, _ => exact m_ok_160
  | 161, _ => exact m_ok_161
  | 162, _ => exact m_ok_162
  | 163, _ => exact m_ok_163
  | 164, _ => exact m_ok_164
  | 165, _ => exact m_ok_165
  | 166, _ => exact m_ok_166
  | 167, _ => exact m_ok_167
  | 168, _ => exact m_ok_168
  | 169, _ => exact m_ok_169
  | 170, _ => exact m_ok_170
  | 171, _ => exact m_ok_171
  | 172, _ => exact m_ok_172
  | 173, _ => exact m_ok_173
  | 174, _ => exact m_ok_174
  | 175, _ => exact m_ok_175
  | 176, _ => exact m_ok_176
  | 177, _ => exact m_ok_177
  | 178, _ => exact m_ok_178
  | 179, _ => exact m_ok_179
  | 180, _ => exact m_ok_180
  | 181, _ => exact m_ok_181
  | 182, _ => exact m_ok_182
  | 183, _ => exact m_ok_183
  | 184, _ => exact m_ok_184
  | 185, _ => exact m_ok_185
  | 186, _ => exact m_ok_186
  | 187, _ => exact m_ok_187
  | 188, _ => exact m_ok_188
  | 189, _ => exact m_ok_189
  | 190, _ => exact m_ok_190
  | 191, _ => exact m_ok_191
  | 192, _ => exact m_ok_192
  | 193, _ => exact m_ok_193
  | 194, _ => exact m_ok_194
  | 195, _ => exact m_ok_195
  | 196, _ => exact m_ok_196
  | 197, _ => exact m_ok_197
  | 198, _ => exact m_ok_198
  | 199, _ => exact m_ok_199
  | 200, _ => exact m_ok_200
  | 201, _ => exact m_ok_201
  | 202, _ => exact m_ok_202
  | 203, _ => exact m_ok_203
  | 204, _ => exact m_ok_204
  | 205, _ => exact m_ok_205
  | 206, _ => exact m_ok_206
  | 207, _ => exact m_ok_207
  | 208, _ => exact m_ok_208
  | 209, _ => exact m_ok_209
  | 210, _ => exact m_ok_210
  | 211, _ => exact m_ok_211
  | 212, _ => exact m_ok_212
  | 213, _ => exact m_ok_213
  | 214, _ => exact m_ok_214
  | 215, _ => exact m_ok_215
  | 216, _ => exact m_ok_216
  | 217, _ => exact m_ok_217
  | 218, _ => exact m_ok_218
  | 219, _ => exact m_ok_219
  | 220, _ => exact m_ok_220
  | 221, _ => exact m_ok_221
  | 222, _ => exact m_ok_222
  | 223, _ => exact m_ok_223
  | 224, _ => exact m_ok_224
  | 225, _ => exact m_ok_225
  | 226, _ => exact m_ok_226
  | 227, _ => exact m_ok_227
  | 228, _ => exact m_ok_228
  | 229, _ => exact m_ok_229
  | 230, _ => exact m_ok_230
  | 231, _ => exact m_ok_231
  | 232, _ => exact m_ok_232
  | 233, _ => exact m_ok_233
  | 234, _ => exact m_ok_234
  | 235, _ => exact m_ok_235
  | 236, _ => exact m_ok_236
  | 237, _ => exact m_ok_237
  | 238, _ => exact m_ok_238
  | 239, _ => exact m_ok_239
  | 240, _ => exact m_ok_240
  | 241, _ => exact m_ok_241
  | 242, _ => exact m_ok_242
  | 243, _ => exact m_ok_243
  | 244, _ => exact m_ok_244
  | n + 245, h => omega
theorem m_okmAll : ∀ x, m_isM x = true → m_okM x = true := by
  intro x h
  match x, h with
  | 0, _ => exact m_okm_0
  | 1, _ => exact m_okm_1
  | 2, _ => exact m_okm_2
  | 3, _ => exact m_okm_3
  | 4, _ => exact m_okm_4
  | 5, _ => exact m_okm_5
  | 6, _ => exact m_okm_6
  | 7, _ => exact m_okm_7
  | 8, _ => exact m_okm_8
  | 9, _ => exact m_okm_9
  | 10, _ => exact m_okm_10
  | 11, _ => exact m_okm_11
  | 12, _ => exact m_okm_12
  | 13, _ => exact m_okm_13
  | 14, _ => exact m_okm_14
  | 15, _ => exact m_okm_15
  | 16, _ => exact m_okm_16
  | 17, _ => exact m_okm_17
  | 18, _ => exact m_okm_18
  | 19, _ => exact m_okm_19
  | 20, _ => exact m_okm_20
  | 21, _ => exact m_okm_21
  | 22, _ => exact m_okm_22
  | 23, _ => exact m_okm_23
  | 24, _ => exact m_okm_24
  | 25, _ => exact m_okm_25
  | 26, _ => exact m_okm_26
  | 27, _ => exact m_okm_27
  | 28, _ => exact m_okm_28
  | 29, _ => exact m_okm_29
  | 30, _ => exact m_okm_30
  | 31, _ => exact m_okm_31
  | 32, _ => exact m_okm_32
  | 33, _ => exact m_okm_33
  | 34, _ => exact m_okm_34
  | 35, _ => exact m_okm_35
  | 36, _ => exact m_okm_36
  | 37, _ => exact m_okm_37
  | 38, _ => exact m_okm_38
  | 39, _ => exact m_okm_39
  | 40, _ => exact m_okm_40
  | 41, _ => exact m_okm_41
  | 42, _ => exact m_okm_42
  | 43, _ => exact m_okm_43
  | 44, _ => exact m_okm_44
  | 45, _ => exact m_okm_45
  | 46, _ => exact m_okm_46
  | 47, _ => exact m_okm_47
  | 48, _ => exact m_okm_48
  | 49, _ => exact m_okm_49
  | 50, _ => exact m_okm_50
  | 51, _ => exact m_okm_51
  | 52, _ => exact m_okm_52
  | 53, _ => exact m_okm_53
  | 54, _ => exact m_okm_54
  | 55, _ => exact m_okm_55
  | 56, _ => exact m_okm_56
  | 57, _ => exact m_okm_57
  | 58, _ => exact m_okm_58
  | 59, _ => exact m_okm_59
  | 60, _ => exact m_okm_60
  | 61, _ => exact m_okm_61
  | 62, _ => exact m_okm_62
  | 63, _ => exact m_okm_63
  | 64, _ => exact m_okm_64
  | 65, _ => exact m_okm_65
  | 66, _ => exact m_okm_66
  | 67, _ => exact m_okm_67
  | 68, _ => exact m_okm_68
  | 69, _ => exact m_okm_69
  | 70, _ => exact m_okm_70
  | 71, _ => exact m_okm_71
  | 72, _ => exact m_okm_72
  | 73, _ => exact m_okm_73
  | 74, _ => exact m_okm_74
  | 75, _ => exact m_okm_75
  | 76, _ => exact m_okm_76
  | 77, _ => exact m_okm_77
  | 78, _ => exact m_okm_78
  | 79, _ => exact m_okm_79
  | 80, _ => exact m_okm_80
  | 81, _ => exact m_okm_81
  | 82, _ => exact m_okm_82
  | 83, _ => exact m_okm_83
  | 84, _ => exact m_okm_84
  | 85, _ => exact m_okm_85
  | 86, _ => exact m_okm_86
  | 87, _ => exact m_okm_87
  | 88, _ => exact m_okm_88
  | 89, _ => exact m_okm_89
  | 90, _ => exact m_okm_90
  | 91, _ => exact m_okm_91
  | 92, _ => exact m_okm_92
  | 93, _ => exact m_okm_93
  | 94, _ => exact m_okm_94
  | 95, _ => exact m_okm_95
  | 96, _ => exact m_okm_96
  | 97, _ => exact m_okm_97
  | 98, _ => exact m_okm_98
  | 99, _ => exact m_okm_99
  | 100, _ => exact m_okm_100
  | 101, _ => exact m_okm_101
  | 102, _ => exact m_okm_102
  | 103, _ => exact m_okm_103
  | 104, _ => exact m_okm_104
  | 105, _ => exact m_okm_105
  | 106, _ => exact m_okm_106
  | 107, _ => exact m_okm_107
  | 108, _ => exact m_okm_108
  | 109, _ => exact m_okm_109
  | 110, _ => exact m_okm_110
  | 111, _ => exact m_okm_111
  | 112, _ => exact m_okm_112
  | 113, _ => exact m_okm_113
  | 114, _ => exact m_okm_114
  | 115, _ => exact m_okm_115
  | 116, _ => exact m_okm_116
  | 117, _ => exact m_okm_117
  | 118, _ => exact m_okm_118
  | 119, _ => exact m_okm_119
  | 120, _ => exact m_okm_120
  | 121, _ => exact m_okm_121
  | 122, _ => exact m_okm_122
  | 123, _ => exact m_okm_123
  | 124, _ => exact m_okm_124
  | 125, _ => exact m_okm_125
  | 126, _ => exact m_okm_126
  | 127, _ => exact m_okm_127
  | 128, _ => exact m_okm_128
  | 129, _ => exact m_okm_129
  | 130, _ => exact m_okm_130
  | 131, _ => exact m_okm_131
  | 132, _ => exact m_okm_132
  | 133, _ => exact m_okm_133
  | 134, _ => exact m_okm_134
  | 135, _ => exact m_okm_135
  | 136, _ => exact m_okm_136
  | 137, _ => exact m_okm_137
  | 138, _ => exact m_okm_138
  | 139, _ => exact m_okm_139
  | 140, _ => exact m_okm_140
  | 141, _ => exact m_okm_141
  | 142, _ => exact m_okm_142
  | 143, _ => exact m_okm_143
  | 144, _ => exact m_okm_144
  | 145, _ => exact m_okm_145
  | 146, _ => exact m_okm_146
  | 147, _ => exact m_okm_147
  | 148, _ => exact m_okm_148
  | 149, _ => exact m_okm_149
  | 150, _ => exact m_okm_150
  | 151, _ => exact m_okm_151
  | 152, _ => exact m_okm_152
  | 153, _ => exact m_okm_153
  | 154, _ => exact m_okm_154
  | 155, _ => exact m_okm_155
  | 156, _ => exact m_okm_156
  | 157, _ => exact m_okm_157
  | 158, _ => exact m_okm_158
  | 159, _ => exact m_okm_159
  | 160, _ => exact m_okm_160
  | 161, _ => exact m_okm_161
  | 162, _ => exact m_okm_162
  | 163, _ => exact m_okm_163
  | 164, _ => exact m_okm_164
  | 165, _ => exact m_okm_165
  | 166, _ => exact m_okm_166
  | 167, _ => exact m_okm_167
  | 168, _ => exact m_okm_168
  | 169, _ => exact m_okm_169
  | 170, _ => exact m_okm_170
  | 171, _ => exact m_okm_171
  | 172, _ => exact m_okm_172
  | 173, _ => exact m_okm_173
  | 174, _ => exact m_okm_174
  | 175, _ => exact m_okm_175
  | 176, _ => exact m_okm_176
  | 177, _ => exact m_okm_177
  | 178, _ => exact m_okm_178
  | 179, _ => exact m_okm_179
  | 180, _ => exact m_okm_180
  | 181, _ => exact m_okm_181
  | 182, _ => exact m_okm_182
  | 183, _ => exact m_okm_183
  | 184, _ => exact m_okm_184
  | 185, _ => exact m_okm_185
  | 186, _ => exact m_okm_186
  | 187, _ => exact m_okm_187
  | 188, _ => exact m_okm_188
  | 189, _ => exact m_okm_189
  | 190, _ => exact m_okm_190
  | 191, _ => exact m_okm_191
  | 192, _ => exact m_okm_192
  | 193, _ => exact m_okm_193
  | 194, _ => exact m_okm_194
  | 195, h => exact absurd h (by decide)
  | 196, h => exact absurd h (by decide)
  | 197, h => exact absurd h (by decide)
  | 198, _ => exact m_okm_198
  | 199, _ => exact m_okm_199
  | 200, _ => exact m_okm_200
  | 201, _ => exact m_okm_201
  | 202, _ => exact m_okm_202
  | 203, _ => exact m_okm_203
  | 204, _ => exact m_okm_204
  | 205, _ => exact m_okm_205
  | 206, _ => exact m_okm_206
  | 207, _ => exact m_okm_207
  | 208, _ => exact m_okm_208
  | 209, _ => exact m_okm_209
  | 210, _ => exact m_okm_210
  | 211, _ => exact m_okm_211
  | 212, _ => exact m_okm_212
  | 213, _ => exact m_okm_213
  | 214, _ => exact m_okm_214
  | 215, _ => exact m_okm_215
  | 216, _ => exact m_okm_216
  | 217, _ => exact m_okm_217
  | 218, _ => exact m_okm_218
  | 219, _ => exact m_okm_219
  | 220, _ => exact m_okm_220
  | 221, _ => exact m_okm_221
  | 222, _ => exact m_okm_222
  | 223, _ => exact m_okm_223
  | 224, _ => exact m_okm_224
  | 225, _ => exact m_okm_225
  | 226, _ => exact m_okm_226
  | 227, _ => exact m_okm_227
  | 228, _ => exact m_okm_228
  | 229, _ => exact m_okm_229
  | 230, _ => exact m_okm_230
  | 231, _ => exact m_okm_231
  | 232, _ => exact m_okm_232
  | 233, _ => exact m_okm_233
  | 234, _ => exact m_okm_234
  | 235, _ => exact m_okm_235
  | 236, _ => exact m_okm_236
  | 237, _ => exact m_okm_237
  | 238, _ => exact m_okm_238
  | 239, _ => exact m_okm_239
  | 240, _ => exact m_okm_240
  | 241, _ => exact m_okm_241
  | 242, _ => exact m_okm_242
  | 243, _ => exact m_okm_243
  | n + 244, h =>
    simp only [m_isM, Bool.or_eq_true, Bool.and_eq_true, decide_eq_true_eq] at h
    omega
