/-! the data are the program: every row decodes so, and its links stand in the tables -/
set_option maxRecDepth 100000 in
theorem m_ok_150 : m_p_150.all (m_okE 150) = true := by decide +kernel
set_option maxRecDepth 100000 in
theorem m_okm_150 : m_okM 150 = true := by decide +kernel
set_option maxRecDepth 100000 in
theorem m_ok_151 : m_p_151.all (m_okE 151) = true := by decide +kernel
set_option maxRecDepth 100000 in
theorem m_okm_151 : m_okM 151 = true := by decide +kernel
set_option maxRecDepth 100000 in
theorem m_ok_152 : m_p_152.all (m_okE 152) = true := by decide +kernel
set_option maxRecDepth 100000 in
theorem m_okm_152 : m_okM 152 = true := by decide +kernel
set_option maxRecDepth 100000 in
theorem m_ok_153 : m_p_153.all (m_okE 153) = true := by decide +kernel
set_option maxRecDepth 100000 in
theorem m_okm_153 : m_okM 153 = true := by decide +kernel
set_option maxRecDepth 100000 in
theorem m_ok_154 : m_p_154.all (m_okE 154) = true := by decide +kernel
set_option maxRecDepth 100000 in
theorem m_okm_154 : m_okM 154 = true := by decide +kernel
set_option maxRecDepth 100000 in
theorem m_ok_155 : m_p_155.all (m_okE 155) = true := by decide +kernel
set_option maxRecDepth 100000 in
theorem m_okm_155 : m_okM 155 = true := by decide +kernel
set_option maxRecDepth 100000 in
theorem m_ok_156 : m_p_156.all (m_okE 156) = true := by decide +kernel
set_option maxRecDepth 100000 in
theorem m_okm_156 : m_okM 156 = true := by decide +kernel
set_option maxRecDepth 100000 in
theorem m_ok_157 : m_p_157.all (m_okE 157) = true := by decide +kernel
set_option maxRecDepth 100000 in
theorem m_okm_157 : m_okM 157 = true := by decide +kernel
set_option maxRecDepth 100000 in
theorem m_ok_158 : m_p_158.all (m_okE 158) = true := by decide +kernel
set_option maxRecDepth 100000 in
theorem m_okm_158 : m_okM 158 = true := by decide +kernel
set_option maxRecDepth 100000 in
theorem m_ok_159 : m_p_159.all (m_okE 159) = true := by decide +kernel
set_option maxRecDepth 100000 in
theorem m_okm_159 : m_okM 159 = true := by decide +kernel
set_option maxRecDepth 100000 in
theorem m_ok_160 : m_p_160.all (m_okE 160) = true := by decide +kernel
set_option maxRecDepth 100000 in
theorem m_okm_160 : m_okM 160 = true := by decide +kernel
set_option maxRecDepth 100000 in
theorem m_ok_161 : m_p_161.all (m_okE 161) = true := by decide +kernel
set_option maxRecDepth 100000 in
theorem m_okm_161 : m_okM 161 = true := by decide +kernel
set_option maxRecDepth 100000 in
theorem m_ok_162 : m_p_162.all (m_okE 162) = true := by decide +kernel
set_option maxRecDepth 100000 in
theorem m_okm_162 : m_okM 162 = true := by decide +kernel
set_option maxRecDepth 100000 in
theorem m_ok_163 : m_p_163.all (m_okE 163) = true := by decide +kernel
set_option maxRecDepth 100000 in
theorem m_okm_163 : m_okM 163 = true := by decide +kernel
set_option maxRecDepth 100000 in
theorem m_ok_164 : m_p_164.all (m_okE 164) = true := by decide +kernel
set_option maxRecDepth 100000 in
theorem m_okm_164 : m_okM 164 = true := by decide +kernel
set_option maxRecDepth 100000 in
theorem m_ok_165 : m_p_165.all (m_okE 165) = true := by decide +kernel
set_option maxRecDepth 100000 in
theorem m_okm_165 : m_okM 165 = true := by decide +kernel
set_option maxRecDepth 100000 in
theorem m_ok_166 : m_p_166.all (m_okE 166) = true := by decide +kernel
set_option maxRecDepth 100000 in
theorem m_okm_166 : m_okM 166 = true := by decide +kernel
set_option maxRecDepth 100000 in
theorem m_ok_167 : m_p_167.all (m_okE 167) = true := by decide +kernel
set_option maxRecDepth 100000 in
theorem m_okm_167 : m_okM 167 = true := by decide +kernel
set_option maxRecDepth 100000 in
theorem m_ok_168 : m_p_168.all (m_okE 168) = true := by decide +kernel
set_option maxRecDepth 100000 in
theorem m_okm_168 : m_okM 168 = true := by decide +kernel
set_option maxRecDepth 100000 in
theorem m_ok_169 : m_p_169.all (m_okE 169) = true := by decide +kernel
set_option maxRecDepth 100000 in
theorem m_okm_169 : m_okM 169 = true := by decide +kernel
set_option maxRecDepth 100000 in
theorem m_ok_170 : m_p_170.all (m_okE 170) = true := by decide +kernel
set_option maxRecDepth 100000 in
theorem m_okm_170 : m_okM 170 = true := by decide +kernel
set_option maxRecDepth 100000 in
theorem m_ok_171 : m_p_171.all (m_okE 171) = true := by decide +kernel
set_option maxRecDepth 100000 in
theorem m_okm_171 : m_okM 171 = true := by decide +kernel
set_option maxRecDepth 100000 in
theorem m_ok_172 : m_p_172.all (m_okE 172) = true := by decide +kernel
set_option maxRecDepth 100000 in
theorem m_okm_172 : m_okM 172 = true := by decide +kernel
set_option maxRecDepth 100000 in
theorem m_ok_173 : m_p_173.all (m_okE 173) = true := by decide +kernel
set_option maxRecDepth 100000 in
theorem m_okm_173 : m_okM 173 = true := by decide +kernel
set_option maxRecDepth 100000 in
theorem m_ok_174 : m_p_174.all (m_okE 174) = true := by decide +kernel
set_option maxRecDepth 100000 in
theorem m_okm_174 : m_okM 174 = true := by decide +kernel
set_option maxRecDepth 100000 in
theorem m_ok_175 : m_p_175.all (m_okE 175) = true := by decide +kernel
set_option maxRecDepth 100000 in
theorem m_okm_175 : m_okM 175 = true := by decide +kernel
set_option maxRecDepth 100000 in
theorem m_ok_176 : m_p_176.all (m_okE 176) = true := by decide +kernel
set_option maxRecDepth 100000 in
theorem m_okm_176 : m_okM 176 = true := by decide +kernel
set_option maxRecDepth 100000 in
theorem m_ok_177 : m_p_177.all (m_okE 177) = true := by decide +kernel
set_option maxRecDepth 100000 in
theorem m_okm_177 : m_okM 177 = true := by decide +kernel
set_option maxRecDepth 100000 in
theorem m_ok_178 : m_p_178.all (m_okE 178) = true := by decide +kernel
set_option maxRecDepth 100000 in
theorem m_okm_178 : m_okM 178 = true := by decide +kernel
set_option maxRecDepth 100000 in
theorem m_ok_179 : m_p_179.all (m_okE 179) = true := by decide +kernel
set_option maxRecDepth 100000 in
theorem m_okm_179 : m_okM 179 = true := by decide +kernel
set_option maxRecDepth 100000 in
theorem m_ok_180 : m_p_180.all (m_okE 180) = true := by decide +kernel
set_option maxRecDepth 100000 in
theorem m_okm_180 : m_okM 180 = true := by decide +kernel
set_option maxRecDepth 100000 in
theorem m_ok_181 : m_p_181.all (m_okE 181) = true := by decide +kernel
set_option maxRecDepth 100000 in
theorem m_okm_181 : m_okM 181 = true := by decide +kernel
set_option maxRecDepth 100000 in
theorem m_ok_182 : m_p_182.all (m_okE 182) = true := by decide +kernel
set_option maxRecDepth 100000 in
theorem m_okm_182 : m_okM 182 = true := by decide +kernel
set_option maxRecDepth 100000 in
theorem m_ok_183 : m_p_183.all (m_okE 183) = true := by decide +kernel
set_option maxRecDepth 100000 in
theorem m_okm_183 : m_okM 183 = true := by decide +kernel
set_option maxRecDepth 100000 in
theorem m_ok_184 : m_p_184.all (m_okE 184) = true := by decide +kernel
set_option maxRecDepth 100000 in
theorem m_okm_184 : m_okM 184 = true := by decide +kernel
set_option maxRecDepth 100000 in
theorem m_ok_185 : m_p_185.all (m_okE 185) = true := by decide +kernel
set_option maxRecDepth 100000 in
theorem m_okm_185 : m_okM 185 = true := by decide +kernel
set_option maxRecDepth 100000 in
theorem m_ok_186 : m_p_186.all (m_okE 186) = true := by decide +kernel
set_option maxRecDepth 100000 in
theorem m_okm_186 : m_okM 186 = true := by decide +kernel
set_option maxRecDepth 100000 in
theorem m_ok_187 : m_p_187.all (m_okE 187) = true := by decide +kernel
set_option maxRecDepth 100000 in
theorem m_okm_187 : m_okM 187 = true := by decide +kernel
set_option maxRecDepth 100000 in
theorem m_ok_188 : m_p_188.all (m_okE 188) = true := by decide +kernel
set_option maxRecDepth 100000 in
theorem m_okm_188 : m_okM 188 = true := by decide +kernel
set_option maxRecDepth 100000 in
theorem m_ok_189 : m_p_189.all (m_okE 189) = true := by decide +kernel
set_option maxRecDepth 100000 in
theorem m_okm_189 : m_okM 189 = true := by decide +kernel
set_option maxRecDepth 100000 in
theorem m_ok_190 : m_p_190.all (m_okE 190) = true := by decide +kernel
set_option maxRecDepth 100000 in
theorem m_okm_190 : m_okM 190 = true := by decide +kernel
set_option maxRecDepth 100000 in
theorem m_ok_191 : m_p_191.all (m_okE 191) = true := by decide +kernel
set_option maxRecDepth 100000 in
theorem m_okm_191 : m_okM 191 = true := by decide +kernel
set_option maxRecDepth 100000 in
theorem m_ok_192 : m_p_192.all (m_okE 192) = true := by decide +kernel
set_option maxRecDepth 100000 in
theorem m_okm_192 : m_okM 192 = true := by decide +kernel
set_option maxRecDepth 100000 in
theorem m_ok_193 : m_p_193.all (m_okE 193) = true := by decide +kernel
set_option maxRecDepth 100000 in
theorem m_okm_193 : m_okM 193 = true := by decide +kernel
set_option maxRecDepth 100000 in
theorem m_ok_194 : m_p_194.all (m_okE 194) = true := by decide +kernel
set_option maxRecDepth 100000 in
theorem m_okm_194 : m_okM 194 = true := by decide +kernel
set_option maxRecDepth 100000 in
theorem m_ok_195 : m_p_195.all (m_okE 195) = true := by decide +kernel
set_option maxRecDepth 100000 in
theorem m_ok_196 : m_p_196.all (m_okE 196) = true := by decide +kernel
set_option maxRecDepth 100000 in
theorem m_ok_197 : m_p_197.all (m_okE 197) = true := by decide +kernel
set_option maxRecDepth 100000 in
theorem m_ok_198 : m_p_198.all (m_okE 198) = true := by decide +kernel
set_option maxRecDepth 100000 in
theorem m_okm_198 : m_okM 198 = true := by decide +kernel
set_option maxRecDepth 100000 in
theorem m_ok_199 : m_p_199.all (m_okE 199) = true := by decide +kernel
set_option maxRecDepth 100000 in
theorem m_okm_199 : m_okM 199 = true := by decide +kernel
set_option maxRecDepth 100000 in
theorem m_ok_200 : m_p_200.all (m_okE 200) = true := by decide +kernel
set_option maxRecDepth 100000 in
theorem m_okm_200 : m_okM 200 = true := by decide +kernel
set_option maxRecDepth 100000 in
theorem m_ok_201 : m_p_201.all (m_okE 201) = true := by decide +kernel
set_option maxRecDepth 100000 in
theorem m_okm_201 : m_okM 201 = true := by decide +kernel
set_option maxRecDepth 100000 in
theorem m_ok_202 : m_p_202.all (m_okE 202) = true := by decide +kernel
set_option maxRecDepth 100000 in
theorem m_okm_202 : m_okM 202 = true := by decide +kernel
set_option maxRecDepth 100000 in
theorem m_ok_203 : m_p_203.all (m_okE 203) = true := by decide +kernel
set_option maxRecDepth 100000 in
theorem m_okm_203 : m_okM 203 = true := by decide +kernel
set_option maxRecDepth 100000 in
theorem m_ok_204 : m_p_204.all (m_okE 204) = true := by decide +kernel
set_option maxRecDepth 100000 in
theorem m_okm_204 : m_okM 204 = true := by decide +kernel
set_option maxRecDepth 100000 in
theorem m_ok_205 : m_p_205.all (m_okE 205) = true := by decide +kernel
set_option maxRecDepth 100000 in
theorem m_okm_205 : m_okM 205 = true := by decide +kernel
set_option maxRecDepth 100000 in
theorem m_ok_206 : m_p_206.all (m_okE 206) = true := by decide +kernel
set_option maxRecDepth 100000 in
theorem m_okm_206 : m_okM 206 = true := by decide +kernel
set_option maxRecDepth 100000 in
theorem m_ok_207 : m_p_207.all (m_okE 207) = true := by decide +kernel
set_option maxRecDepth 100000 in
theorem m_okm_207 : m_okM 207 = true := by decide +kernel
set_option maxRecDepth 100000 in
theorem m_ok_208 : m_p_208.all (m_okE 208) = true := by decide +kernel
set_option maxRecDepth 100000 in
theorem m_okm_208 : m_okM 208 = true := by decide +kernel
set_option maxRecDepth 100000 in
theorem m_ok_209 : m_p_209.all (m_okE 209) = true := by decide +kernel
set_option maxRecDepth 100000 in
theorem m_okm_209 : m_okM 209 = true := by decide +kernel
set_option maxRecDepth 100000 in
theorem m_ok_210 : m_p_210.all (m_okE 210) = true := by decide +kernel
set_option maxRecDepth 100000 in
theorem m_okm_210 : m_okM 210 = true := by decide +kernel
set_option maxRecDepth 100000 in
theorem m_ok_211 : m_p_211.all (m_okE 211) = true := by decide +kernel
set_option maxRecDepth 100000 in
theorem m_okm_211 : m_okM 211 = true := by decide +kernel
set_option maxRecDepth 100000 in
theorem m_ok_212 : m_p_212.all (m_okE 212) = true := by decide +kernel
set_option maxRecDepth 100000 in
theorem m_okm_212 : m_okM 212 = true := by decide +kernel
set_option maxRecDepth 100000 in
theorem m_ok_213 : m_p_213.all (m_okE 213) = true := by decide +kernel
set_option maxRecDepth 100000 in
theorem m_okm_213 : m_okM 213 = true := by decide +kernel
set_option maxRecDepth 100000 in
theorem m_ok_214 : m_p_214.all (m_okE 214) = true := by decide +kernel
set_option maxRecDepth 100000 in
theorem m_okm_214 : m_okM 214 = true := by decide +kernel
set_option maxRecDepth 100000 in
theorem m_ok_215 : m_p_215.all (m_okE 215) = true := by decide +kernel
set_option maxRecDepth 100000 in
theorem m_okm_215 : m_okM 215 = true := by decide +kernel
set_option maxRecDepth 100000 in
theorem m_ok_216 : m_p_216.all (m_okE 216) = true := by decide +kernel
set_option maxRecDepth 100000 in
theorem m_okm_216 : m_okM 216 = true := by decide +kernel
set_option maxRecDepth 100000 in
theorem m_ok_217 : m_p_217.all (m_okE 217) = true := by decide +kernel
set_option maxRecDepth 100000 in
theorem m_okm_217 : m_okM 217 = true := by decide +kernel
set_option maxRecDepth 100000 in
theorem m_ok_218 : m_p_218.all (m_okE 218) = true := by decide +kernel
set_option maxRecDepth 100000 in
theorem m_okm_218 : m_okM 218 = true := by decide +kernel
set_option maxRecDepth 100000 in
theorem m_ok_219 : m_p_219.all (m_okE 219) = true := by decide +kernel
set_option maxRecDepth 100000 in
theorem m_okm_219 : m_okM 219 = true := by decide +kernel
set_option maxRecDepth 100000 in
theorem m_ok_220 : m_p_220.all (m_okE 220) = true := by decide +kernel
set_option maxRecDepth 100000 in
theorem m_okm_220 : m_okM 220 = true := by decide +kernel
set_option maxRecDepth 100000 in
theorem m_ok_221 : m_p_221.all (m_okE 221) = true := by decide +kernel
set_option maxRecDepth 100000 in
theorem m_okm_221 : m_okM 221 = true := by decide +kernel
set_option maxRecDepth 100000 in
theorem m_ok_222 : m_p_222.all (m_okE 222) = true := by decide +kernel
set_option maxRecDepth 100000 in
theorem m_okm_222 : m_okM 222 = true := by decide +kernel
set_option maxRecDepth 100000 in
theorem m_ok_223 : m_p_223.all (m_okE 223) = true := by decide +kernel
set_option maxRecDepth 100000 in
theorem m_okm_223 : m_okM 223 = true := by decide +kernel
set_option maxRecDepth 100000 in
theorem m_ok_224 : m_p_224.all (m_okE 224) = true := by decide +kernel
set_option maxRecDepth 100000 in
theorem m_okm_224 : m_okM 224 = true := by decide +kernel
set_option maxRecDepth 100000 in
theorem m_ok_225 : m_p_225.all (m_okE 225) = true := by decide +kernel
set_option maxRecDepth 100000 in
theorem m_okm_225 : m_okM 225 = true := by decide +kernel
set_option maxRecDepth 100000 in
theorem m_ok_226 : m_p_226.all (m_okE 226) = true := by decide +kernel
set_option maxRecDepth 100000 in
theorem m_okm_226 : m_okM 226 = true := by decide +kernel
set_option maxRecDepth 100000 in
theorem m_ok_227 : m_p_227.all (m_okE 227) = true := by decide +kernel
set_option maxRecDepth 100000 in
theorem m_okm_227 : m_okM 227 = true := by decide +kernel
set_option maxRecDepth 100000 in
theorem m_ok_228 : m_p_228.all (m_okE 228) = true := by decide +kernel
set_option maxRecDepth 100000 in
theorem m_okm_228 : m_okM 228 = true := by decide +kernel
set_option maxRecDepth 100000 in
theorem m_ok_229 : m_p_229.all (m_okE 229) = true := by decide +kernel
set_option maxRecDepth 100000 in
theorem m_okm_229 : m_okM 229 = true := by decide +kernel
set_option maxRecDepth 100000 in
theorem m_ok_230 : m_p_230.all (m_okE 230) = true := by decide +kernel
set_option maxRecDepth 100000 in
theorem m_okm_230 : m_okM 230 = true := by decide +kernel
set_option maxRecDepth 100000 in
theorem m_ok_231 : m_p_231.all (m_okE 231) = true := by decide +kernel
set_option maxRecDepth 100000 in
theorem m_okm_231 : m_okM 231 = true := by decide +kernel
set_option maxRecDepth 100000 in
theorem m_ok_232 : m_p_232.all (m_okE 232) = true := by decide +kernel
set_option maxRecDepth 100000 in
theorem m_okm_232 : m_okM 232 = true := by decide +kernel
set_option maxRecDepth 100000 in
theorem m_ok_233 : m_p_233.all (m_okE 233) = true := by decide +kernel
set_option maxRecDepth 100000 in
theorem m_okm_233 : m_okM 233 = true := by decide +kernel
set_option maxRecDepth 100000 in
theorem m_ok_234 : m_p_234.all (m_okE 234) = true := by decide +kernel
set_option maxRecDepth 100000 in
theorem m_okm_234 : m_okM 234 = true := by decide +kernel
set_option maxRecDepth 100000 in
theorem m_ok_235 : m_p_235.all (m_okE 235) = true := by decide +kernel
set_option maxRecDepth 100000 in
theorem m_okm_235 : m_okM 235 = true := by decide +kernel
set_option maxRecDepth 100000 in
theorem m_ok_236 : m_p_236.all (m_okE 236) = true := by decide +kernel
set_option maxRecDepth 100000 in
theorem m_okm_236 : m_okM 236 = true := by decide +kernel
set_option maxRecDepth 100000 in
theorem m_ok_237 : m_p_237.all (m_okE 237) = true := by decide +kernel
set_option maxRecDepth 100000 in
theorem m_okm_237 : m_okM 237 = true := by decide +kernel
set_option maxRecDepth 100000 in
theorem m_ok_238 : m_p_238.all (m_okE 238) = true := by decide +kernel
set_option maxRecDepth 100000 in
theorem m_okm_238 : m_okM 238 = true := by decide +kernel
set_option maxRecDepth 100000 in
theorem m_ok_239 : m_p_239.all (m_okE 239) = true := by decide +kernel
set_option maxRecDepth 100000 in
theorem m_okm_239 : m_okM 239 = true := by decide +kernel
set_option maxRecDepth 100000 in
theorem m_ok_240 : m_p_240.all (m_okE 240) = true := by decide +kernel
set_option maxRecDepth 100000 in
theorem m_okm_240 : m_okM 240 = true := by decide +kernel
set_option maxRecDepth 100000 in
theorem m_ok_241 : m_p_241.all (m_okE 241) = true := by decide +kernel
set_option maxRecDepth 100000 in
theorem m_okm_241 : m_okM 241 = true := by decide +kernel
set_option maxRecDepth 100000 in
theorem m_ok_242 : m_p_242.all (m_okE 242) = true := by decide +kernel
set_option maxRecDepth 100000 in
theorem m_okm_242 : m_okM 242 = true := by decide +kernel
set_option maxRecDepth 100000 in
theorem m_ok_243 : m_p_243.all (m_okE 243) = true := by decide +kernel
set_option maxRecDepth 100000 in
theorem m_okm_243 : m_okM 243 = true := by decide +kernel
