/-! the blocks are what s_cmp makes of the data: method by method -/
set_option maxRecDepth 100000 in
theorem bq_170 : bm_170 = s_bks 170 bc_170 := rfl
set_option maxRecDepth 100000 in
theorem bq_171 : bm_171 = s_bks 171 bc_171 := rfl
set_option maxRecDepth 100000 in
theorem bq_172 : bm_172 = s_bks 172 bc_172 := rfl
set_option maxRecDepth 100000 in
theorem bq_173 : bm_173 = s_bks 173 bc_173 := rfl
set_option maxRecDepth 100000 in
theorem bq_174 : bm_174 = s_bks 174 bc_174 := rfl
set_option maxRecDepth 100000 in
theorem bq_175 : bm_175 = s_bks 175 bc_175 := rfl
set_option maxRecDepth 100000 in
theorem bq_176 : bm_176 = s_bks 176 bc_176 := rfl
set_option maxRecDepth 100000 in
theorem bq_177 : bm_177 = s_bks 177 bc_177 := rfl
set_option maxRecDepth 100000 in
theorem bq_178 : bm_178 = s_bks 178 bc_178 := rfl
set_option maxRecDepth 100000 in
theorem bq_179 : bm_179 = s_bks 179 bc_179 := rfl
set_option maxRecDepth 100000 in
theorem bq_180 : bm_180 = s_bks 180 bc_180 := rfl
set_option maxRecDepth 100000 in
theorem bq_181 : bm_181 = s_bks 181 bc_181 := rfl
set_option maxRecDepth 100000 in
theorem bq_182 : bm_182 = s_bks 182 bc_182 := rfl
set_option maxRecDepth 100000 in
theorem bq_183 : bm_183 = s_bks 183 bc_183 := rfl
set_option maxRecDepth 100000 in
theorem bq_184 : bm_184 = s_bks 184 bc_184 := rfl
set_option maxRecDepth 100000 in
theorem bq_185 : bm_185 = s_bks 185 bc_185 := rfl
set_option maxRecDepth 100000 in
theorem bq_186 : bm_186 = s_bks 186 bc_186 := rfl
set_option maxRecDepth 100000 in
theorem bq_187 : bm_187 = s_bks 187 bc_187 := rfl
set_option maxRecDepth 100000 in
theorem bq_188 : bm_188 = s_bks 188 bc_188 := rfl
set_option maxRecDepth 100000 in
theorem bq_189 : bm_189 = s_bks 189 bc_189 := rfl
set_option maxRecDepth 100000 in
theorem bq_190 : bm_190 = s_bks 190 bc_190 := rfl
set_option maxRecDepth 100000 in
theorem bq_191 : bm_191 = s_bks 191 bc_191 := rfl
set_option maxRecDepth 100000 in
theorem bq_192 : bm_192 = s_bks 192 bc_192 := rfl
set_option maxRecDepth 100000 in
theorem bq_193 : bm_193 = s_bks 193 bc_193 := rfl
set_option maxRecDepth 100000 in
theorem bq_194 : bm_194 = s_bks 194 bc_194 := rfl
set_option maxRecDepth 100000 in
theorem bq_198 : bm_198 = s_bks 198 bc_198 := rfl
set_option maxRecDepth 100000 in
theorem bq_199 : bm_199 = s_bks 199 bc_199 := rfl
set_option maxRecDepth 100000 in
theorem bq_200 : bm_200 = s_bks 200 bc_200 := rfl
set_option maxRecDepth 100000 in
theorem bq_201 : bm_201 = s_bks 201 bc_201 := rfl
set_option maxRecDepth 100000 in
theorem bq_202 : bm_202 = s_bks 202 bc_202 := rfl
set_option maxRecDepth 100000 in
theorem bq_203 : bm_203 = s_bks 203 bc_203 := rfl
set_option maxRecDepth 100000 in
theorem bq_204 : bm_204 = s_bks 204 bc_204 := rfl
set_option maxRecDepth 100000 in
theorem bq_205 : bm_205 = s_bks 205 bc_205 := rfl
set_option maxRecDepth 100000 in
theorem bq_206 : bm_206 = s_bks 206 bc_206 := rfl
set_option maxRecDepth 100000 in
theorem bq_207 : bm_207 = s_bks 207 bc_207 := rfl
set_option maxRecDepth 100000 in
theorem bq_208 : bm_208 = s_bks 208 bc_208 := rfl
set_option maxRecDepth 100000 in
theorem bq_209 : bm_209 = s_bks 209 bc_209 := rfl
set_option maxRecDepth 100000 in
theorem bq_210 : bm_210 = s_bks 210 bc_210 := rfl
set_option maxRecDepth 100000 in
theorem bq_211 : bm_211 = s_bks 211 bc_211 := rfl
set_option maxRecDepth 100000 in
theorem bq_212 : bm_212 = s_bks 212 bc_212 := rfl
set_option maxRecDepth 100000 in
theorem bq_213 : bm_213 = s_bks 213 bc_213 := rfl
set_option maxRecDepth 100000 in
theorem bq_214 : bm_214 = s_bks 214 bc_214 := rfl
set_option maxRecDepth 100000 in
theorem bq_215 : bm_215 = s_bks 215 bc_215 := rfl
set_option maxRecDepth 100000 in
theorem bq_216 : bm_216 = s_bks 216 bc_216 := rfl
set_option maxRecDepth 100000 in
theorem bq_217 : bm_217 = s_bks 217 bc_217 := rfl
set_option maxRecDepth 100000 in
theorem bq_218 : bm_218 = s_bks 218 bc_218 := rfl
set_option maxRecDepth 100000 in
theorem bq_219 : bm_219 = s_bks 219 bc_219 := rfl
set_option maxRecDepth 100000 in
theorem bq_220 : bm_220 = s_bks 220 bc_220 := rfl
set_option maxRecDepth 100000 in
theorem bq_221 : bm_221 = s_bks 221 bc_221 := rfl
set_option maxRecDepth 100000 in
theorem bq_222 : bm_222 = s_bks 222 bc_222 := rfl
set_option maxRecDepth 100000 in
theorem bq_223 : bm_223 = s_bks 223 bc_223 := rfl
set_option maxRecDepth 100000 in
theorem bq_224 : bm_224 = s_bks 224 bc_224 := rfl
set_option maxRecDepth 100000 in
theorem bq_225 : bm_225 = s_bks 225 bc_225 := rfl
set_option maxRecDepth 100000 in
theorem bq_226 : bm_226 = s_bks 226 bc_226 := rfl
set_option maxRecDepth 100000 in
theorem bq_227 : bm_227 = s_bks 227 bc_227 := rfl
set_option maxRecDepth 100000 in
theorem bq_228 : bm_228 = s_bks 228 bc_228 := rfl
set_option maxRecDepth 100000 in
theorem bq_229 : bm_229 = s_bks 229 bc_229 := rfl
set_option maxRecDepth 100000 in
theorem bq_230 : bm_230 = s_bks 230 bc_230 := rfl
set_option maxRecDepth 100000 in
theorem bq_231 : bm_231 = s_bks 231 bc_231 := rfl
set_option maxRecDepth 100000 in
theorem bq_232 : bm_232 = s_bks 232 bc_232 := rfl
set_option maxRecDepth 100000 in
theorem bq_233 : bm_233 = s_bks 233 bc_233 := rfl
set_option maxRecDepth 100000 in
theorem bq_234 : bm_234 = s_bks 234 bc_234 := rfl
set_option maxRecDepth 100000 in
theorem bq_235 : bm_235 = s_bks 235 bc_235 := rfl
set_option maxRecDepth 100000 in
theorem bq_236 : bm_236 = s_bks 236 bc_236 := rfl
set_option maxRecDepth 100000 in
theorem bq_237 : bm_237 = s_bks 237 bc_237 := rfl
set_option maxRecDepth 100000 in
theorem bq_238 : bm_238 = s_bks 238 bc_238 := rfl
set_option maxRecDepth 100000 in
theorem bq_239 : bm_239 = s_bks 239 bc_239 := rfl
set_option maxRecDepth 100000 in
theorem bq_240 : bm_240 = s_bks 240 bc_240 := rfl
set_option maxRecDepth 100000 in
theorem bq_241 : bm_241 = s_bks 241 bc_241 := rfl
set_option maxRecDepth 100000 in
theorem bq_242 : bm_242 = s_bks 242 bc_242 := rfl
set_option maxRecDepth 100000 in
theorem bq_243 : bm_243 = s_bks 243 bc_243 := rfl
