set_option maxRecDepth 100000 in
theorem ck_173 : v_C [(146, 27, ([(0, none), (1, none), (2, some ((-1), 11)), (3, some (0, 12))], 3, 0, true))] 146 rw_173 = true := by decide +kernel
set_option maxRecDepth 100000 in
theorem ck_174 : v_C [(153, 5, ([(0, none), (1, none), (2, none), (3, some (0, 1023)), (4, some (0, 10))], 4, 0, true))] 153 rw_174 = true := by decide +kernel
set_option maxRecDepth 100000 in
theorem ck_175 : v_C [(154, 15, ([(0, none), (1, none), (2, none), (3, none), (4, some ((-2147483648), 10)), (5, some ((-2), 9)), (6, some (0, 10))], 6, 0, true))] 154 rw_175 = true := by decide +kernel
set_option maxRecDepth 100000 in
theorem ck_176 : v_C [(155, 5, ([(0, none), (1, none), (2, none), (3, some ((-2147483648), 2147483647)), (4, some (0, 10))], 4, 0, true))] 155 rw_176 = true := by decide +kernel
set_option maxRecDepth 100000 in
theorem ck_177 : v_C [(156, 34, ([(0, none), (1, none), (2, none), (3, none), (4, none), (5, some (0, 2147483647)), (6, some ((-2147483648), 250)), (7, some (0, 8))], 7, 0, true))] 156 rw_177 = true := by decide +kernel
set_option maxRecDepth 100000 in
theorem ck_178 : v_C [(157, 4, ([(0, none), (1, none), (2, some ((-1), 2147483647)), (3, some (0, 8))], 3, 0, true))] 157 rw_178 = true := by decide +kernel
set_option maxRecDepth 100000 in
theorem ck_179 : v_C [(158, 2, ([(0, none), (1, none), (2, none), (3, some (0, 8))], 3, 0, true)), (158, 10, ([(0, none), (1, none), (2, none), (3, none), (4, some (0, 8))], 4, 0, true))] 158 rw_179 = true := by decide +kernel
set_option maxRecDepth 100000 in
theorem ck_180 : v_C [] 163 rw_180 = true := by decide +kernel
set_option maxRecDepth 100000 in
theorem ck_181 : v_C [] 165 rw_181 = true := by decide +kernel
set_option maxRecDepth 100000 in
theorem ck_182 : v_C [] 166 rw_182 = true := by decide +kernel
set_option maxRecDepth 100000 in
theorem ck_185 : v_C [] 195 rw_185 = true := by decide +kernel
set_option maxRecDepth 100000 in
theorem ck_186 : v_C [] 196 rw_186 = true := by decide +kernel
set_option maxRecDepth 100000 in
theorem ck_187 : v_C [] 197 rw_187 = true := by decide +kernel
set_option maxRecDepth 100000 in
theorem ck_188 : v_C [(200, 2, ([(0, none), (1, none), (2, none), (3, some (0, 16))], 3, 0, true))] 200 rw_188 = true := by decide +kernel
set_option maxRecDepth 100000 in
theorem ck_189 : v_C [(201, 2, ([(0, none), (1, none), (2, some (0, 16))], 2, 0, true))] 201 rw_189 = true := by decide +kernel
set_option maxRecDepth 100000 in
theorem ck_190 : v_C [] 203 rw_190 = true := by decide +kernel
set_option maxRecDepth 100000 in
theorem ck_191 : v_C [] 204 rw_191 = true := by decide +kernel
set_option maxRecDepth 100000 in
theorem ck_192 : v_C [] 207 rw_192 = true := by decide +kernel
set_option maxRecDepth 100000 in
theorem ck_193 : v_C [(213, 4, ([(0, none), (1, none), (2, some ((-2147483648), 2147483647)), (3, some (0, 12))], 3, 0, true))] 213 rw_193 = true := by decide +kernel
set_option maxRecDepth 100000 in
theorem ck_194 : v_C [(214, 4, ([(0, none), (1, none), (2, some ((-2147483648), 2147483647)), (3, some (0, 12))], 3, 0, true))] 214 rw_194 = true := by decide +kernel
set_option maxRecDepth 100000 in
theorem ck_195 : v_C [] 215 rw_195 = true := by decide +kernel
set_option maxRecDepth 100000 in
theorem ck_196 : v_C [] 216 rw_196 = true := by decide +kernel
set_option maxRecDepth 100000 in
theorem ck_197 : v_C [] 217 rw_197 = true := by decide +kernel
set_option maxRecDepth 100000 in
theorem ck_198 : v_C [] 218 rw_198 = true := by decide +kernel
set_option maxRecDepth 100000 in
theorem ck_199 : v_C [] 219 rw_199 = true := by decide +kernel
set_option maxRecDepth 100000 in
theorem ck_200 : v_C [] 220 rw_200 = true := by decide +kernel
set_option maxRecDepth 100000 in
theorem ck_201 : v_C [] 221 rw_201 = true := by decide +kernel
set_option maxRecDepth 100000 in
theorem ck_203 : v_C [(228, 22, ([(0, none), (2, some (0, 12))], 2, 0, true))] 228 rw_203 = true := by decide +kernel
set_option maxRecDepth 100000 in
theorem ck_204 : v_C [(230, 2, ([(0, none), (1, none), (2, some (0, 12))], 2, 0, true))] 230 rw_204 = true := by decide +kernel
set_option maxRecDepth 100000 in
theorem ck_205 : v_C [(231, 8, ([(0, none), (1, none), (2, none), (3, some (0, 12))], 3, 0, true))] 231 rw_205 = true := by decide +kernel
set_option maxRecDepth 100000 in
theorem ck_206 : v_C [(232, 2, ([(0, none), (1, some (0, 6))], 1, 0, true))] 232 rw_206 = true := by decide +kernel
set_option maxRecDepth 100000 in
theorem ck_207 : v_C [(233, 2, ([(0, none), (1, some (0, 12))], 1, 0, true))] 233 rw_207 = true := by decide +kernel
set_option maxRecDepth 100000 in
theorem ck_208 : v_C [(234, 2, ([(0, none), (1, some (0, 12))], 1, 0, true)), (234, 12, ([(0, none), (1, none), (2, some (1, 12))], 2, 0, true))] 234 rw_208 = true := by decide +kernel
set_option maxRecDepth 100000 in
theorem ck_209 : v_C [(235, 2, ([(0, none), (1, some (0, 5))], 1, 0, true)), (235, 34, ([(0, none), (1, some (0, 6))], 1, 0, true))] 235 rw_209 = true := by decide +kernel
set_option maxRecDepth 100000 in
theorem ck_210 : v_C [(236, 2, ([(0, none), (1, some (0, 12))], 1, 0, true)), (236, 12, ([(0, none), (1, none), (2, some (0, 6))], 2, 0, true))] 236 rw_210 = true := by decide +kernel
set_option maxRecDepth 100000 in
theorem ck_211 : v_C [(237, 39, ([(0, none), (1, none), (2, some (0, 60))], 2, 0, true))] 237 rw_211 = true := by decide +kernel
set_option maxRecDepth 100000 in
theorem ck_212 : v_C [] 238 rw_212 = true := by decide +kernel
set_option maxRecDepth 100000 in
theorem ck_213 : v_C [(239, 2, ([(0, none), (1, none), (2, some (0, 12))], 2, 0, true)), (239, 107, ([(0, none), (1, none), (2, some (0, 5))], 2, 0, true)), (239, 168, ([(0, none), (1, none), (2, some (0, 6))], 2, 0, true))] 239 rw_213 = true := by decide +kernel
set_option maxRecDepth 100000 in
theorem ck_214 : v_C [(240, 2, ([(0, none), (1, none), (2, some (0, 12))], 2, 0, true)), (240, 107, ([(0, none), (1, none), (2, some (0, 5))], 2, 0, true)), (240, 168, ([(0, none), (1, none), (2, some (0, 6))], 2, 0, true))] 240 rw_214 = true := by decide +kernel
set_option maxRecDepth 100000 in
theorem ck_215 : v_C [] 241 rw_215 = true := by decide +kernel
set_option maxRecDepth 100000 in
theorem ck_216 : v_C [] 243 rw_216 = true := by decide +kernel
set_option maxRecDepth 100000 in
theorem ck_217 : v_C [(244, 4, ([(0, none), (1, none), (2, some (0, 4095)), (3, some (0, 12))], 3, 0, true))] 244 rw_217 = true := by decide +kernel
set_option maxRecDepth 100000 in
theorem ck_218 : v_C [(245, 2, ([(0, none), (1, none), (2, some (0, 12))], 2, 0, true))] 245 rw_218 = true := by decide +kernel
set_option maxRecDepth 100000 in
theorem ck_219 : v_C [] 246 rw_219 = true := by decide +kernel
set_option maxRecDepth 100000 in
theorem ck_220 : v_C [] 247 rw_220 = true := by decide +kernel
set_option maxRecDepth 100000 in
theorem ck_221 : v_C [] 248 rw_221 = true := by decide +kernel
set_option maxRecDepth 100000 in
theorem ck_222 : v_C [(249, 4, ([(0, none), (1, some (0, 4095)), (2, some (0, 12))], 2, 0, true))] 249 rw_222 = true := by decide +kernel
set_option maxRecDepth 100000 in
theorem ck_223 : v_C [(253, 4, ([(0, none), (1, none), (2, some ((-2147483648), 2147483647)), (3, some (0, 6))], 3, 0, true))] 253 rw_223 = true := by decide +kernel
set_option maxRecDepth 100000 in
theorem ck_224 : v_C [(254, 8, ([(0, none), (3, none), (4, some (0, 2147483647)), (5, some ((-1), 5))], 5, 0, false))] 254 rw_224 = true := by decide +kernel
set_option maxRecDepth 100000 in
theorem ck_225 : v_C [(255, 2, ([(0, none), (1, none), (2, some (0, 6))], 2, 0, true))] 255 rw_225 = true := by decide +kernel
set_option maxRecDepth 100000 in
theorem ck_226 : v_C [(257, 2, ([(0, none), (1, none), (2, none), (3, some (0, 3))], 3, 0, true)), (257, 13, ([(0, none), (1, none), (2, none), (3, none), (4, some ((-2147483648), 2147483647)), (5, some (0, 6))], 5, 0, true))] 257 rw_226 = true := by decide +kernel
set_option maxRecDepth 100000 in
theorem ck_227 : v_C [(258, 4, ([(0, none), (1, none), (2, some ((-2147483648), 2147483647)), (3, some (0, 6))], 3, 0, true)), (258, 12, ([(0, none), (1, none), (2, some ((-2147483648), 2147483647)), (3, none), (4, some (0, 5))], 4, 0, true))] 258 rw_227 = true := by decide +kernel
set_option maxRecDepth 100000 in
theorem ck_228 : v_C [(259, 81, ([(0, none), (1, none), (3, none), (4, none), (5, none), (6, some ((-2147483648), 1000000000)), (7, some (0, 2147483647))], 7, 0, true))] 259 rw_228 = true := by decide +kernel
set_option maxRecDepth 100000 in
theorem ck_229 : v_C [] 260 rw_229 = true := by decide +kernel
set_option maxRecDepth 100000 in
theorem ck_230 : v_C [(262, 12, ([(0, none), (1, none), (2, some (0, 6))], 2, 0, true)), (262, 40, ([(0, none), (1, none), (2, none), (3, some (0, 5))], 3, 0, true)), (262, 159, ([(0, none), (1, none), (2, some (0, 4))], 2, 0, true)), (262, 169, ([(0, none), (1, none), (2, none), (3, some ((-2147483648), 2147483647)), (4, some (0, 6))], 4, 0, true))] 262 rw_230 = true := by decide +kernel
set_option maxRecDepth 100000 in
theorem ck_231 : v_C [(263, 12, ([(0, none), (1, none), (2, some (0, 2147483647))], 2, 0, true))] 263 rw_231 = true := by decide +kernel
set_option maxRecDepth 100000 in
theorem ck_232 : v_C [] 264 rw_232 = true := by decide +kernel
set_option maxRecDepth 100000 in
theorem ck_233 : v_C [(265, 29, ([(0, none), (2, none), (3, some (0, 4095)), (4, some (0, 6))], 4, 0, true))] 265 rw_233 = true := by decide +kernel
set_option maxRecDepth 100000 in
theorem ck_234 : v_C [] 266 rw_234 = true := by decide +kernel
set_option maxRecDepth 100000 in
theorem ck_235 : v_C [(267, 5, ([(0, none), (1, none), (2, none), (3, some (0, 1023)), (4, some (0, 10))], 4, 0, true))] 267 rw_235 = true := by decide +kernel
set_option maxRecDepth 100000 in
theorem ck_236 : v_C [(268, 5, ([(0, none), (1, none), (2, none), (3, some ((-2147483648), 2147483647)), (4, some (0, 10))], 4, 0, true))] 268 rw_236 = true := by decide +kernel
set_option maxRecDepth 100000 in
theorem ck_237 : v_C [(269, 56, ([(0, none), (2, none), (4, none), (5, some ((-2), 9)), (6, some ((-2147483648), 2147483647)), (7, some (0, 10))], 7, 0, true))] 269 rw_237 = true := by decide +kernel
set_option maxRecDepth 100000 in
theorem ck_239 : v_C [] 271 rw_239 = true := by decide +kernel
set_option maxRecDepth 100000 in
theorem ck_240 : v_C [] 272 rw_240 = true := by decide +kernel
set_option maxRecDepth 100000 in
theorem ck_241 : v_C [] 273 rw_241 = true := by decide +kernel
set_option maxRecDepth 100000 in
theorem ck_242 : v_C [] 274 rw_242 = true := by decide +kernel
set_option maxRecDepth 100000 in
theorem ck_243 : v_C [(275, 4, ([(0, none), (1, none), (2, some ((-1), 4)), (3, some (0, 5))], 3, 0, true))] 275 rw_243 = true := by decide +kernel
set_option maxRecDepth 100000 in
theorem ck_244 : v_C [(276, 2, ([(0, none), (1, none), (2, some (0, 5))], 2, 0, true))] 276 rw_244 = true := by decide +kernel
set_option maxRecDepth 100000 in
theorem ck_246 : v_C [(278, 44, ([(0, none), (2, none), (3, some (0, 5))], 3, 0, true))] 278 rw_246 = true := by decide +kernel
set_option maxRecDepth 100000 in
theorem ck_248 : v_C [] 280 rw_248 = true := by decide +kernel
set_option maxRecDepth 100000 in
theorem ck_249 : v_C [] 281 rw_249 = true := by decide +kernel
set_option maxRecDepth 100000 in
theorem ck_250 : v_C [] 282 rw_250 = true := by decide +kernel
set_option maxRecDepth 100000 in
theorem ck_251 : v_C [(283, 2, ([(0, none), (1, none), (2, none), (3, some (0, 8))], 3, 0, true))] 283 rw_251 = true := by decide +kernel
set_option maxRecDepth 100000 in
theorem ck_252 : v_C [(284, 4, ([(0, none), (1, none), (2, none), (3, some ((-1), 0))], 3, 0, false))] 284 rw_252 = true := by decide +kernel
set_option maxRecDepth 100000 in
theorem ck_253 : v_C [(284, 4, ([(0, none), (1, none), (2, none), (3, some ((-1), 1))], 3, 0, false))] 284 rw_253 = true := by decide +kernel
set_option maxRecDepth 100000 in
theorem ck_254 : v_C [(284, 4, ([(0, none), (1, none), (2, none), (3, some ((-1), 2))], 3, 0, false))] 284 rw_254 = true := by decide +kernel
set_option maxRecDepth 100000 in
theorem ck_255 : v_C [(284, 4, ([(0, none), (1, none), (2, none), (3, some ((-1), 3))], 3, 0, false))] 284 rw_255 = true := by decide +kernel
set_option maxRecDepth 100000 in
theorem ck_256 : v_C [(284, 4, ([(0, none), (1, none), (2, none), (3, some ((-1), 4))], 3, 0, false))] 284 rw_256 = true := by decide +kernel
set_option maxRecDepth 100000 in
theorem ck_257 : v_C [(284, 4, ([(0, none), (1, none), (2, none), (3, some ((-1), 5))], 3, 0, false))] 284 rw_257 = true := by decide +kernel
set_option maxRecDepth 100000 in
theorem ck_258 : v_C [(284, 4, ([(0, none), (1, none), (2, none), (3, some ((-1), 6))], 3, 0, false))] 284 rw_258 = true := by decide +kernel
set_option maxRecDepth 100000 in
theorem ck_259 : v_C [(284, 4, ([(0, none), (1, none), (2, none), (3, some ((-1), 7))], 3, 0, false))] 284 rw_259 = true := by decide +kernel
set_option maxRecDepth 100000 in
theorem ck_260 : v_C [(285, 69, ([(0, none), (1, none), (2, none), (3, none), (4, none), (5, some (0, 8))], 5, 0, true)), (285, 174, ([(0, none), (1, none), (2, none), (3, none), (4, none), (5, some (0, 2147483647)), (6, some ((-2147483648), 255)), (7, some (0, 8))], 7, 0, true))] 285 rw_260 = true := by decide +kernel
