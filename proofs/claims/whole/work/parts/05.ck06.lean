set_option maxRecDepth 100000 in
theorem ck_216 : (l_216).all (ckE 216) = true := by decide +kernel
set_option maxRecDepth 100000 in
theorem ck_217 : (l_217).all (ckE 217) = true := by decide +kernel
set_option maxRecDepth 100000 in
theorem ck_218 : (l_218).all (ckE 218) = true := by decide +kernel
set_option maxRecDepth 100000 in
theorem ck_219 : (l_219).all (ckE 219) = true := by decide +kernel
set_option maxRecDepth 100000 in
theorem ck_220 : (l_220).all (ckE 220) = true := by decide +kernel
set_option maxRecDepth 100000 in
theorem ck_221 : (l_221).all (ckE 221) = true := by decide +kernel
set_option maxRecDepth 100000 in
theorem ck_222 : (l_222).all (ckE 222) = true := by decide +kernel
set_option maxRecDepth 100000 in
theorem ck_223 : (l_223).all (ckE 223) = true := by decide +kernel
set_option maxRecDepth 100000 in
theorem ck_224 : (l_224).all (ckE 224) = true := by decide +kernel
set_option maxRecDepth 100000 in
theorem ck_225 : (l_225).all (ckE 225) = true := by decide +kernel
set_option maxRecDepth 100000 in
theorem ck_226 : (l_226).all (ckE 226) = true := by decide +kernel
set_option maxRecDepth 100000 in
theorem ck_227 : (l_227).all (ckE 227) = true := by decide +kernel
set_option maxRecDepth 100000 in
theorem ck_228 : (l_228).all (ckE 228) = true := by decide +kernel
set_option maxRecDepth 100000 in
theorem ck_229 : (l_229).all (ckE 229) = true := by decide +kernel
set_option maxRecDepth 100000 in
theorem ck_230 : (l_230).all (ckE 230) = true := by decide +kernel
set_option maxRecDepth 100000 in
theorem ck_231 : (l_231).all (ckE 231) = true := by decide +kernel
set_option maxRecDepth 100000 in
theorem ck_232 : (l_232).all (ckE 232) = true := by decide +kernel
set_option maxRecDepth 100000 in
theorem ck_233 : (l_233).all (ckE 233) = true := by decide +kernel
set_option maxRecDepth 100000 in
theorem ck_234 : (l_234).all (ckE 234) = true := by decide +kernel
set_option maxRecDepth 100000 in
theorem ck_235 : (l_235).all (ckE 235) = true := by decide +kernel
set_option maxRecDepth 100000 in
theorem ck_236 : (l_236).all (ckE 236) = true := by decide +kernel
set_option maxRecDepth 100000 in
theorem ck_237 : (l_237).all (ckE 237) = true := by decide +kernel
set_option maxRecDepth 100000 in
theorem ck_238 : (l_238).all (ckE 238) = true := by decide +kernel
set_option maxRecDepth 100000 in
theorem ck_239 : (l_239).all (ckE 239) = true := by decide +kernel
set_option maxRecDepth 100000 in
theorem ck_240 : (l_240).all (ckE 240) = true := by decide +kernel
set_option maxRecDepth 100000 in
theorem ck_241 : (l_241).all (ckE 241) = true := by decide +kernel
set_option maxRecDepth 100000 in
theorem ck_242 : (l_242).all (ckE 242) = true := by decide +kernel
set_option maxRecDepth 100000 in
theorem ck_243 : (l_243).all (ckE 243) = true := by decide +kernel
set_option maxRecDepth 100000 in
theorem ck_244 : (l_244).all (ckE 244) = true := by decide +kernel
set_option maxRecDepth 100000 in
theorem ck_245 : (l_245).all (ckE 245) = true := by decide +kernel
set_option maxRecDepth 100000 in
theorem ck_246 : (l_246).all (ckE 246) = true := by decide +kernel
set_option maxRecDepth 100000 in
theorem ck_247 : (l_247).all (ckE 247) = true := by decide +kernel
set_option maxRecDepth 100000 in
theorem ck_248 : (l_248).all (ckE 248) = true := by decide +kernel
set_option maxRecDepth 100000 in
theorem ck_249 : (l_249).all (ckE 249) = true := by decide +kernel
set_option maxRecDepth 100000 in
theorem ck_250 : (l_250).all (ckE 250) = true := by decide +kernel
set_option maxRecDepth 100000 in
theorem ck_251 : (l_251).all (ckE 251) = true := by decide +kernel
