set_option maxRecDepth 100000 in
theorem ck_252 : (l_252).all (ckE 252) = true := by decide +kernel
set_option maxRecDepth 100000 in
theorem ck_253 : (l_253).all (ckE 253) = true := by decide +kernel
set_option maxRecDepth 100000 in
theorem ck_254 : (l_254).all (ckE 254) = true := by decide +kernel
set_option maxRecDepth 100000 in
theorem ck_255 : (l_255).all (ckE 255) = true := by decide +kernel
set_option maxRecDepth 100000 in
theorem ck_256 : (l_256).all (ckE 256) = true := by decide +kernel
set_option maxRecDepth 100000 in
theorem ck_257 : (l_257).all (ckE 257) = true := by decide +kernel
set_option maxRecDepth 100000 in
theorem ck_258 : (l_258).all (ckE 258) = true := by decide +kernel
set_option maxRecDepth 100000 in
theorem ck_259 : (l_259).all (ckE 259) = true := by decide +kernel
set_option maxRecDepth 100000 in
theorem ck_260 : (l_260).all (ckE 260) = true := by decide +kernel
set_option maxRecDepth 100000 in
theorem ck_261 : (l_261).all (ckE 261) = true := by decide +kernel
set_option maxRecDepth 100000 in
theorem ck_262 : (l_262).all (ckE 262) = true := by decide +kernel
set_option maxRecDepth 100000 in
theorem ck_263 : (l_263).all (ckE 263) = true := by decide +kernel
set_option maxRecDepth 100000 in
theorem ck_264 : (l_264).all (ckE 264) = true := by decide +kernel
set_option maxRecDepth 100000 in
theorem ck_265 : (l_265).all (ckE 265) = true := by decide +kernel
set_option maxRecDepth 100000 in
theorem ck_266 : (l_266).all (ckE 266) = true := by decide +kernel
set_option maxRecDepth 100000 in
theorem ck_267 : (l_267).all (ckE 267) = true := by decide +kernel
set_option maxRecDepth 100000 in
theorem ck_268 : (l_268).all (ckE 268) = true := by decide +kernel
set_option maxRecDepth 100000 in
theorem ck_269 : (l_269).all (ckE 269) = true := by decide +kernel
set_option maxRecDepth 100000 in
theorem ck_270 : (l_270).all (ckE 270) = true := by decide +kernel
set_option maxRecDepth 100000 in
theorem ck_271 : (l_271).all (ckE 271) = true := by decide +kernel
set_option maxRecDepth 100000 in
theorem ck_272 : (l_272).all (ckE 272) = true := by decide +kernel
set_option maxRecDepth 100000 in
theorem ck_273 : (l_273).all (ckE 273) = true := by decide +kernel
set_option maxRecDepth 100000 in
theorem ck_274 : (l_274).all (ckE 274) = true := by decide +kernel
set_option maxRecDepth 100000 in
theorem ck_275 : (l_275).all (ckE 275) = true := by decide +kernel
set_option maxRecDepth 100000 in
theorem ck_276 : (l_276).all (ckE 276) = true := by decide +kernel
set_option maxRecDepth 100000 in
theorem ck_277 : (l_277).all (ckE 277) = true := by decide +kernel
set_option maxRecDepth 100000 in
theorem ck_278 : (l_278).all (ckE 278) = true := by decide +kernel
set_option maxRecDepth 100000 in
theorem ck_279 : (l_279).all (ckE 279) = true := by decide +kernel
set_option maxRecDepth 100000 in
theorem ck_280 : (l_280).all (ckE 280) = true := by decide +kernel
set_option maxRecDepth 100000 in
theorem ck_281 : (l_281).all (ckE 281) = true := by decide +kernel
set_option maxRecDepth 100000 in
theorem ck_282 : (l_282).all (ckE 282) = true := by decide +kernel
set_option maxRecDepth 100000 in
theorem ck_283 : (l_283).all (ckE 283) = true := by decide +kernel
set_option maxRecDepth 100000 in
theorem ck_284 : (l_284).all (ckE 284) = true := by decide +kernel
set_option maxRecDepth 100000 in
theorem ck_285 : (l_285).all (ckE 285) = true := by decide +kernel
set_option maxRecDepth 100000 in
theorem ck_286 : (l_286).all (ckE 286) = true := by decide +kernel
set_option maxRecDepth 100000 in
theorem ck_287 : (l_287).all (ckE 287) = true := by decide +kernel
