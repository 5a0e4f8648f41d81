set_option maxRecDepth 100000 in
theorem ck_288 : (l_288).all (ckE 288) = true := by decide +kernel
set_option maxRecDepth 100000 in
theorem ck_289 : (l_289).all (ckE 289) = true := by decide +kernel
set_option maxRecDepth 100000 in
theorem ck_290 : (l_290).all (ckE 290) = true := by decide +kernel
set_option maxRecDepth 100000 in
theorem ck_291 : (l_291).all (ckE 291) = true := by decide +kernel
set_option maxRecDepth 100000 in
theorem ck_292 : (l_292).all (ckE 292) = true := by decide +kernel
set_option maxRecDepth 100000 in
theorem ck_293 : (l_293).all (ckE 293) = true := by decide +kernel
set_option maxRecDepth 100000 in
theorem ck_294 : (l_294).all (ckE 294) = true := by decide +kernel
set_option maxRecDepth 100000 in
theorem ck_295 : (l_295).all (ckE 295) = true := by decide +kernel
