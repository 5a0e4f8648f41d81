set_option maxRecDepth 100000 in
theorem cl_8 : ((l_296.drop 320).take 40).all (ckE 296) = true := by decide +kernel
set_option maxRecDepth 100000 in
theorem cl_9 : ((l_296.drop 360).take 40).all (ckE 296) = true := by decide +kernel
set_option maxRecDepth 100000 in
theorem cl_10 : ((l_296.drop 400).take 40).all (ckE 296) = true := by decide +kernel
set_option maxRecDepth 100000 in
theorem cl_11 : ((l_296.drop 440).take 40).all (ckE 296) = true := by decide +kernel
