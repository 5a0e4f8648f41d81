set_option maxRecDepth 100000 in
theorem cl_16 : ((l_296.drop 640).take 40).all (ckE 296) = true := by decide +kernel
set_option maxRecDepth 100000 in
theorem cl_17 : ((l_296.drop 680).take 40).all (ckE 296) = true := by decide +kernel
set_option maxRecDepth 100000 in
theorem cl_18 : ((l_296.drop 720).take 40).all (ckE 296) = true := by decide +kernel
set_option maxRecDepth 100000 in
theorem cl_19 : ((l_296.drop 760).take 40).all (ckE 296) = true := by decide +kernel
