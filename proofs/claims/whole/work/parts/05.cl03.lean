set_option maxRecDepth 100000 in
theorem cl_12 : ((l_296.drop 480).take 40).all (ckE 296) = true := by decide +kernel
set_option maxRecDepth 100000 in
theorem cl_13 : ((l_296.drop 520).take 40).all (ckE 296) = true := by decide +kernel
set_option maxRecDepth 100000 in
theorem cl_14 : ((l_296.drop 560).take 40).all (ckE 296) = true := by decide +kernel
set_option maxRecDepth 100000 in
theorem cl_15 : ((l_296.drop 600).take 40).all (ckE 296) = true := by decide +kernel
