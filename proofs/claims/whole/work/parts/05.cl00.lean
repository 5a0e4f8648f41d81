set_option maxRecDepth 100000 in
theorem cl_0 : ((l_296.drop 0).take 40).all (ckE 296) = true := by decide +kernel
set_option maxRecDepth 100000 in
theorem cl_1 : ((l_296.drop 40).take 40).all (ckE 296) = true := by decide +kernel
set_option maxRecDepth 100000 in
theorem cl_2 : ((l_296.drop 80).take 40).all (ckE 296) = true := by decide +kernel
set_option maxRecDepth 100000 in
theorem cl_3 : ((l_296.drop 120).take 40).all (ckE 296) = true := by decide +kernel
