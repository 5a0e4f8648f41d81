set_option maxRecDepth 100000 in
theorem cl_4 : ((l_296.drop 160).take 40).all (ckE 296) = true := by decide +kernel
set_option maxRecDepth 100000 in
theorem cl_5 : ((l_296.drop 200).take 40).all (ckE 296) = true := by decide +kernel
set_option maxRecDepth 100000 in
theorem cl_6 : ((l_296.drop 240).take 40).all (ckE 296) = true := by decide +kernel
set_option maxRecDepth 100000 in
theorem cl_7 : ((l_296.drop 280).take 40).all (ckE 296) = true := by decide +kernel
