set_option maxRecDepth 100000 in
theorem cl_24 : ((l_296.drop 960).take 40).all (ckE 296) = true := by decide +kernel
set_option maxRecDepth 100000 in
theorem cl_25 : ((l_296.drop 1000).take 40).all (ckE 296) = true := by decide +kernel
set_option maxRecDepth 100000 in
theorem cl_26 : ((l_296.drop 1040).take 40).all (ckE 296) = true := by decide +kernel
