set_option maxRecDepth 100000 in
theorem cl_20 : ((l_296.drop 800).take 40).all (ckE 296) = true := by decide +kernel
set_option maxRecDepth 100000 in
theorem cl_21 : ((l_296.drop 840).take 40).all (ckE 296) = true := by decide +kernel
set_option maxRecDepth 100000 in
theorem cl_22 : ((l_296.drop 880).take 40).all (ckE 296) = true := by decide +kernel
set_option maxRecDepth 100000 in
theorem cl_23 : ((l_296.drop 920).take 40).all (ckE 296) = true := by decide +kernel
