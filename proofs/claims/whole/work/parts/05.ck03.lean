set_option maxRecDepth 100000 in
theorem ck_108 : (l_108).all (ckE 108) = true := by decide +kernel
set_option maxRecDepth 100000 in
theorem ck_109 : (l_109).all (ckE 109) = true := by decide +kernel
set_option maxRecDepth 100000 in
theorem ck_110 : (l_110).all (ckE 110) = true := by decide +kernel
set_option maxRecDepth 100000 in
theorem ck_111 : (l_111).all (ckE 111) = true := by decide +kernel
set_option maxRecDepth 100000 in
theorem ck_112 : (l_112).all (ckE 112) = true := by decide +kernel
set_option maxRecDepth 100000 in
theorem ck_113 : (l_113).all (ckE 113) = true := by decide +kernel
set_option maxRecDepth 100000 in
theorem ck_114 : (l_114).all (ckE 114) = true := by decide +kernel
set_option maxRecDepth 100000 in
theorem ck_115 : (l_115).all (ckE 115) = true := by decide +kernel
set_option maxRecDepth 100000 in
theorem ck_116 : (l_116).all (ckE 116) = true := by decide +kernel
set_option maxRecDepth 100000 in
theorem ck_117 : (l_117).all (ckE 117) = true := by decide +kernel
set_option maxRecDepth 100000 in
theorem ck_118 : (l_118).all (ckE 118) = true := by decide +kernel
set_option maxRecDepth 100000 in
theorem ck_119 : (l_119).all (ckE 119) = true := by decide +kernel
set_option maxRecDepth 100000 in
theorem ck_120 : (l_120).all (ckE 120) = true := by decide +kernel
set_option maxRecDepth 100000 in
theorem ck_121 : (l_121).all (ckE 121) = true := by decide +kernel
set_option maxRecDepth 100000 in
theorem ck_122 : (l_122).all (ckE 122) = true := by decide +kernel
set_option maxRecDepth 100000 in
theorem ck_123 : (l_123).all (ckE 123) = true := by decide +kernel
set_option maxRecDepth 100000 in
theorem ck_124 : (l_124).all (ckE 124) = true := by decide +kernel
set_option maxRecDepth 100000 in
theorem ck_125 : (l_125).all (ckE 125) = true := by decide +kernel
set_option maxRecDepth 100000 in
theorem ck_126 : (l_126).all (ckE 126) = true := by decide +kernel
set_option maxRecDepth 100000 in
theorem ck_127 : (l_127).all (ckE 127) = true := by decide +kernel
set_option maxRecDepth 100000 in
theorem ck_128 : (l_128).all (ckE 128) = true := by decide +kernel
set_option maxRecDepth 100000 in
theorem ck_129 : (l_129).all (ckE 129) = true := by decide +kernel
set_option maxRecDepth 100000 in
theorem ck_130 : (l_130).all (ckE 130) = true := by decide +kernel
set_option maxRecDepth 100000 in
theorem ck_131 : (l_131).all (ckE 131) = true := by decide +kernel
set_option maxRecDepth 100000 in
theorem ck_132 : (l_132).all (ckE 132) = true := by decide +kernel
set_option maxRecDepth 100000 in
theorem ck_133 : (l_133).all (ckE 133) = true := by decide +kernel
set_option maxRecDepth 100000 in
theorem ck_134 : (l_134).all (ckE 134) = true := by decide +kernel
set_option maxRecDepth 100000 in
theorem ck_135 : (l_135).all (ckE 135) = true := by decide +kernel
set_option maxRecDepth 100000 in
theorem ck_136 : (l_136).all (ckE 136) = true := by decide +kernel
set_option maxRecDepth 100000 in
theorem ck_137 : (l_137).all (ckE 137) = true := by decide +kernel
set_option maxRecDepth 100000 in
theorem ck_138 : (l_138).all (ckE 138) = true := by decide +kernel
set_option maxRecDepth 100000 in
theorem ck_139 : (l_139).all (ckE 139) = true := by decide +kernel
set_option maxRecDepth 100000 in
theorem ck_140 : (l_140).all (ckE 140) = true := by decide +kernel
set_option maxRecDepth 100000 in
theorem ck_141 : (l_141).all (ckE 141) = true := by decide +kernel
set_option maxRecDepth 100000 in
theorem ck_142 : (l_142).all (ckE 142) = true := by decide +kernel
set_option maxRecDepth 100000 in
theorem ck_143 : (l_143).all (ckE 143) = true := by decide +kernel
