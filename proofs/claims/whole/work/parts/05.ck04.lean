set_option maxRecDepth 100000 in
theorem ck_144 : (l_144).all (ckE 144) = true := by decide +kernel
set_option maxRecDepth 100000 in
theorem ck_145 : (l_145).all (ckE 145) = true := by decide +kernel
set_option maxRecDepth 100000 in
theorem ck_146 : (l_146).all (ckE 146) = true := by decide +kernel
set_option maxRecDepth 100000 in
theorem ck_147 : (l_147).all (ckE 147) = true := by decide +kernel
set_option maxRecDepth 100000 in
theorem ck_148 : (l_148).all (ckE 148) = true := by decide +kernel
set_option maxRecDepth 100000 in
theorem ck_149 : (l_149).all (ckE 149) = true := by decide +kernel
set_option maxRecDepth 100000 in
theorem ck_150 : (l_150).all (ckE 150) = true := by decide +kernel
set_option maxRecDepth 100000 in
theorem ck_151 : (l_151).all (ckE 151) = true := by decide +kernel
set_option maxRecDepth 100000 in
theorem ck_152 : (l_152).all (ckE 152) = true := by decide +kernel
set_option maxRecDepth 100000 in
theorem ck_153 : (l_153).all (ckE 153) = true := by decide +kernel
set_option maxRecDepth 100000 in
theorem ck_154 : (l_154).all (ckE 154) = true := by decide +kernel
set_option maxRecDepth 100000 in
theorem ck_155 : (l_155).all (ckE 155) = true := by decide +kernel
set_option maxRecDepth 100000 in
theorem ck_156 : (l_156).all (ckE 156) = true := by decide +kernel
set_option maxRecDepth 100000 in
theorem ck_157 : (l_157).all (ckE 157) = true := by decide +kernel
set_option maxRecDepth 100000 in
theorem ck_158 : (l_158).all (ckE 158) = true := by decide +kernel
set_option maxRecDepth 100000 in
theorem ck_159 : (l_159).all (ckE 159) = true := by decide +kernel
set_option maxRecDepth 100000 in
theorem ck_160 : (l_160).all (ckE 160) = true := by decide +kernel
set_option maxRecDepth 100000 in
theorem ck_161 : (l_161).all (ckE 161) = true := by decide +kernel
set_option maxRecDepth 100000 in
theorem ck_162 : (l_162).all (ckE 162) = true := by decide +kernel
set_option maxRecDepth 100000 in
theorem ck_163 : (l_163).all (ckE 163) = true := by decide +kernel
set_option maxRecDepth 100000 in
theorem ck_164 : (l_164).all (ckE 164) = true := by decide +kernel
set_option maxRecDepth 100000 in
theorem ck_165 : (l_165).all (ckE 165) = true := by decide +kernel
set_option maxRecDepth 100000 in
theorem ck_166 : (l_166).all (ckE 166) = true := by decide +kernel
set_option maxRecDepth 100000 in
theorem ck_167 : (l_167).all (ckE 167) = true := by decide +kernel
set_option maxRecDepth 100000 in
theorem ck_168 : (l_168).all (ckE 168) = true := by decide +kernel
set_option maxRecDepth 100000 in
theorem ck_169 : (l_169).all (ckE 169) = true := by decide +kernel
set_option maxRecDepth 100000 in
theorem ck_170 : (l_170).all (ckE 170) = true := by decide +kernel
set_option maxRecDepth 100000 in
theorem ck_171 : (l_171).all (ckE 171) = true := by decide +kernel
set_option maxRecDepth 100000 in
theorem ck_172 : (l_172).all (ckE 172) = true := by decide +kernel
set_option maxRecDepth 100000 in
theorem ck_173 : (l_173).all (ckE 173) = true := by decide +kernel
set_option maxRecDepth 100000 in
theorem ck_174 : (l_174).all (ckE 174) = true := by decide +kernel
set_option maxRecDepth 100000 in
theorem ck_175 : (l_175).all (ckE 175) = true := by decide +kernel
set_option maxRecDepth 100000 in
theorem ck_176 : (l_176).all (ckE 176) = true := by decide +kernel
set_option maxRecDepth 100000 in
theorem ck_177 : (l_177).all (ckE 177) = true := by decide +kernel
set_option maxRecDepth 100000 in
theorem ck_178 : (l_178).all (ckE 178) = true := by decide +kernel
set_option maxRecDepth 100000 in
theorem ck_179 : (l_179).all (ckE 179) = true := by decide +kernel
