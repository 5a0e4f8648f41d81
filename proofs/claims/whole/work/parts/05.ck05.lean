set_option maxRecDepth 100000 in
theorem ck_180 : (l_180).all (ckE 180) = true := by decide +kernel
set_option maxRecDepth 100000 in
theorem ck_181 : (l_181).all (ckE 181) = true := by decide +kernel
set_option maxRecDepth 100000 in
theorem ck_182 : (l_182).all (ckE 182) = true := by decide +kernel
set_option maxRecDepth 100000 in
theorem ck_183 : (l_183).all (ckE 183) = true := by decide +kernel
set_option maxRecDepth 100000 in
theorem ck_184 : (l_184).all (ckE 184) = true := by decide +kernel
set_option maxRecDepth 100000 in
theorem ck_185 : (l_185).all (ckE 185) = true := by decide +kernel
set_option maxRecDepth 100000 in
theorem ck_186 : (l_186).all (ckE 186) = true := by decide +kernel
set_option maxRecDepth 100000 in
theorem ck_187 : (l_187).all (ckE 187) = true := by decide +kernel
set_option maxRecDepth 100000 in
theorem ck_188 : (l_188).all (ckE 188) = true := by decide +kernel
set_option maxRecDepth 100000 in
theorem ck_189 : (l_189).all (ckE 189) = true := by decide +kernel
set_option maxRecDepth 100000 in
theorem ck_190 : (l_190).all (ckE 190) = true := by decide +kernel
set_option maxRecDepth 100000 in
theorem ck_191 : (l_191).all (ckE 191) = true := by decide +kernel
set_option maxRecDepth 100000 in
theorem ck_192 : (l_192).all (ckE 192) = true := by decide +kernel
set_option maxRecDepth 100000 in
theorem ck_193 : (l_193).all (ckE 193) = true := by decide +kernel
set_option maxRecDepth 100000 in
theorem ck_194 : (l_194).all (ckE 194) = true := by decide +kernel
set_option maxRecDepth 100000 in
theorem ck_195 : (l_195).all (ckE 195) = true := by decide +kernel
set_option maxRecDepth 100000 in
theorem ck_196 : (l_196).all (ckE 196) = true := by decide +kernel
set_option maxRecDepth 100000 in
theorem ck_197 : (l_197).all (ckE 197) = true := by decide +kernel
set_option maxRecDepth 100000 in
theorem ck_198 : (l_198).all (ckE 198) = true := by decide +kernel
set_option maxRecDepth 100000 in
theorem ck_199 : (l_199).all (ckE 199) = true := by decide +kernel
set_option maxRecDepth 100000 in
theorem ck_200 : (l_200).all (ckE 200) = true := by decide +kernel
set_option maxRecDepth 100000 in
theorem ck_201 : (l_201).all (ckE 201) = true := by decide +kernel
set_option maxRecDepth 100000 in
theorem ck_202 : (l_202).all (ckE 202) = true := by decide +kernel
set_option maxRecDepth 100000 in
theorem ck_203 : (l_203).all (ckE 203) = true := by decide +kernel
set_option maxRecDepth 100000 in
theorem ck_204 : (l_204).all (ckE 204) = true := by decide +kernel
set_option maxRecDepth 100000 in
theorem ck_205 : (l_205).all (ckE 205) = true := by decide +kernel
set_option maxRecDepth 100000 in
theorem ck_206 : (l_206).all (ckE 206) = true := by decide +kernel
set_option maxRecDepth 100000 in
theorem ck_207 : (l_207).all (ckE 207) = true := by decide +kernel
set_option maxRecDepth 100000 in
theorem ck_208 : (l_208).all (ckE 208) = true := by decide +kernel
set_option maxRecDepth 100000 in
theorem ck_209 : (l_209).all (ckE 209) = true := by decide +kernel
set_option maxRecDepth 100000 in
theorem ck_210 : (l_210).all (ckE 210) = true := by decide +kernel
set_option maxRecDepth 100000 in
theorem ck_211 : (l_211).all (ckE 211) = true := by decide +kernel
set_option maxRecDepth 100000 in
theorem ck_212 : (l_212).all (ckE 212) = true := by decide +kernel
set_option maxRecDepth 100000 in
theorem ck_213 : (l_213).all (ckE 213) = true := by decide +kernel
set_option maxRecDepth 100000 in
theorem ck_214 : (l_214).all (ckE 214) = true := by decide +kernel
set_option maxRecDepth 100000 in
theorem ck_215 : (l_215).all (ckE 215) = true := by decide +kernel
