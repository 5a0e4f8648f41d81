set_option maxRecDepth 100000 in
theorem ck_72 : (l_72).all (ckE 72) = true := by decide +kernel
set_option maxRecDepth 100000 in
theorem ck_73 : (l_73).all (ckE 73) = true := by decide +kernel
set_option maxRecDepth 100000 in
theorem ck_74 : (l_74).all (ckE 74) = true := by decide +kernel
set_option maxRecDepth 100000 in
theorem ck_75 : (l_75).all (ckE 75) = true := by decide +kernel
set_option maxRecDepth 100000 in
theorem ck_76 : (l_76).all (ckE 76) = true := by decide +kernel
set_option maxRecDepth 100000 in
theorem ck_77 : (l_77).all (ckE 77) = true := by decide +kernel
set_option maxRecDepth 100000 in
theorem ck_78 : (l_78).all (ckE 78) = true := by decide +kernel
set_option maxRecDepth 100000 in
theorem ck_79 : (l_79).all (ckE 79) = true := by decide +kernel
set_option maxRecDepth 100000 in
theorem ck_80 : (l_80).all (ckE 80) = true := by decide +kernel
set_option maxRecDepth 100000 in
theorem ck_81 : (l_81).all (ckE 81) = true := by decide +kernel
set_option maxRecDepth 100000 in
theorem ck_82 : (l_82).all (ckE 82) = true := by decide +kernel
set_option maxRecDepth 100000 in
theorem ck_83 : (l_83).all (ckE 83) = true := by decide +kernel
set_option maxRecDepth 100000 in
theorem ck_84 : (l_84).all (ckE 84) = true := by decide +kernel
set_option maxRecDepth 100000 in
theorem ck_85 : (l_85).all (ckE 85) = true := by decide +kernel
set_option maxRecDepth 100000 in
theorem ck_86 : (l_86).all (ckE 86) = true := by decide +kernel
set_option maxRecDepth 100000 in
theorem ck_87 : (l_87).all (ckE 87) = true := by decide +kernel
set_option maxRecDepth 100000 in
theorem ck_88 : (l_88).all (ckE 88) = true := by decide +kernel
set_option maxRecDepth 100000 in
theorem ck_89 : (l_89).all (ckE 89) = true := by decide +kernel
set_option maxRecDepth 100000 in
theorem ck_90 : (l_90).all (ckE 90) = true := by decide +kernel
set_option maxRecDepth 100000 in
theorem ck_91 : (l_91).all (ckE 91) = true := by decide +kernel
set_option maxRecDepth 100000 in
theorem ck_92 : (l_92).all (ckE 92) = true := by decide +kernel
set_option maxRecDepth 100000 in
theorem ck_93 : (l_93).all (ckE 93) = true := by decide +kernel
set_option maxRecDepth 100000 in
theorem ck_94 : (l_94).all (ckE 94) = true := by decide +kernel
set_option maxRecDepth 100000 in
theorem ck_95 : (l_95).all (ckE 95) = true := by decide +kernel
set_option maxRecDepth 100000 in
theorem ck_96 : (l_96).all (ckE 96) = true := by decide +kernel
set_option maxRecDepth 100000 in
theorem ck_97 : (l_97).all (ckE 97) = true := by decide +kernel
set_option maxRecDepth 100000 in
theorem ck_98 : (l_98).all (ckE 98) = true := by decide +kernel
set_option maxRecDepth 100000 in
theorem ck_99 : (l_99).all (ckE 99) = true := by decide +kernel
set_option maxRecDepth 100000 in
theorem ck_100 : (l_100).all (ckE 100) = true := by decide +kernel
set_option maxRecDepth 100000 in
theorem ck_101 : (l_101).all (ckE 101) = true := by decide +kernel
set_option maxRecDepth 100000 in
theorem ck_102 : (l_102).all (ckE 102) = true := by decide +kernel
set_option maxRecDepth 100000 in
theorem ck_103 : (l_103).all (ckE 103) = true := by decide +kernel
set_option maxRecDepth 100000 in
theorem ck_104 : (l_104).all (ckE 104) = true := by decide +kernel
set_option maxRecDepth 100000 in
theorem ck_105 : (l_105).all (ckE 105) = true := by decide +kernel
set_option maxRecDepth 100000 in
theorem ck_106 : (l_106).all (ckE 106) = true := by decide +kernel
set_option maxRecDepth 100000 in
theorem ck_107 : (l_107).all (ckE 107) = true := by decide +kernel
