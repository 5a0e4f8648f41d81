set_option maxRecDepth 100000 in
theorem ck_36 : (l_36).all (ckE 36) = true := by decide +kernel
set_option maxRecDepth 100000 in
theorem ck_37 : (l_37).all (ckE 37) = true := by decide +kernel
set_option maxRecDepth 100000 in
theorem ck_38 : (l_38).all (ckE 38) = true := by decide +kernel
set_option maxRecDepth 100000 in
theorem ck_39 : (l_39).all (ckE 39) = true := by decide +kernel
set_option maxRecDepth 100000 in
theorem ck_40 : (l_40).all (ckE 40) = true := by decide +kernel
set_option maxRecDepth 100000 in
theorem ck_41 : (l_41).all (ckE 41) = true := by decide +kernel
set_option maxRecDepth 100000 in
theorem ck_42 : (l_42).all (ckE 42) = true := by decide +kernel
set_option maxRecDepth 100000 in
theorem ck_43 : (l_43).all (ckE 43) = true := by decide +kernel
set_option maxRecDepth 100000 in
theorem ck_44 : (l_44).all (ckE 44) = true := by decide +kernel
set_option maxRecDepth 100000 in
theorem ck_45 : (l_45).all (ckE 45) = true := by decide +kernel
set_option maxRecDepth 100000 in
theorem ck_46 : (l_46).all (ckE 46) = true := by decide +kernel
set_option maxRecDepth 100000 in
theorem ck_47 : (l_47).all (ckE 47) = true := by decide +kernel
set_option maxRecDepth 100000 in
theorem ck_48 : (l_48).all (ckE 48) = true := by decide +kernel
set_option maxRecDepth 100000 in
theorem ck_49 : (l_49).all (ckE 49) = true := by decide +kernel
set_option maxRecDepth 100000 in
theorem ck_50 : (l_50).all (ckE 50) = true := by decide +kernel
set_option maxRecDepth 100000 in
theorem ck_51 : (l_51).all (ckE 51) = true := by decide +kernel
set_option maxRecDepth 100000 in
theorem ck_52 : (l_52).all (ckE 52) = true := by decide +kernel
set_option maxRecDepth 100000 in
theorem ck_53 : (l_53).all (ckE 53) = true := by decide +kernel
set_option maxRecDepth 100000 in
theorem ck_54 : (l_54).all (ckE 54) = true := by decide +kernel
set_option maxRecDepth 100000 in
theorem ck_55 : (l_55).all (ckE 55) = true := by decide +kernel
set_option maxRecDepth 100000 in
theorem ck_56 : (l_56).all (ckE 56) = true := by decide +kernel
set_option maxRecDepth 100000 in
theorem ck_57 : (l_57).all (ckE 57) = true := by decide +kernel
set_option maxRecDepth 100000 in
theorem ck_58 : (l_58).all (ckE 58) = true := by decide +kernel
set_option maxRecDepth 100000 in
theorem ck_59 : (l_59).all (ckE 59) = true := by decide +kernel
set_option maxRecDepth 100000 in
theorem ck_60 : (l_60).all (ckE 60) = true := by decide +kernel
set_option maxRecDepth 100000 in
theorem ck_61 : (l_61).all (ckE 61) = true := by decide +kernel
set_option maxRecDepth 100000 in
theorem ck_62 : (l_62).all (ckE 62) = true := by decide +kernel
set_option maxRecDepth 100000 in
theorem ck_63 : (l_63).all (ckE 63) = true := by decide +kernel
set_option maxRecDepth 100000 in
theorem ck_64 : (l_64).all (ckE 64) = true := by decide +kernel
set_option maxRecDepth 100000 in
theorem ck_65 : (l_65).all (ckE 65) = true := by decide +kernel
set_option maxRecDepth 100000 in
theorem ck_66 : (l_66).all (ckE 66) = true := by decide +kernel
set_option maxRecDepth 100000 in
theorem ck_67 : (l_67).all (ckE 67) = true := by decide +kernel
set_option maxRecDepth 100000 in
theorem ck_68 : (l_68).all (ckE 68) = true := by decide +kernel
set_option maxRecDepth 100000 in
theorem ck_69 : (l_69).all (ckE 69) = true := by decide +kernel
set_option maxRecDepth 100000 in
theorem ck_70 : (l_70).all (ckE 70) = true := by decide +kernel
set_option maxRecDepth 100000 in
theorem ck_71 : (l_71).all (ckE 71) = true := by decide +kernel
