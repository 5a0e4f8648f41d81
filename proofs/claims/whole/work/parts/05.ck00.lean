set_option maxRecDepth 100000 in
theorem ck_0 : (l_0).all (ckE 0) = true := by decide +kernel
set_option maxRecDepth 100000 in
theorem ck_1 : (l_1).all (ckE 1) = true := by decide +kernel
set_option maxRecDepth 100000 in
theorem ck_2 : (l_2).all (ckE 2) = true := by decide +kernel
set_option maxRecDepth 100000 in
theorem ck_3 : (l_3).all (ckE 3) = true := by decide +kernel
set_option maxRecDepth 100000 in
theorem ck_4 : (l_4).all (ckE 4) = true := by decide +kernel
set_option maxRecDepth 100000 in
theorem ck_5 : (l_5).all (ckE 5) = true := by decide +kernel
set_option maxRecDepth 100000 in
theorem ck_6 : (l_6).all (ckE 6) = true := by decide +kernel
set_option maxRecDepth 100000 in
theorem ck_7 : (l_7).all (ckE 7) = true := by decide +kernel
set_option maxRecDepth 100000 in
theorem ck_8 : (l_8).all (ckE 8) = true := by decide +kernel
set_option maxRecDepth 100000 in
theorem ck_9 : (l_9).all (ckE 9) = true := by decide +kernel
set_option maxRecDepth 100000 in
theorem ck_10 : (l_10).all (ckE 10) = true := by decide +kernel
set_option maxRecDepth 100000 in
theorem ck_11 : (l_11).all (ckE 11) = true := by decide +kernel
set_option maxRecDepth 100000 in
theorem ck_12 : (l_12).all (ckE 12) = true := by decide +kernel
set_option maxRecDepth 100000 in
theorem ck_13 : (l_13).all (ckE 13) = true := by decide +kernel
set_option maxRecDepth 100000 in
theorem ck_14 : (l_14).all (ckE 14) = true := by decide +kernel
set_option maxRecDepth 100000 in
theorem ck_15 : (l_15).all (ckE 15) = true := by decide +kernel
set_option maxRecDepth 100000 in
theorem ck_16 : (l_16).all (ckE 16) = true := by decide +kernel
set_option maxRecDepth 100000 in
theorem ck_17 : (l_17).all (ckE 17) = true := by decide +kernel
set_option maxRecDepth 100000 in
theorem ck_18 : (l_18).all (ckE 18) = true := by decide +kernel
set_option maxRecDepth 100000 in
theorem ck_19 : (l_19).all (ckE 19) = true := by decide +kernel
set_option maxRecDepth 100000 in
theorem ck_20 : (l_20).all (ckE 20) = true := by decide +kernel
set_option maxRecDepth 100000 in
theorem ck_21 : (l_21).all (ckE 21) = true := by decide +kernel
set_option maxRecDepth 100000 in
theorem ck_22 : (l_22).all (ckE 22) = true := by decide +kernel
set_option maxRecDepth 100000 in
theorem ck_23 : (l_23).all (ckE 23) = true := by decide +kernel
set_option maxRecDepth 100000 in
theorem ck_24 : (l_24).all (ckE 24) = true := by decide +kernel
set_option maxRecDepth 100000 in
theorem ck_25 : (l_25).all (ckE 25) = true := by decide +kernel
set_option maxRecDepth 100000 in
theorem ck_26 : (l_26).all (ckE 26) = true := by decide +kernel
set_option maxRecDepth 100000 in
theorem ck_27 : (l_27).all (ckE 27) = true := by decide +kernel
set_option maxRecDepth 100000 in
theorem ck_28 : (l_28).all (ckE 28) = true := by decide +kernel
set_option maxRecDepth 100000 in
theorem ck_29 : (l_29).all (ckE 29) = true := by decide +kernel
set_option maxRecDepth 100000 in
theorem ck_30 : (l_30).all (ckE 30) = true := by decide +kernel
set_option maxRecDepth 100000 in
theorem ck_31 : (l_31).all (ckE 31) = true := by decide +kernel
set_option maxRecDepth 100000 in
theorem ck_32 : (l_32).all (ckE 32) = true := by decide +kernel
set_option maxRecDepth 100000 in
theorem ck_33 : (l_33).all (ckE 33) = true := by decide +kernel
set_option maxRecDepth 100000 in
theorem ck_34 : (l_34).all (ckE 34) = true := by decide +kernel
set_option maxRecDepth 100000 in
theorem ck_35 : (l_35).all (ckE 35) = true := by decide +kernel
