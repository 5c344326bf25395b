set_option maxRecDepth 1000000 in
theorem okj_0 : (List.range' 0 3).all ck_j = true := by decide +kernel
set_option maxRecDepth 1000000 in
theorem okj_3 : (List.range' 3 3).all ck_j = true := by decide +kernel
set_option maxRecDepth 1000000 in
theorem okj_6 : (List.range' 6 3).all ck_j = true := by decide +kernel
set_option maxRecDepth 1000000 in
theorem okj_9 : (List.range' 9 3).all ck_j = true := by decide +kernel
set_option maxRecDepth 1000000 in
theorem okj_12 : (List.range' 12 3).all ck_j = true := by decide +kernel
set_option maxRecDepth 1000000 in
theorem okj_15 : (List.range' 15 3).all ck_j = true := by decide +kernel
set_option maxRecDepth 1000000 in
theorem okj_18 : (List.range' 18 3).all ck_j = true := by decide +kernel
set_option maxRecDepth 1000000 in
theorem okj_21 : (List.range' 21 3).all ck_j = true := by decide +kernel
set_option maxRecDepth 1000000 in
theorem okj_24 : (List.range' 24 3).all ck_j = true := by decide +kernel
set_option maxRecDepth 1000000 in
theorem okj_27 : (List.range' 27 3).all ck_j = true := by decide +kernel
set_option maxRecDepth 1000000 in
theorem okj_30 : (List.range' 30 3).all ck_j = true := by decide +kernel
set_option maxRecDepth 1000000 in
theorem okj_33 : (List.range' 33 3).all ck_j = true := by decide +kernel
set_option maxRecDepth 1000000 in
theorem okj_36 : (List.range' 36 3).all ck_j = true := by decide +kernel
