set_option maxRecDepth 1000000 in
theorem okj_39 : (List.range' 39 3).all ck_j = true := by decide +kernel
set_option maxRecDepth 1000000 in
theorem okj_42 : (List.range' 42 3).all ck_j = true := by decide +kernel
set_option maxRecDepth 1000000 in
theorem okj_45 : (List.range' 45 3).all ck_j = true := by decide +kernel
set_option maxRecDepth 1000000 in
theorem okj_48 : (List.range' 48 3).all ck_j = true := by decide +kernel
set_option maxRecDepth 1000000 in
theorem okj_51 : (List.range' 51 3).all ck_j = true := by decide +kernel
set_option maxRecDepth 1000000 in
theorem okj_54 : (List.range' 54 3).all ck_j = true := by decide +kernel
set_option maxRecDepth 1000000 in
theorem okj_57 : (List.range' 57 3).all ck_j = true := by decide +kernel
set_option maxRecDepth 1000000 in
theorem okj_60 : (List.range' 60 3).all ck_j = true := by decide +kernel
set_option maxRecDepth 1000000 in
theorem okj_63 : (List.range' 63 3).all ck_j = true := by decide +kernel
set_option maxRecDepth 1000000 in
theorem okj_66 : (List.range' 66 3).all ck_j = true := by decide +kernel
set_option maxRecDepth 1000000 in
theorem okj_69 : (List.range' 69 3).all ck_j = true := by decide +kernel
set_option maxRecDepth 1000000 in
theorem okj_72 : (List.range' 72 3).all ck_j = true := by decide +kernel
set_option maxRecDepth 1000000 in
theorem okj_75 : (List.range' 75 3).all ck_j = true := by decide +kernel
