set_option maxRecDepth 1000000 in
theorem okj_78 : (List.range' 78 3).all ck_j = true := by decide +kernel
set_option maxRecDepth 1000000 in
theorem okj_81 : (List.range' 81 3).all ck_j = true := by decide +kernel
set_option maxRecDepth 1000000 in
theorem okj_84 : (List.range' 84 3).all ck_j = true := by decide +kernel
set_option maxRecDepth 1000000 in
theorem okj_87 : (List.range' 87 3).all ck_j = true := by decide +kernel
set_option maxRecDepth 1000000 in
theorem okj_90 : (List.range' 90 3).all ck_j = true := by decide +kernel
set_option maxRecDepth 1000000 in
theorem okj_93 : (List.range' 93 3).all ck_j = true := by decide +kernel
set_option maxRecDepth 1000000 in
theorem okj_96 : (List.range' 96 3).all ck_j = true := by decide +kernel
set_option maxRecDepth 1000000 in
theorem okj_99 : (List.range' 99 3).all ck_j = true := by decide +kernel
set_option maxRecDepth 1000000 in
theorem okj_102 : (List.range' 102 3).all ck_j = true := by decide +kernel
set_option maxRecDepth 1000000 in
theorem okj_105 : (List.range' 105 3).all ck_j = true := by decide +kernel
set_option maxRecDepth 1000000 in
theorem okj_108 : (List.range' 108 3).all ck_j = true := by decide +kernel
set_option maxRecDepth 1000000 in
theorem okj_111 : (List.range' 111 3).all ck_j = true := by decide +kernel
set_option maxRecDepth 1000000 in
theorem okj_114 : (List.range' 114 3).all ck_j = true := by decide +kernel
