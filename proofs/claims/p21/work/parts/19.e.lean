/-! The check, computed (4). -/
set_option maxRecDepth 1000000 in
theorem okj_117 : (List.range' 117 3).all ck_j = true := by decide +kernel
set_option maxRecDepth 1000000 in
theorem okj_120 : (List.range' 120 3).all ck_j = true := by decide +kernel
set_option maxRecDepth 1000000 in
theorem okj_123 : (List.range' 123 3).all ck_j = true := by decide +kernel
set_option maxRecDepth 1000000 in
theorem okj_126 : (List.range' 126 3).all ck_j = true := by decide +kernel
set_option maxRecDepth 1000000 in
theorem okj_129 : (List.range' 129 3).all ck_j = true := by decide +kernel
set_option maxRecDepth 1000000 in
theorem okj_132 : (List.range' 132 3).all ck_j = true := by decide +kernel
set_option maxRecDepth 1000000 in
theorem okj_135 : (List.range' 135 3).all ck_j = true := by decide +kernel
set_option maxRecDepth 1000000 in
theorem okj_138 : (List.range' 138 3).all ck_j = true := by decide +kernel
set_option maxRecDepth 1000000 in
theorem okj_141 : (List.range' 141 3).all ck_j = true := by decide +kernel
set_option maxRecDepth 1000000 in
theorem okj_144 : (List.range' 144 3).all ck_j = true := by decide +kernel
set_option maxRecDepth 1000000 in
theorem okj_147 : (List.range' 147 3).all ck_j = true := by decide +kernel
set_option maxRecDepth 1000000 in
theorem okj_150 : (List.range' 150 3).all ck_j = true := by decide +kernel
