/-! cases of the law; written by wip/whole/gen_law.py -/
set_option maxRecDepth 100000 in
theorem lw_ck_0 : lw_ck 204 5 113 153 13 17 = true := by decide +kernel
set_option maxRecDepth 100000 in
theorem lw_ck_1 : lw_ck 267 1 114 155 18 22 = true := by decide +kernel
set_option maxRecDepth 100000 in
theorem lw_ck_2 : lw_ck 290 0 115 156 23 27 = true := by decide +kernel
set_option maxRecDepth 100000 in
theorem lw_ck_3 : lw_ck 303 0 116 177 28 31 = true := by decide +kernel
set_option maxRecDepth 100000 in
theorem lw_ck_4 : lw_ck 316 1 117 192 32 35 = true := by decide +kernel
set_option maxRecDepth 100000 in
theorem lw_ck_5 : lw_ck 339 2 118 193 36 40 = true := by decide +kernel
set_option maxRecDepth 100000 in
theorem lw_ck_6 : lw_ck 372 2 119 196 41 44 = true := by decide +kernel
set_option maxRecDepth 100000 in
theorem lw_ck_7 : lw_ck 405 2 120 198 45 48 = true := by decide +kernel
