/-! cases of the law; written by wip/whole/gen_law.py -/
set_option maxRecDepth 100000 in
theorem lw_ck_8 : lw_ck 438 0 121 204 49 52 = true := by decide +kernel
set_option maxRecDepth 100000 in
theorem lw_ck_9 : lw_ck 451 2 122 219 53 56 = true := by decide +kernel
set_option maxRecDepth 100000 in
theorem lw_ck_10 : lw_ck 484 1 123 222 57 60 = true := by decide +kernel
set_option maxRecDepth 100000 in
theorem lw_ck_11 : lw_ck 507 1 124 224 61 64 = true := by decide +kernel
set_option maxRecDepth 100000 in
theorem lw_ck_12 : lw_ck 530 1 125 225 65 68 = true := by decide +kernel
set_option maxRecDepth 100000 in
theorem lw_ck_13 : lw_ck 553 1 126 226 69 72 = true := by decide +kernel
set_option maxRecDepth 100000 in
theorem lw_ck_14 : lw_ck 576 0 127 200 73 76 = true := by decide +kernel
set_option maxRecDepth 100000 in
theorem lw_ck_15 : lw_ck 589 3 128 227 77 81 = true := by decide +kernel
