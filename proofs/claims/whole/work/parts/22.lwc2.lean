/-! cases of the law; written by wip/whole/gen_law.py -/
set_option maxRecDepth 100000 in
theorem lw_ck_16 : lw_ck 632 0 129 233 82 85 = true := by decide +kernel
set_option maxRecDepth 100000 in
theorem lw_ck_17 : lw_ck 645 1 130 236 86 89 = true := by decide +kernel
set_option maxRecDepth 100000 in
theorem lw_ck_18 : lw_ck 668 1 131 237 90 93 = true := by decide +kernel
set_option maxRecDepth 100000 in
theorem lw_ck_19 : lw_ck 691 1 132 238 94 97 = true := by decide +kernel
set_option maxRecDepth 100000 in
theorem lw_ck_20 : lw_ck 714 1 133 239 98 101 = true := by decide +kernel
set_option maxRecDepth 100000 in
theorem lw_ck_21 : lw_ck 737 1 134 240 102 105 = true := by decide +kernel
set_option maxRecDepth 100000 in
theorem lw_ck_22 : lw_ck 760 3 135 242 106 109 = true := by decide +kernel
set_option maxRecDepth 100000 in
theorem lw_ck_23 : lw_ck 803 3 136 245 110 113 = true := by decide +kernel
