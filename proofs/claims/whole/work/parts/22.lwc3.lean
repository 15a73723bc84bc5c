/-! cases of the law; written by wip/whole/gen_law.py -/
set_option maxRecDepth 100000 in
theorem lw_ck_24 : lw_ck 846 1 137 247 114 117 = true := by decide +kernel
set_option maxRecDepth 100000 in
theorem lw_ck_25 : lw_ck 869 0 138 251 118 121 = true := by decide +kernel
set_option maxRecDepth 100000 in
theorem lw_ck_26 : lw_ck 882 2 139 264 122 125 = true := by decide +kernel
set_option maxRecDepth 100000 in
theorem lw_ck_27 : lw_ck 915 2 140 266 126 129 = true := by decide +kernel
set_option maxRecDepth 100000 in
theorem lw_ck_28 : lw_ck 948 4 141 252 130 134 = true := by decide +kernel
set_option maxRecDepth 100000 in
theorem lw_ck_29 : lw_ck 1001 1 142 256 135 138 = true := by decide +kernel
set_option maxRecDepth 100000 in
theorem lw_ck_30 : lw_ck 1024 2 143 259 139 142 = true := by decide +kernel
set_option maxRecDepth 100000 in
theorem lw_ck_31 : lw_ck 1057 2 144 260 143 146 = true := by decide +kernel
