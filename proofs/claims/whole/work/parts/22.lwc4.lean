/-! cases of the law; written by wip/whole/gen_law.py -/
set_option maxRecDepth 100000 in
theorem lw_ck_32 : lw_ck 1090 1 145 261 147 150 = true := by decide +kernel
set_option maxRecDepth 100000 in
theorem lw_ck_33 : lw_ck 1113 1 146 267 151 154 = true := by decide +kernel
set_option maxRecDepth 100000 in
theorem lw_ck_34 : lw_ck 1136 1 147 269 155 158 = true := by decide +kernel
set_option maxRecDepth 100000 in
theorem lw_ck_35 : lw_ck 1159 4 148 270 159 162 = true := by decide +kernel
set_option maxRecDepth 100000 in
theorem lw_ck_36 : lw_ck 1212 1 149 274 163 166 = true := by decide +kernel
set_option maxRecDepth 100000 in
theorem lw_ck_37 : lw_ck 1235 1 150 276 167 170 = true := by decide +kernel
set_option maxRecDepth 100000 in
theorem lw_ck_38 : lw_ck 1258 1 151 277 171 174 = true := by decide +kernel
