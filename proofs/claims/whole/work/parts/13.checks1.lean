set_option maxRecDepth 100000 in
theorem tw_chk_156 : (List.range' 156 13).all tw_chk = true := by decide +kernel
set_option maxRecDepth 100000 in
theorem tw_chk_169 : (List.range' 169 13).all tw_chk = true := by decide +kernel
set_option maxRecDepth 100000 in
theorem tw_chk_182 : (List.range' 182 13).all tw_chk = true := by decide +kernel
set_option maxRecDepth 100000 in
theorem tw_chk_195 : (List.range' 195 13).all tw_chk = true := by decide +kernel
set_option maxRecDepth 100000 in
theorem tw_chk_208 : (List.range' 208 13).all tw_chk = true := by decide +kernel
set_option maxRecDepth 100000 in
theorem tw_chk_221 : (List.range' 221 13).all tw_chk = true := by decide +kernel
set_option maxRecDepth 100000 in
theorem tw_chk_234 : (List.range' 234 13).all tw_chk = true := by decide +kernel
set_option maxRecDepth 100000 in
theorem tw_chk_247 : (List.range' 247 13).all tw_chk = true := by decide +kernel
set_option maxRecDepth 100000 in
theorem tw_chk_260 : (List.range' 260 13).all tw_chk = true := by decide +kernel
set_option maxRecDepth 100000 in
theorem tw_chk_273 : (List.range' 273 13).all tw_chk = true := by decide +kernel
set_option maxRecDepth 100000 in
theorem tw_chk_286 : (List.range' 286 13).all tw_chk = true := by decide +kernel
set_option maxRecDepth 100000 in
theorem tw_chk_299 : (List.range' 299 13).all tw_chk = true := by decide +kernel
set_option maxRecDepth 100000 in
theorem tw_chk_312 : (List.range' 312 11).all tw_chk = true := by decide +kernel
