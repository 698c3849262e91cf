set_option maxRecDepth 100000 in
theorem tw_chk_0 : (List.range' 0 13).all tw_chk = true := by decide +kernel
set_option maxRecDepth 100000 in
theorem tw_chk_13 : (List.range' 13 13).all tw_chk = true := by decide +kernel
set_option maxRecDepth 100000 in
theorem tw_chk_26 : (List.range' 26 13).all tw_chk = true := by decide +kernel
set_option maxRecDepth 100000 in
theorem tw_chk_39 : (List.range' 39 13).all tw_chk = true := by decide +kernel
set_option maxRecDepth 100000 in
theorem tw_chk_52 : (List.range' 52 13).all tw_chk = true := by decide +kernel
set_option maxRecDepth 100000 in
theorem tw_chk_65 : (List.range' 65 13).all tw_chk = true := by decide +kernel
set_option maxRecDepth 100000 in
theorem tw_chk_78 : (List.range' 78 13).all tw_chk = true := by decide +kernel
set_option maxRecDepth 100000 in
theorem tw_chk_91 : (List.range' 91 13).all tw_chk = true := by decide +kernel
set_option maxRecDepth 100000 in
theorem tw_chk_104 : (List.range' 104 13).all tw_chk = true := by decide +kernel
set_option maxRecDepth 100000 in
theorem tw_chk_117 : (List.range' 117 13).all tw_chk = true := by decide +kernel
set_option maxRecDepth 100000 in
theorem tw_chk_130 : (List.range' 130 13).all tw_chk = true := by decide +kernel
set_option maxRecDepth 100000 in
theorem tw_chk_143 : (List.range' 143 13).all tw_chk = true := by decide +kernel
