set_option maxRecDepth 100000 in
theorem tw_chkL_0 : tw_chkR 323 0 40 = true := by decide +kernel
set_option maxRecDepth 100000 in
theorem tw_chkL_40 : tw_chkR 323 40 40 = true := by decide +kernel
set_option maxRecDepth 100000 in
theorem tw_chkL_80 : tw_chkR 323 80 40 = true := by decide +kernel
set_option maxRecDepth 100000 in
theorem tw_chkL_120 : tw_chkR 323 120 40 = true := by decide +kernel
set_option maxRecDepth 100000 in
theorem tw_chkL_160 : tw_chkR 323 160 40 = true := by decide +kernel
set_option maxRecDepth 100000 in
theorem tw_chkL_200 : tw_chkR 323 200 40 = true := by decide +kernel
set_option maxRecDepth 100000 in
theorem tw_chkL_240 : tw_chkR 323 240 40 = true := by decide +kernel
set_option maxRecDepth 100000 in
theorem tw_chkL_280 : tw_chkR 323 280 40 = true := by decide +kernel
set_option maxRecDepth 100000 in
theorem tw_chkL_320 : tw_chkR 323 320 40 = true := by decide +kernel
set_option maxRecDepth 100000 in
theorem tw_chkL_360 : tw_chkR 323 360 40 = true := by decide +kernel
set_option maxRecDepth 100000 in
theorem tw_chkL_400 : tw_chkR 323 400 40 = true := by decide +kernel
set_option maxRecDepth 100000 in
theorem tw_chkL_440 : tw_chkR 323 440 40 = true := by decide +kernel
set_option maxRecDepth 100000 in
theorem tw_chkL_480 : tw_chkR 323 480 40 = true := by decide +kernel
set_option maxRecDepth 100000 in
theorem tw_chkL_520 : tw_chkR 323 520 40 = true := by decide +kernel
set_option maxRecDepth 100000 in
theorem tw_chkL_560 : tw_chkR 323 560 40 = true := by decide +kernel
set_option maxRecDepth 100000 in
theorem tw_chkL_600 : tw_chkR 323 600 40 = true := by decide +kernel
set_option maxRecDepth 100000 in
theorem tw_chkL_640 : tw_chkR 323 640 40 = true := by decide +kernel
set_option maxRecDepth 100000 in
theorem tw_chkL_680 : tw_chkR 323 680 40 = true := by decide +kernel
set_option maxRecDepth 100000 in
theorem tw_chkL_720 : tw_chkR 323 720 40 = true := by decide +kernel
set_option maxRecDepth 100000 in
theorem tw_chkL_760 : tw_chkR 323 760 40 = true := by decide +kernel
set_option maxRecDepth 100000 in
theorem tw_chkL_800 : tw_chkR 323 800 40 = true := by decide +kernel
set_option maxRecDepth 100000 in
theorem tw_chkL_840 : tw_chkR 323 840 40 = true := by decide +kernel
set_option maxRecDepth 100000 in
theorem tw_chkL_880 : tw_chkR 323 880 40 = true := by decide +kernel
set_option maxRecDepth 100000 in
theorem tw_chkL_920 : tw_chkR 323 920 40 = true := by decide +kernel
set_option maxRecDepth 100000 in
theorem tw_chkL_960 : tw_chkR 323 960 40 = true := by decide +kernel
set_option maxRecDepth 100000 in
theorem tw_chkL_1000 : tw_chkR 323 1000 40 = true := by decide +kernel
set_option maxRecDepth 100000 in
theorem tw_chkL_1040 : tw_chkR 323 1040 40 = true := by decide +kernel
set_option maxRecDepth 100000 in
theorem tw_chkL_1080 : tw_chkR 323 1080 40 = true := by decide +kernel
set_option maxRecDepth 100000 in
theorem tw_chkL_1120 : tw_chkR 323 1120 40 = true := by decide +kernel
set_option maxRecDepth 100000 in
theorem tw_chkL_1160 : tw_chkR 323 1160 8 = true := by decide +kernel
