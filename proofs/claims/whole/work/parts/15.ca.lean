/-! THE PROGRAM IS CHECKED, a -/
set_option maxRecDepth 100000 in
theorem zc0_0 : zchkL zm0 0 zk0_0 = true := by decide +kernel
set_option maxRecDepth 100000 in
theorem zc0_1 : zchkL zm0 60 zk0_1 = true := by decide +kernel
set_option maxRecDepth 100000 in
theorem zc0_2 : zchkL zm0 120 zk0_2 = true := by decide +kernel
set_option maxRecDepth 100000 in
theorem zc0_3 : zchkL zm0 180 zk0_3 = true := by decide +kernel
set_option maxRecDepth 100000 in
theorem zc0_4 : zchkL zm0 240 zk0_4 = true := by decide +kernel
set_option maxRecDepth 100000 in
theorem zc0_5 : zchkL zm0 300 zk0_5 = true := by decide +kernel
set_option maxRecDepth 100000 in
theorem zc0_6 : zchkL zm0 360 zk0_6 = true := by decide +kernel
set_option maxRecDepth 100000 in
theorem zc0_7 : zchkL zm0 420 zk0_7 = true := by decide +kernel
set_option maxRecDepth 100000 in
theorem zc0_8 : zchkL zm0 480 zk0_8 = true := by decide +kernel
set_option maxRecDepth 100000 in
theorem zc0_9 : zchkL zm0 540 zk0_9 = true := by decide +kernel
set_option maxRecDepth 100000 in
theorem zc0_10 : zchkL zm0 600 zk0_10 = true := by decide +kernel
set_option maxRecDepth 100000 in
theorem zc0_11 : zchkL zm0 660 zk0_11 = true := by decide +kernel
set_option maxRecDepth 100000 in
theorem zc0_12 : zchkL zm0 720 zk0_12 = true := by decide +kernel
set_option maxRecDepth 100000 in
theorem zc0_13 : zchkL zm0 780 zk0_13 = true := by decide +kernel
set_option maxRecDepth 100000 in
theorem zc0_14 : zchkL zm0 840 zk0_14 = true := by decide +kernel
set_option maxRecDepth 100000 in
theorem zc0_15 : zchkL zm0 900 zk0_15 = true := by decide +kernel
set_option maxRecDepth 100000 in
theorem zc0_16 : zchkL zm0 960 zk0_16 = true := by decide +kernel
set_option maxRecDepth 100000 in
theorem zc0_17 : zchkL zm0 1020 zk0_17 = true := by decide +kernel
set_option maxRecDepth 100000 in
theorem zc0_18 : zchkL zm0 1080 zk0_18 = true := by decide +kernel
set_option maxRecDepth 100000 in
theorem zc0_19 : zchkL zm0 1140 zk0_19 = true := by decide +kernel
set_option maxRecDepth 100000 in
theorem zc0_20 : zchkL zm0 1200 zk0_20 = true := by decide +kernel
set_option maxRecDepth 100000 in
theorem zc0_21 : zchkL zm0 1260 zk0_21 = true := by decide +kernel
