/-! THE PROGRAM IS CHECKED, b -/
set_option maxRecDepth 100000 in
theorem zc1_0 : zchkL zm1 0 zk1_0 = true := by decide +kernel
set_option maxRecDepth 100000 in
theorem zc2_0 : zchkL zm2 0 zk2_0 = true := by decide +kernel
set_option maxRecDepth 100000 in
theorem zc3_0 : zchkL zm3 0 zk3_0 = true := by decide +kernel
set_option maxRecDepth 100000 in
theorem zc3_1 : zchkL zm3 60 zk3_1 = true := by decide +kernel
set_option maxRecDepth 100000 in
theorem zc4_0 : zchkL zm4 0 zk4_0 = true := by decide +kernel
set_option maxRecDepth 100000 in
theorem zc5_0 : zchkL zm5 0 zk5_0 = true := by decide +kernel
set_option maxRecDepth 100000 in
theorem zc5_1 : zchkL zm5 60 zk5_1 = true := by decide +kernel
set_option maxRecDepth 100000 in
theorem zc6_0 : zchkL zm6 0 zk6_0 = true := by decide +kernel
set_option maxRecDepth 100000 in
theorem zc6_1 : zchkL zm6 60 zk6_1 = true := by decide +kernel
set_option maxRecDepth 100000 in
theorem zc6_2 : zchkL zm6 120 zk6_2 = true := by decide +kernel
set_option maxRecDepth 100000 in
theorem zc7_0 : zchkL zm7 0 zk7_0 = true := by decide +kernel
set_option maxRecDepth 100000 in
theorem zc8_0 : zchkL zm8 0 zk8_0 = true := by decide +kernel
set_option maxRecDepth 100000 in
theorem zc9_0 : zchkL zm9 0 zk9_0 = true := by decide +kernel
set_option maxRecDepth 100000 in
theorem zc10_0 : zchkL zm10 0 zk10_0 = true := by decide +kernel
set_option maxRecDepth 100000 in
theorem zc11_0 : zchkL zm11 0 zk11_0 = true := by decide +kernel
set_option maxRecDepth 100000 in
theorem zc12_0 : zchkL zm12 0 zk12_0 = true := by decide +kernel
set_option maxRecDepth 100000 in
theorem zc13_0 : zchkL zm13 0 zk13_0 = true := by decide +kernel
set_option maxRecDepth 100000 in
theorem zc14_0 : zchkL zm14 0 zk14_0 = true := by decide +kernel
set_option maxRecDepth 100000 in
theorem zc15_0 : zchkL zm15 0 zk15_0 = true := by decide +kernel
set_option maxRecDepth 100000 in
theorem zc16_0 : zchkL zm16 0 zk16_0 = true := by decide +kernel
set_option maxRecDepth 100000 in
theorem zc17_0 : zchkL zm17 0 zk17_0 = true := by decide +kernel
set_option maxRecDepth 100000 in
theorem zc18_0 : zchkL zm18 0 zk18_0 = true := by decide +kernel
set_option maxRecDepth 100000 in
theorem zc19_0 : zchkL zm19 0 zk19_0 = true := by decide +kernel
set_option maxRecDepth 100000 in
theorem zc20_0 : zchkL zm20 0 zk20_0 = true := by decide +kernel
set_option maxRecDepth 100000 in
theorem zc21_0 : zchkL zm21 0 zk21_0 = true := by decide +kernel
set_option maxRecDepth 100000 in
theorem zc22_0 : zchkL zm22 0 zk22_0 = true := by decide +kernel
set_option maxRecDepth 100000 in
theorem zc23_0 : zchkL zm23 0 zk23_0 = true := by decide +kernel
set_option maxRecDepth 100000 in
theorem zc24_0 : zchkL zm24 0 zk24_0 = true := by decide +kernel
set_option maxRecDepth 100000 in
theorem zc25_0 : zchkL zm25 0 zk25_0 = true := by decide +kernel
set_option maxRecDepth 100000 in
theorem zc26_0 : zchkL zm26 0 zk26_0 = true := by decide +kernel
set_option maxRecDepth 100000 in
theorem zc27_0 : zchkL zm27 0 zk27_0 = true := by decide +kernel
set_option maxRecDepth 100000 in
theorem zc28_0 : zchkL zm28 0 zk28_0 = true := by decide +kernel
set_option maxRecDepth 100000 in
theorem zc29_0 : zchkL zm29 0 zk29_0 = true := by decide +kernel
set_option maxRecDepth 100000 in
theorem zc30_0 : zchkL zm30 0 zk30_0 = true := by decide +kernel
set_option maxRecDepth 100000 in
theorem zc31_0 : zchkL zm31 0 zk31_0 = true := by decide +kernel
set_option maxRecDepth 100000 in
theorem zc32_0 : zchkL zm32 0 zk32_0 = true := by decide +kernel
set_option maxRecDepth 100000 in
theorem zc33_0 : zchkL zm33 0 zk33_0 = true := by decide +kernel
set_option maxRecDepth 100000 in
theorem zc34_0 : zchkL zm34 0 zk34_0 = true := by decide +kernel
set_option maxRecDepth 100000 in
theorem zc35_0 : zchkL zm35 0 zk35_0 = true := by decide +kernel
set_option maxRecDepth 100000 in
theorem zc36_0 : zchkL zm36 0 zk36_0 = true := by decide +kernel
set_option maxRecDepth 100000 in
theorem zc36_1 : zchkL zm36 60 zk36_1 = true := by decide +kernel
set_option maxRecDepth 100000 in
theorem zc37_0 : zchkL zm37 0 zk37_0 = true := by decide +kernel
set_option maxRecDepth 100000 in
theorem zc38_0 : zchkL zm38 0 zk38_0 = true := by decide +kernel
set_option maxRecDepth 100000 in
theorem zc38_1 : zchkL zm38 60 zk38_1 = true := by decide +kernel
set_option maxRecDepth 100000 in
theorem zc39_0 : zchkL zm39 0 zk39_0 = true := by decide +kernel
set_option maxRecDepth 100000 in
theorem zc39_1 : zchkL zm39 60 zk39_1 = true := by decide +kernel
set_option maxRecDepth 100000 in
theorem zc40_0 : zchkL zm40 0 zk40_0 = true := by decide +kernel
set_option maxRecDepth 100000 in
theorem zc40_1 : zchkL zm40 60 zk40_1 = true := by decide +kernel
set_option maxRecDepth 100000 in
theorem zc41_0 : zchkL zm41 0 zk41_0 = true := by decide +kernel
set_option maxRecDepth 100000 in
theorem zc41_1 : zchkL zm41 60 zk41_1 = true := by decide +kernel
set_option maxRecDepth 100000 in
theorem zc42_0 : zchkL zm42 0 zk42_0 = true := by decide +kernel
set_option maxRecDepth 100000 in
theorem zc43_0 : zchkL zm43 0 zk43_0 = true := by decide +kernel
set_option maxRecDepth 100000 in
theorem zc43_1 : zchkL zm43 60 zk43_1 = true := by decide +kernel
set_option maxRecDepth 100000 in
theorem zc44_0 : zchkL zm44 0 zk44_0 = true := by decide +kernel
set_option maxRecDepth 100000 in
theorem zc45_0 : zchkL zm45 0 zk45_0 = true := by decide +kernel
set_option maxRecDepth 100000 in
theorem zc46_0 : zchkL zm46 0 zk46_0 = true := by decide +kernel
set_option maxRecDepth 100000 in
theorem zc47_0 : zchkL zm47 0 zk47_0 = true := by decide +kernel
set_option maxRecDepth 100000 in
theorem zc48_0 : zchkL zm48 0 zk48_0 = true := by decide +kernel
set_option maxRecDepth 100000 in
theorem zc48_1 : zchkL zm48 60 zk48_1 = true := by decide +kernel
set_option maxRecDepth 100000 in
theorem zc49_0 : zchkL zm49 0 zk49_0 = true := by decide +kernel
set_option maxRecDepth 100000 in
theorem zc49_1 : zchkL zm49 60 zk49_1 = true := by decide +kernel
set_option maxRecDepth 100000 in
theorem zc50_0 : zchkL zm50 0 zk50_0 = true := by decide +kernel
set_option maxRecDepth 100000 in
theorem zc51_0 : zchkL zm51 0 zk51_0 = true := by decide +kernel
set_option maxRecDepth 100000 in
theorem zc52_0 : zchkL zm52 0 zk52_0 = true := by decide +kernel
set_option maxRecDepth 100000 in
theorem zc53_0 : zchkL zm53 0 zk53_0 = true := by decide +kernel
set_option maxRecDepth 100000 in
theorem zc54_0 : zchkL zm54 0 zk54_0 = true := by decide +kernel
set_option maxRecDepth 100000 in
theorem zc55_0 : zchkL zm55 0 zk55_0 = true := by decide +kernel
set_option maxRecDepth 100000 in
theorem zc56_0 : zchkL zm56 0 zk56_0 = true := by decide +kernel
set_option maxRecDepth 100000 in
theorem zc57_0 : zchkL zm57 0 zk57_0 = true := by decide +kernel
set_option maxRecDepth 100000 in
theorem zc58_0 : zchkL zm58 0 zk58_0 = true := by decide +kernel
set_option maxRecDepth 100000 in
theorem zc59_0 : zchkL zm59 0 zk59_0 = true := by decide +kernel
set_option maxRecDepth 100000 in
theorem zc60_0 : zchkL zm60 0 zk60_0 = true := by decide +kernel
set_option maxRecDepth 100000 in
theorem zc61_0 : zchkL zm61 0 zk61_0 = true := by decide +kernel
set_option maxRecDepth 100000 in
theorem zc62_0 : zchkL zm62 0 zk62_0 = true := by decide +kernel
set_option maxRecDepth 100000 in
theorem zc63_0 : zchkL zm63 0 zk63_0 = true := by decide +kernel
set_option maxRecDepth 100000 in
theorem zc64_0 : zchkL zm64 0 zk64_0 = true := by decide +kernel
set_option maxRecDepth 100000 in
theorem zc64_1 : zchkL zm64 60 zk64_1 = true := by decide +kernel
set_option maxRecDepth 100000 in
theorem zc65_0 : zchkL zm65 0 zk65_0 = true := by decide +kernel
set_option maxRecDepth 100000 in
theorem zc66_0 : zchkL zm66 0 zk66_0 = true := by decide +kernel
set_option maxRecDepth 100000 in
theorem zc66_1 : zchkL zm66 60 zk66_1 = true := by decide +kernel
set_option maxRecDepth 100000 in
theorem zc67_0 : zchkL zm67 0 zk67_0 = true := by decide +kernel
set_option maxRecDepth 100000 in
theorem zc67_1 : zchkL zm67 60 zk67_1 = true := by decide +kernel
set_option maxRecDepth 100000 in
theorem zc68_0 : zchkL zm68 0 zk68_0 = true := by decide +kernel
set_option maxRecDepth 100000 in
theorem zc69_0 : zchkL zm69 0 zk69_0 = true := by decide +kernel
set_option maxRecDepth 100000 in
theorem zc69_1 : zchkL zm69 60 zk69_1 = true := by decide +kernel
set_option maxRecDepth 100000 in
theorem zc69_2 : zchkL zm69 120 zk69_2 = true := by decide +kernel
set_option maxRecDepth 100000 in
theorem zc69_3 : zchkL zm69 180 zk69_3 = true := by decide +kernel
set_option maxRecDepth 100000 in
theorem zc70_0 : zchkL zm70 0 zk70_0 = true := by decide +kernel
set_option maxRecDepth 100000 in
theorem zc71_0 : zchkL zm71 0 zk71_0 = true := by decide +kernel
set_option maxRecDepth 100000 in
theorem zc72_0 : zchkL zm72 0 zk72_0 = true := by decide +kernel
set_option maxRecDepth 100000 in
theorem zc73_0 : zchkL zm73 0 zk73_0 = true := by decide +kernel
set_option maxRecDepth 100000 in
theorem zc74_0 : zchkL zm74 0 zk74_0 = true := by decide +kernel
set_option maxRecDepth 100000 in
theorem zc75_0 : zchkL zm75 0 zk75_0 = true := by decide +kernel
