/-! THE PROGRAM IS CHECKED, c -/
set_option maxRecDepth 100000 in
theorem zc76_0 : zchkL zm76 0 zk76_0 = true := by decide +kernel
set_option maxRecDepth 100000 in
theorem zc77_0 : zchkL zm77 0 zk77_0 = true := by decide +kernel
set_option maxRecDepth 100000 in
theorem zc78_0 : zchkL zm78 0 zk78_0 = true := by decide +kernel
set_option maxRecDepth 100000 in
theorem zc79_0 : zchkL zm79 0 zk79_0 = true := by decide +kernel
set_option maxRecDepth 100000 in
theorem zc80_0 : zchkL zm80 0 zk80_0 = true := by decide +kernel
set_option maxRecDepth 100000 in
theorem zc81_0 : zchkL zm81 0 zk81_0 = true := by decide +kernel
set_option maxRecDepth 100000 in
theorem zc81_1 : zchkL zm81 60 zk81_1 = true := by decide +kernel
set_option maxRecDepth 100000 in
theorem zc82_0 : zchkL zm82 0 zk82_0 = true := by decide +kernel
set_option maxRecDepth 100000 in
theorem zc83_0 : zchkL zm83 0 zk83_0 = true := by decide +kernel
set_option maxRecDepth 100000 in
theorem zc83_1 : zchkL zm83 60 zk83_1 = true := by decide +kernel
set_option maxRecDepth 100000 in
theorem zc84_0 : zchkL zm84 0 zk84_0 = true := by decide +kernel
set_option maxRecDepth 100000 in
theorem zc85_0 : zchkL zm85 0 zk85_0 = true := by decide +kernel
set_option maxRecDepth 100000 in
theorem zc86_0 : zchkL zm86 0 zk86_0 = true := by decide +kernel
set_option maxRecDepth 100000 in
theorem zc87_0 : zchkL zm87 0 zk87_0 = true := by decide +kernel
set_option maxRecDepth 100000 in
theorem zc87_1 : zchkL zm87 60 zk87_1 = true := by decide +kernel
set_option maxRecDepth 100000 in
theorem zc88_0 : zchkL zm88 0 zk88_0 = true := by decide +kernel
set_option maxRecDepth 100000 in
theorem zc88_1 : zchkL zm88 60 zk88_1 = true := by decide +kernel
set_option maxRecDepth 100000 in
theorem zc89_0 : zchkL zm89 0 zk89_0 = true := by decide +kernel
set_option maxRecDepth 100000 in
theorem zc89_1 : zchkL zm89 60 zk89_1 = true := by decide +kernel
set_option maxRecDepth 100000 in
theorem zc89_2 : zchkL zm89 120 zk89_2 = true := by decide +kernel
set_option maxRecDepth 100000 in
theorem zc89_3 : zchkL zm89 180 zk89_3 = true := by decide +kernel
set_option maxRecDepth 100000 in
theorem zc90_0 : zchkL zm90 0 zk90_0 = true := by decide +kernel
set_option maxRecDepth 100000 in
theorem zc91_0 : zchkL zm91 0 zk91_0 = true := by decide +kernel
set_option maxRecDepth 100000 in
theorem zc91_1 : zchkL zm91 60 zk91_1 = true := by decide +kernel
set_option maxRecDepth 100000 in
theorem zc92_0 : zchkL zm92 0 zk92_0 = true := by decide +kernel
set_option maxRecDepth 100000 in
theorem zc92_1 : zchkL zm92 60 zk92_1 = true := by decide +kernel
set_option maxRecDepth 100000 in
theorem zc92_2 : zchkL zm92 120 zk92_2 = true := by decide +kernel
set_option maxRecDepth 100000 in
theorem zc93_0 : zchkL zm93 0 zk93_0 = true := by decide +kernel
set_option maxRecDepth 100000 in
theorem zc94_0 : zchkL zm94 0 zk94_0 = true := by decide +kernel
set_option maxRecDepth 100000 in
theorem zc95_0 : zchkL zm95 0 zk95_0 = true := by decide +kernel
set_option maxRecDepth 100000 in
theorem zc96_0 : zchkL zm96 0 zk96_0 = true := by decide +kernel
set_option maxRecDepth 100000 in
theorem zc97_0 : zchkL zm97 0 zk97_0 = true := by decide +kernel
set_option maxRecDepth 100000 in
theorem zc98_0 : zchkL zm98 0 zk98_0 = true := by decide +kernel
set_option maxRecDepth 100000 in
theorem zc98_1 : zchkL zm98 60 zk98_1 = true := by decide +kernel
set_option maxRecDepth 100000 in
theorem zc99_0 : zchkL zm99 0 zk99_0 = true := by decide +kernel
set_option maxRecDepth 100000 in
theorem zc99_1 : zchkL zm99 60 zk99_1 = true := by decide +kernel
set_option maxRecDepth 100000 in
theorem zc100_0 : zchkL zm100 0 zk100_0 = true := by decide +kernel
set_option maxRecDepth 100000 in
theorem zc101_0 : zchkL zm101 0 zk101_0 = true := by decide +kernel
set_option maxRecDepth 100000 in
theorem zc102_0 : zchkL zm102 0 zk102_0 = true := by decide +kernel
set_option maxRecDepth 100000 in
theorem zc102_1 : zchkL zm102 60 zk102_1 = true := by decide +kernel
set_option maxRecDepth 100000 in
theorem zc102_2 : zchkL zm102 120 zk102_2 = true := by decide +kernel
set_option maxRecDepth 100000 in
theorem zc103_0 : zchkL zm103 0 zk103_0 = true := by decide +kernel
set_option maxRecDepth 100000 in
theorem zc103_1 : zchkL zm103 60 zk103_1 = true := by decide +kernel
set_option maxRecDepth 100000 in
theorem zc104_0 : zchkL zm104 0 zk104_0 = true := by decide +kernel
set_option maxRecDepth 100000 in
theorem zc104_1 : zchkL zm104 60 zk104_1 = true := by decide +kernel
set_option maxRecDepth 100000 in
theorem zc105_0 : zchkL zm105 0 zk105_0 = true := by decide +kernel
set_option maxRecDepth 100000 in
theorem zc105_1 : zchkL zm105 60 zk105_1 = true := by decide +kernel
set_option maxRecDepth 100000 in
theorem zc106_0 : zchkL zm106 0 zk106_0 = true := by decide +kernel
set_option maxRecDepth 100000 in
theorem zc106_1 : zchkL zm106 60 zk106_1 = true := by decide +kernel
set_option maxRecDepth 100000 in
theorem zc107_0 : zchkL zm107 0 zk107_0 = true := by decide +kernel
set_option maxRecDepth 100000 in
theorem zc107_1 : zchkL zm107 60 zk107_1 = true := by decide +kernel
set_option maxRecDepth 100000 in
theorem zc108_0 : zchkL zm108 0 zk108_0 = true := by decide +kernel
set_option maxRecDepth 100000 in
theorem zc109_0 : zchkL zm109 0 zk109_0 = true := by decide +kernel
set_option maxRecDepth 100000 in
theorem zc109_1 : zchkL zm109 60 zk109_1 = true := by decide +kernel
set_option maxRecDepth 100000 in
theorem zc110_0 : zchkL zm110 0 zk110_0 = true := by decide +kernel
set_option maxRecDepth 100000 in
theorem zc111_0 : zchkL zm111 0 zk111_0 = true := by decide +kernel
set_option maxRecDepth 100000 in
theorem zc112_0 : zchkL zm112 0 zk112_0 = true := by decide +kernel
set_option maxRecDepth 100000 in
theorem zc112_1 : zchkL zm112 60 zk112_1 = true := by decide +kernel
set_option maxRecDepth 100000 in
theorem zc112_2 : zchkL zm112 120 zk112_2 = true := by decide +kernel
set_option maxRecDepth 100000 in
theorem zc113_0 : zchkL zm113 0 zk113_0 = true := by decide +kernel
set_option maxRecDepth 100000 in
theorem zc113_1 : zchkL zm113 60 zk113_1 = true := by decide +kernel
set_option maxRecDepth 100000 in
theorem zc114_0 : zchkL zm114 0 zk114_0 = true := by decide +kernel
set_option maxRecDepth 100000 in
theorem zc114_1 : zchkL zm114 60 zk114_1 = true := by decide +kernel
set_option maxRecDepth 100000 in
theorem zc114_2 : zchkL zm114 120 zk114_2 = true := by decide +kernel
set_option maxRecDepth 100000 in
theorem zc115_0 : zchkL zm115 0 zk115_0 = true := by decide +kernel
set_option maxRecDepth 100000 in
theorem zc115_1 : zchkL zm115 60 zk115_1 = true := by decide +kernel
set_option maxRecDepth 100000 in
theorem zc115_2 : zchkL zm115 120 zk115_2 = true := by decide +kernel
set_option maxRecDepth 100000 in
theorem zc115_3 : zchkL zm115 180 zk115_3 = true := by decide +kernel
set_option maxRecDepth 100000 in
theorem zc116_0 : zchkL zm116 0 zk116_0 = true := by decide +kernel
set_option maxRecDepth 100000 in
theorem zc116_1 : zchkL zm116 60 zk116_1 = true := by decide +kernel
set_option maxRecDepth 100000 in
theorem zc116_2 : zchkL zm116 120 zk116_2 = true := by decide +kernel
set_option maxRecDepth 100000 in
theorem zc117_0 : zchkL zm117 0 zk117_0 = true := by decide +kernel
set_option maxRecDepth 100000 in
theorem zc117_1 : zchkL zm117 60 zk117_1 = true := by decide +kernel
set_option maxRecDepth 100000 in
theorem zc118_0 : zchkL zm118 0 zk118_0 = true := by decide +kernel
set_option maxRecDepth 100000 in
theorem zc119_0 : zchkL zm119 0 zk119_0 = true := by decide +kernel
set_option maxRecDepth 100000 in
theorem zc120_0 : zchkL zm120 0 zk120_0 = true := by decide +kernel
set_option maxRecDepth 100000 in
theorem zc121_0 : zchkL zm121 0 zk121_0 = true := by decide +kernel
set_option maxRecDepth 100000 in
theorem zc122_0 : zchkL zm122 0 zk122_0 = true := by decide +kernel
set_option maxRecDepth 100000 in
theorem zc122_1 : zchkL zm122 60 zk122_1 = true := by decide +kernel
set_option maxRecDepth 100000 in
theorem zc123_0 : zchkL zm123 0 zk123_0 = true := by decide +kernel
set_option maxRecDepth 100000 in
theorem zc124_0 : zchkL zm124 0 zk124_0 = true := by decide +kernel
set_option maxRecDepth 100000 in
theorem zc124_1 : zchkL zm124 60 zk124_1 = true := by decide +kernel
set_option maxRecDepth 100000 in
theorem zc125_0 : zchkL zm125 0 zk125_0 = true := by decide +kernel
set_option maxRecDepth 100000 in
theorem zc126_0 : zchkL zm126 0 zk126_0 = true := by decide +kernel
set_option maxRecDepth 100000 in
theorem zc127_0 : zchkL zm127 0 zk127_0 = true := by decide +kernel
set_option maxRecDepth 100000 in
theorem zc128_0 : zchkL zm128 0 zk128_0 = true := by decide +kernel
set_option maxRecDepth 100000 in
theorem zc129_0 : zchkL zm129 0 zk129_0 = true := by decide +kernel
set_option maxRecDepth 100000 in
theorem zc130_0 : zchkL zm130 0 zk130_0 = true := by decide +kernel
set_option maxRecDepth 100000 in
theorem zc131_0 : zchkL zm131 0 zk131_0 = true := by decide +kernel
set_option maxRecDepth 100000 in
theorem zc132_0 : zchkL zm132 0 zk132_0 = true := by decide +kernel
set_option maxRecDepth 100000 in
theorem zc133_0 : zchkL zm133 0 zk133_0 = true := by decide +kernel
set_option maxRecDepth 100000 in
theorem zc134_0 : zchkL zm134 0 zk134_0 = true := by decide +kernel
set_option maxRecDepth 100000 in
theorem zc135_0 : zchkL zm135 0 zk135_0 = true := by decide +kernel
set_option maxRecDepth 100000 in
theorem zc136_0 : zchkL zm136 0 zk136_0 = true := by decide +kernel
set_option maxRecDepth 100000 in
theorem zc136_1 : zchkL zm136 60 zk136_1 = true := by decide +kernel
set_option maxRecDepth 100000 in
theorem zc137_0 : zchkL zm137 0 zk137_0 = true := by decide +kernel
set_option maxRecDepth 100000 in
theorem zc137_1 : zchkL zm137 60 zk137_1 = true := by decide +kernel
set_option maxRecDepth 100000 in
theorem zc138_0 : zchkL zm138 0 zk138_0 = true := by decide +kernel
set_option maxRecDepth 100000 in
theorem zc138_1 : zchkL zm138 60 zk138_1 = true := by decide +kernel
set_option maxRecDepth 100000 in
theorem zc138_2 : zchkL zm138 120 zk138_2 = true := by decide +kernel
set_option maxRecDepth 100000 in
theorem zc139_0 : zchkL zm139 0 zk139_0 = true := by decide +kernel
set_option maxRecDepth 100000 in
theorem zc140_0 : zchkL zm140 0 zk140_0 = true := by decide +kernel
set_option maxRecDepth 100000 in
theorem zc140_1 : zchkL zm140 60 zk140_1 = true := by decide +kernel
set_option maxRecDepth 100000 in
theorem zc141_0 : zchkL zm141 0 zk141_0 = true := by decide +kernel
set_option maxRecDepth 100000 in
theorem zc141_1 : zchkL zm141 60 zk141_1 = true := by decide +kernel
set_option maxRecDepth 100000 in
theorem zc142_0 : zchkL zm142 0 zk142_0 = true := by decide +kernel
set_option maxRecDepth 100000 in
theorem zc142_1 : zchkL zm142 60 zk142_1 = true := by decide +kernel
set_option maxRecDepth 100000 in
theorem zc143_0 : zchkL zm143 0 zk143_0 = true := by decide +kernel
set_option maxRecDepth 100000 in
theorem zc143_1 : zchkL zm143 60 zk143_1 = true := by decide +kernel
set_option maxRecDepth 100000 in
theorem zc144_0 : zchkL zm144 0 zk144_0 = true := by decide +kernel
set_option maxRecDepth 100000 in
theorem zc145_0 : zchkL zm145 0 zk145_0 = true := by decide +kernel
set_option maxRecDepth 100000 in
theorem zc146_0 : zchkL zm146 0 zk146_0 = true := by decide +kernel
set_option maxRecDepth 100000 in
theorem zc146_1 : zchkL zm146 60 zk146_1 = true := by decide +kernel
set_option maxRecDepth 100000 in
theorem zc147_0 : zchkL zm147 0 zk147_0 = true := by decide +kernel
set_option maxRecDepth 100000 in
theorem zc147_1 : zchkL zm147 60 zk147_1 = true := by decide +kernel
set_option maxRecDepth 100000 in
theorem zc148_0 : zchkL zm148 0 zk148_0 = true := by decide +kernel
set_option maxRecDepth 100000 in
theorem zc148_1 : zchkL zm148 60 zk148_1 = true := by decide +kernel
set_option maxRecDepth 100000 in
theorem zc148_2 : zchkL zm148 120 zk148_2 = true := by decide +kernel
set_option maxRecDepth 100000 in
theorem zc149_0 : zchkL zm149 0 zk149_0 = true := by decide +kernel
