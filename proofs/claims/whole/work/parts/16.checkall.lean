/-! THE PROGRAM IS CHECKED: all of it -/
theorem zchkL_app {mi : zMi} : ∀ {a b : List (Option zI)} {pc : Nat}, zchkL mi pc a = true → zchkL mi (pc + a.length) b = true → zchkL mi pc (a ++ b) = true
  | [], b, pc, _, h => h
  | none :: a, b, pc, h1, h2 => zchkL_app (a := a) (b := b) (pc := pc + 1) h1 (by rw [show pc + 1 + a.length = pc + (none :: a).length by simp; omega]; exact h2)
  | some i :: a, b, pc, h1, h2 => by
    simp only [zchkL, Bool.and_eq_true, List.cons_append] at h1 ⊢
    exact ⟨h1.1, zchkL_app (a := a) (b := b) (pc := pc + 1) h1.2 (by rw [show pc + 1 + a.length = pc + (some i :: a).length by simp; omega]; exact h2)⟩
theorem zc0 : zchkL zm0 0 zk0 = true := zchkL_app zc0_0 (zchkL_app zc0_1 (zchkL_app zc0_2 (zchkL_app zc0_3 (zchkL_app zc0_4 (zchkL_app zc0_5 (zchkL_app zc0_6 (zchkL_app zc0_7 (zchkL_app zc0_8 (zchkL_app zc0_9 (zchkL_app zc0_10 (zchkL_app zc0_11 (zchkL_app zc0_12 (zchkL_app zc0_13 (zchkL_app zc0_14 (zchkL_app zc0_15 (zchkL_app zc0_16 (zchkL_app zc0_17 (zchkL_app zc0_18 (zchkL_app zc0_19 (zchkL_app zc0_20 (zc0_21)))))))))))))))))))))
theorem zc1 : zchkL zm1 0 zk1 = true := zc1_0
theorem zc2 : zchkL zm2 0 zk2 = true := zc2_0
theorem zc3 : zchkL zm3 0 zk3 = true := zchkL_app zc3_0 (zc3_1)
theorem zc4 : zchkL zm4 0 zk4 = true := zc4_0
theorem zc5 : zchkL zm5 0 zk5 = true := zchkL_app zc5_0 (zc5_1)
theorem zc6 : zchkL zm6 0 zk6 = true := zchkL_app zc6_0 (zchkL_app zc6_1 (zc6_2))
theorem zc7 : zchkL zm7 0 zk7 = true := zc7_0
theorem zc8 : zchkL zm8 0 zk8 = true := zc8_0
theorem zc9 : zchkL zm9 0 zk9 = true := zc9_0
theorem zc10 : zchkL zm10 0 zk10 = true := zc10_0
theorem zc11 : zchkL zm11 0 zk11 = true := zc11_0
theorem zc12 : zchkL zm12 0 zk12 = true := zc12_0
theorem zc13 : zchkL zm13 0 zk13 = true := zc13_0
theorem zc14 : zchkL zm14 0 zk14 = true := zc14_0
theorem zc15 : zchkL zm15 0 zk15 = true := zc15_0
theorem zc16 : zchkL zm16 0 zk16 = true := zc16_0
theorem zc17 : zchkL zm17 0 zk17 = true := zc17_0
theorem zc18 : zchkL zm18 0 zk18 = true := zc18_0
theorem zc19 : zchkL zm19 0 zk19 = true := zc19_0
theorem zc20 : zchkL zm20 0 zk20 = true := zc20_0
theorem zc21 : zchkL zm21 0 zk21 = true := zc21_0
theorem zc22 : zchkL zm22 0 zk22 = true := zc22_0
theorem zc23 : zchkL zm23 0 zk23 = true := zc23_0
theorem zc24 : zchkL zm24 0 zk24 = true := zc24_0
theorem zc25 : zchkL zm25 0 zk25 = true := zc25_0
theorem zc26 : zchkL zm26 0 zk26 = true := zc26_0
theorem zc27 : zchkL zm27 0 zk27 = true := zc27_0
theorem zc28 : zchkL zm28 0 zk28 = true := zc28_0
theorem zc29 : zchkL zm29 0 zk29 = true := zc29_0
theorem zc30 : zchkL zm30 0 zk30 = true := zc30_0
theorem zc31 : zchkL zm31 0 zk31 = true := zc31_0
theorem zc32 : zchkL zm32 0 zk32 = true := zc32_0
theorem zc33 : zchkL zm33 0 zk33 = true := zc33_0
theorem zc34 : zchkL zm34 0 zk34 = true := zc34_0
theorem zc35 : zchkL zm35 0 zk35 = true := zc35_0
theorem zc36 : zchkL zm36 0 zk36 = true := zchkL_app zc36_0 (zc36_1)
theorem zc37 : zchkL zm37 0 zk37 = true := zc37_0
theorem zc38 : zchkL zm38 0 zk38 = true := zchkL_app zc38_0 (zc38_1)
theorem zc39 : zchkL zm39 0 zk39 = true := zc39_0
theorem zc40 : zchkL zm40 0 zk40 = true := zchkL_app zc40_0 (zc40_1)
theorem zc41 : zchkL zm41 0 zk41 = true := zchkL_app zc41_0 (zc41_1)
theorem zc42 : zchkL zm42 0 zk42 = true := zc42_0
theorem zc43 : zchkL zm43 0 zk43 = true := zchkL_app zc43_0 (zc43_1)
theorem zc44 : zchkL zm44 0 zk44 = true := zc44_0
theorem zc45 : zchkL zm45 0 zk45 = true := zc45_0
theorem zc46 : zchkL zm46 0 zk46 = true := zc46_0
theorem zc47 : zchkL zm47 0 zk47 = true := zc47_0
theorem zc48 : zchkL zm48 0 zk48 = true := zchkL_app zc48_0 (zc48_1)
theorem zc49 : zchkL zm49 0 zk49 = true := zchkL_app zc49_0 (zc49_1)
theorem zc50 : zchkL zm50 0 zk50 = true := zc50_0
theorem zc51 : zchkL zm51 0 zk51 = true := zc51_0
theorem zc52 : zchkL zm52 0 zk52 = true := zc52_0
theorem zc53 : zchkL zm53 0 zk53 = true := zc53_0
theorem zc54 : zchkL zm54 0 zk54 = true := zc54_0
theorem zc55 : zchkL zm55 0 zk55 = true := zc55_0
theorem zc56 : zchkL zm56 0 zk56 = true := zc56_0
theorem zc57 : zchkL zm57 0 zk57 = true := zc57_0
theorem zc58 : zchkL zm58 0 zk58 = true := zc58_0
theorem zc59 : zchkL zm59 0 zk59 = true := zc59_0
theorem zc60 : zchkL zm60 0 zk60 = true := zc60_0
theorem zc61 : zchkL zm61 0 zk61 = true := zc61_0
theorem zc62 : zchkL zm62 0 zk62 = true := zc62_0
theorem zc63 : zchkL zm63 0 zk63 = true := zc63_0
theorem zc64 : zchkL zm64 0 zk64 = true := zchkL_app zc64_0 (zc64_1)
theorem zc65 : zchkL zm65 0 zk65 = true := zc65_0
theorem zc66 : zchkL zm66 0 zk66 = true := zchkL_app zc66_0 (zc66_1)
theorem zc67 : zchkL zm67 0 zk67 = true := zchkL_app zc67_0 (zc67_1)
theorem zc68 : zchkL zm68 0 zk68 = true := zc68_0
theorem zc69 : zchkL zm69 0 zk69 = true := zchkL_app zc69_0 (zchkL_app zc69_1 (zchkL_app zc69_2 (zc69_3)))
theorem zc70 : zchkL zm70 0 zk70 = true := zc70_0
theorem zc71 : zchkL zm71 0 zk71 = true := zc71_0
theorem zc72 : zchkL zm72 0 zk72 = true := zc72_0
theorem zc73 : zchkL zm73 0 zk73 = true := zc73_0
theorem zc74 : zchkL zm74 0 zk74 = true := zc74_0
theorem zc75 : zchkL zm75 0 zk75 = true := zc75_0
theorem zc76 : zchkL zm76 0 zk76 = true := zc76_0
theorem zc77 : zchkL zm77 0 zk77 = true := zc77_0
theorem zc78 : zchkL zm78 0 zk78 = true := zc78_0
theorem zc79 : zchkL zm79 0 zk79 = true := zc79_0
theorem zc80 : zchkL zm80 0 zk80 = true := zc80_0
theorem zc81 : zchkL zm81 0 zk81 = true := zchkL_app zc81_0 (zc81_1)
theorem zc82 : zchkL zm82 0 zk82 = true := zc82_0
theorem zc83 : zchkL zm83 0 zk83 = true := zchkL_app zc83_0 (zc83_1)
theorem zc84 : zchkL zm84 0 zk84 = true := zc84_0
theorem zc85 : zchkL zm85 0 zk85 = true := zc85_0
theorem zc86 : zchkL zm86 0 zk86 = true := zc86_0
theorem zc87 : zchkL zm87 0 zk87 = true := zchkL_app zc87_0 (zc87_1)
theorem zc88 : zchkL zm88 0 zk88 = true := zchkL_app zc88_0 (zc88_1)
theorem zc89 : zchkL zm89 0 zk89 = true := zchkL_app zc89_0 (zchkL_app zc89_1 (zc89_2))
theorem zc90 : zchkL zm90 0 zk90 = true := zc90_0
theorem zc91 : zchkL zm91 0 zk91 = true := zchkL_app zc91_0 (zc91_1)
theorem zc92 : zchkL zm92 0 zk92 = true := zchkL_app zc92_0 (zchkL_app zc92_1 (zc92_2))
theorem zc93 : zchkL zm93 0 zk93 = true := zc93_0
theorem zc94 : zchkL zm94 0 zk94 = true := zc94_0
theorem zc95 : zchkL zm95 0 zk95 = true := zc95_0
theorem zc96 : zchkL zm96 0 zk96 = true := zc96_0
theorem zc97 : zchkL zm97 0 zk97 = true := zc97_0
theorem zc98 : zchkL zm98 0 zk98 = true := zchkL_app zc98_0 (zc98_1)
theorem zc99 : zchkL zm99 0 zk99 = true := zchkL_app zc99_0 (zc99_1)
theorem zc100 : zchkL zm100 0 zk100 = true := zc100_0
theorem zc101 : zchkL zm101 0 zk101 = true := zc101_0
theorem zc102 : zchkL zm102 0 zk102 = true := zchkL_app zc102_0 (zchkL_app zc102_1 (zc102_2))
theorem zc103 : zchkL zm103 0 zk103 = true := zchkL_app zc103_0 (zc103_1)
theorem zc104 : zchkL zm104 0 zk104 = true := zchkL_app zc104_0 (zc104_1)
theorem zc105 : zchkL zm105 0 zk105 = true := zchkL_app zc105_0 (zc105_1)
theorem zc106 : zchkL zm106 0 zk106 = true := zchkL_app zc106_0 (zc106_1)
theorem zc107 : zchkL zm107 0 zk107 = true := zchkL_app zc107_0 (zc107_1)
theorem zc108 : zchkL zm108 0 zk108 = true := zc108_0
theorem zc109 : zchkL zm109 0 zk109 = true := zchkL_app zc109_0 (zc109_1)
theorem zc110 : zchkL zm110 0 zk110 = true := zc110_0
theorem zc111 : zchkL zm111 0 zk111 = true := zc111_0
theorem zc112 : zchkL zm112 0 zk112 = true := zchkL_app zc112_0 (zchkL_app zc112_1 (zc112_2))
theorem zc113 : zchkL zm113 0 zk113 = true := zchkL_app zc113_0 (zc113_1)
theorem zc114 : zchkL zm114 0 zk114 = true := zchkL_app zc114_0 (zchkL_app zc114_1 (zc114_2))
theorem zc115 : zchkL zm115 0 zk115 = true := zchkL_app zc115_0 (zchkL_app zc115_1 (zc115_2))
theorem zc116 : zchkL zm116 0 zk116 = true := zchkL_app zc116_0 (zchkL_app zc116_1 (zc116_2))
theorem zc117 : zchkL zm117 0 zk117 = true := zchkL_app zc117_0 (zc117_1)
theorem zc118 : zchkL zm118 0 zk118 = true := zc118_0
theorem zc119 : zchkL zm119 0 zk119 = true := zc119_0
theorem zc120 : zchkL zm120 0 zk120 = true := zc120_0
theorem zc121 : zchkL zm121 0 zk121 = true := zc121_0
theorem zc122 : zchkL zm122 0 zk122 = true := zchkL_app zc122_0 (zc122_1)
theorem zc123 : zchkL zm123 0 zk123 = true := zc123_0
theorem zc124 : zchkL zm124 0 zk124 = true := zchkL_app zc124_0 (zc124_1)
theorem zc125 : zchkL zm125 0 zk125 = true := zc125_0
theorem zc126 : zchkL zm126 0 zk126 = true := zc126_0
theorem zc127 : zchkL zm127 0 zk127 = true := zc127_0
theorem zc128 : zchkL zm128 0 zk128 = true := zc128_0
theorem zc129 : zchkL zm129 0 zk129 = true := zc129_0
theorem zc130 : zchkL zm130 0 zk130 = true := zc130_0
theorem zc131 : zchkL zm131 0 zk131 = true := zc131_0
theorem zc132 : zchkL zm132 0 zk132 = true := zc132_0
theorem zc133 : zchkL zm133 0 zk133 = true := zc133_0
theorem zc134 : zchkL zm134 0 zk134 = true := zc134_0
theorem zc135 : zchkL zm135 0 zk135 = true := zc135_0
theorem zc136 : zchkL zm136 0 zk136 = true := zchkL_app zc136_0 (zc136_1)
theorem zc137 : zchkL zm137 0 zk137 = true := zchkL_app zc137_0 (zc137_1)
theorem zc138 : zchkL zm138 0 zk138 = true := zchkL_app zc138_0 (zchkL_app zc138_1 (zc138_2))
theorem zc139 : zchkL zm139 0 zk139 = true := zc139_0
theorem zc140 : zchkL zm140 0 zk140 = true := zchkL_app zc140_0 (zc140_1)
theorem zc141 : zchkL zm141 0 zk141 = true := zchkL_app zc141_0 (zc141_1)
theorem zc142 : zchkL zm142 0 zk142 = true := zchkL_app zc142_0 (zc142_1)
theorem zc143 : zchkL zm143 0 zk143 = true := zchkL_app zc143_0 (zc143_1)
theorem zc144 : zchkL zm144 0 zk144 = true := zc144_0
theorem zc145 : zchkL zm145 0 zk145 = true := zc145_0
theorem zc146 : zchkL zm146 0 zk146 = true := zchkL_app zc146_0 (zc146_1)
theorem zc147 : zchkL zm147 0 zk147 = true := zchkL_app zc147_0 (zc147_1)
theorem zc148 : zchkL zm148 0 zk148 = true := zchkL_app zc148_0 (zchkL_app zc148_1 (zc148_2))
theorem zc149 : zchkL zm149 0 zk149 = true := zc149_0
theorem zc150 : zchkL zm150 0 zk150 = true := zc150_0
theorem zc151 : zchkL zm151 0 zk151 = true := zc151_0
theorem zc152 : zchkL zm152 0 zk152 = true := zchkL_app zc152_0 (zc152_1)
theorem zc153 : zchkL zm153 0 zk153 = true := zchkL_app zc153_0 (zc153_1)
theorem zc154 : zchkL zm154 0 zk154 = true := zchkL_app zc154_0 (zchkL_app zc154_1 (zchkL_app zc154_2 (zc154_3)))
theorem zc155 : zchkL zm155 0 zk155 = true := zc155_0
theorem zc156 : zchkL zm156 0 zk156 = true := zc156_0
theorem zc157 : zchkL zm157 0 zk157 = true := zc157_0
theorem zc158 : zchkL zm158 0 zk158 = true := zchkL_app zc158_0 (zchkL_app zc158_1 (zchkL_app zc158_2 (zchkL_app zc158_3 (zc158_4))))
theorem zc159 : zchkL zm159 0 zk159 = true := zc159_0
theorem zc160 : zchkL zm160 0 zk160 = true := zc160_0
theorem zc161 : zchkL zm161 0 zk161 = true := zchkL_app zc161_0 (zc161_1)
theorem zc162 : zchkL zm162 0 zk162 = true := zc162_0
theorem zc163 : zchkL zm163 0 zk163 = true := zc163_0
theorem zc164 : zchkL zm164 0 zk164 = true := zc164_0
theorem zc165 : zchkL zm165 0 zk165 = true := zc165_0
theorem zc166 : zchkL zm166 0 zk166 = true := zc166_0
theorem zc167 : zchkL zm167 0 zk167 = true := zchkL_app zc167_0 (zc167_1)
theorem zc168 : zchkL zm168 0 zk168 = true := zchkL_app zc168_0 (zc168_1)
theorem zc169 : zchkL zm169 0 zk169 = true := zchkL_app zc169_0 (zchkL_app zc169_1 (zc169_2))
theorem zc170 : zchkL zm170 0 zk170 = true := zchkL_app zc170_0 (zc170_1)
theorem zc171 : zchkL zm171 0 zk171 = true := zchkL_app zc171_0 (zchkL_app zc171_1 (zchkL_app zc171_2 (zchkL_app zc171_3 (zc171_4))))
theorem zc172 : zchkL zm172 0 zk172 = true := zc172_0
theorem zc173 : zchkL zm173 0 zk173 = true := zc173_0
theorem zc174 : zchkL zm174 0 zk174 = true := zc174_0
theorem zc175 : zchkL zm175 0 zk175 = true := zc175_0
theorem zc176 : zchkL zm176 0 zk176 = true := zc176_0
theorem zc177 : zchkL zm177 0 zk177 = true := zc177_0
theorem zc178 : zchkL zm178 0 zk178 = true := zc178_0
theorem zc179 : zchkL zm179 0 zk179 = true := zc179_0
theorem zc180 : zchkL zm180 0 zk180 = true := zc180_0
theorem zc181 : zchkL zm181 0 zk181 = true := zc181_0
theorem zc182 : zchkL zm182 0 zk182 = true := zc182_0
theorem zc183 : zchkL zm183 0 zk183 = true := zchkL_app zc183_0 (zc183_1)
theorem zc184 : zchkL zm184 0 zk184 = true := zc184_0
theorem zc185 : zchkL zm185 0 zk185 = true := zchkL_app zc185_0 (zchkL_app zc185_1 (zc185_2))
theorem zc186 : zchkL zm186 0 zk186 = true := zc186_0
theorem zc187 : zchkL zm187 0 zk187 = true := zchkL_app zc187_0 (zc187_1)
theorem zc188 : zchkL zm188 0 zk188 = true := zc188_0
theorem zc189 : zchkL zm189 0 zk189 = true := zchkL_app zc189_0 (zc189_1)
theorem zc190 : zchkL zm190 0 zk190 = true := zchkL_app zc190_0 (zchkL_app zc190_1 (zc190_2))
theorem zc191 : zchkL zm191 0 zk191 = true := zchkL_app zc191_0 (zc191_1)
theorem zc192 : zchkL zm192 0 zk192 = true := zchkL_app zc192_0 (zc192_1)
theorem zc193 : zchkL zm193 0 zk193 = true := zc193_0
theorem zc194 : zchkL zm194 0 zk194 = true := zchkL_app zc194_0 (zc194_1)
theorem zc195 : zchkL zm195 0 zk195 = true := zchkL_app zc195_0 (zc195_1)
theorem zc196 : zchkL zm196 0 zk196 = true := zc196_0
theorem zc197 : zchkL zm197 0 zk197 = true := zchkL_app zc197_0 (zc197_1)
theorem zc198 : zchkL zm198 0 zk198 = true := zc198_0
theorem zc199 : zchkL zm199 0 zk199 = true := zchkL_app zc199_0 (zc199_1)
theorem zc200 : zchkL zm200 0 zk200 = true := zchkL_app zc200_0 (zchkL_app zc200_1 (zchkL_app zc200_2 (zchkL_app zc200_3 (zc200_4))))
theorem zc201 : zchkL zm201 0 zk201 = true := zchkL_app zc201_0 (zc201_1)
theorem zc202 : zchkL zm202 0 zk202 = true := zchkL_app zc202_0 (zc202_1)
theorem zc203 : zchkL zm203 0 zk203 = true := zchkL_app zc203_0 (zc203_1)
theorem zc204 : zchkL zm204 0 zk204 = true := zc204_0
theorem zc205 : zchkL zm205 0 zk205 = true := zchkL_app zc205_0 (zc205_1)
theorem zc206 : zchkL zm206 0 zk206 = true := zchkL_app zc206_0 (zchkL_app zc206_1 (zchkL_app zc206_2 (zc206_3)))
theorem zc207 : zchkL zm207 0 zk207 = true := zchkL_app zc207_0 (zc207_1)
theorem zc208 : zchkL zm208 0 zk208 = true := zc208_0
theorem zc209 : zchkL zm209 0 zk209 = true := zchkL_app zc209_0 (zchkL_app zc209_1 (zchkL_app zc209_2 (zc209_3)))
theorem zc210 : zchkL zm210 0 zk210 = true := zchkL_app zc210_0 (zc210_1)
theorem zc211 : zchkL zm211 0 zk211 = true := zchkL_app zc211_0 (zchkL_app zc211_1 (zc211_2))
theorem zc212 : zchkL zm212 0 zk212 = true := zchkL_app zc212_0 (zchkL_app zc212_1 (zchkL_app zc212_2 (zchkL_app zc212_3 (zchkL_app zc212_4 (zc212_5)))))
theorem zc213 : zchkL zm213 0 zk213 = true := zchkL_app zc213_0 (zchkL_app zc213_1 (zchkL_app zc213_2 (zchkL_app zc213_3 (zc213_4))))
theorem zc214 : zchkL zm214 0 zk214 = true := zchkL_app zc214_0 (zchkL_app zc214_1 (zchkL_app zc214_2 (zc214_3)))
theorem zc215 : zchkL zm215 0 zk215 = true := zchkL_app zc215_0 (zchkL_app zc215_1 (zchkL_app zc215_2 (zchkL_app zc215_3 (zc215_4))))
theorem zc216 : zchkL zm216 0 zk216 = true := zchkL_app zc216_0 (zc216_1)
theorem zc217 : zchkL zm217 0 zk217 = true := zchkL_app zc217_0 (zc217_1)
theorem zc218 : zchkL zm218 0 zk218 = true := zc218_0
theorem zc219 : zchkL zm219 0 zk219 = true := zc219_0
theorem zc220 : zchkL zm220 0 zk220 = true := zc220_0
theorem zc221 : zchkL zm221 0 zk221 = true := zc221_0
theorem zc222 : zchkL zm222 0 zk222 = true := zc222_0
theorem zc223 : zchkL zm223 0 zk223 = true := zc223_0
theorem zc224 : zchkL zm224 0 zk224 = true := zchkL_app zc224_0 (zc224_1)
theorem zc225 : zchkL zm225 0 zk225 = true := zc225_0
theorem zc226 : zchkL zm226 0 zk226 = true := zc226_0
theorem zc227 : zchkL zm227 0 zk227 = true := zc227_0
theorem zc228 : zchkL zm228 0 zk228 = true := zchkL_app zc228_0 (zchkL_app zc228_1 (zc228_2))
theorem zc229 : zchkL zm229 0 zk229 = true := zc229_0
theorem zc230 : zchkL zm230 0 zk230 = true := zc230_0
theorem zc231 : zchkL zm231 0 zk231 = true := zc231_0
theorem zc232 : zchkL zm232 0 zk232 = true := zc232_0
theorem zc_all : ∀ M, M < 233 → zchkL (zmi M) 0 (zkL.getD M []) = true := by
  intro M hM
  match M, hM with
  | 0, _ => exact zc0
  | 1, _ => exact zc1
  | 2, _ => exact zc2
  | 3, _ => exact zc3
  | 4, _ => exact zc4
  | 5, _ => exact zc5
  | 6, _ => exact zc6
  | 7, _ => exact zc7
  | 8, _ => exact zc8
  | 9, _ => exact zc9
  | 10, _ => exact zc10
  | 11, _ => exact zc11
  | 12, _ => exact zc12
  | 13, _ => exact zc13
  | 14, _ => exact zc14
  | 15, _ => exact zc15
  | 16, _ => exact zc16
  | 17, _ => exact zc17
  | 18, _ => exact zc18
  | 19, _ => exact zc19
  | 20, _ => exact zc20
  | 21, _ => exact zc21
  | 22, _ => exact zc22
  | 23, _ => exact zc23
  | 24, _ => exact zc24
  | 25, _ => exact zc25
  | 26, _ => exact zc26
  | 27, _ => exact zc27
  | 28, _ => exact zc28
  | 29, _ => exact zc29
  | 30, _ => exact zc30
  | 31, _ => exact zc31
  | 32, _ => exact zc32
  | 33, _ => exact zc33
  | 34, _ => exact zc34
  | 35, _ => exact zc35
  | 36, _ => exact zc36
  | 37, _ => exact zc37
  | 38, _ => exact zc38
  | 39, _ => exact zc39
  | 40, _ => exact zc40
  | 41, _ => exact zc41
  | 42, _ => exact zc42
  | 43, _ => exact zc43
  | 44, _ => exact zc44
  | 45, _ => exact zc45
  | 46, _ => exact zc46
  | 47, _ => exact zc47
  | 48, _ => exact zc48
  | 49, _ => exact zc49
  | 50, _ => exact zc50
  | 51, _ => exact zc51
  | 52, _ => exact zc52
  | 53, _ => exact zc53
  | 54, _ => exact zc54
  | 55, _ => exact zc55
  | 56, _ => exact zc56
  | 57, _ => exact zc57
  | 58, _ => exact zc58
  | 59, _ => exact zc59
  | 60, _ => exact zc60
  | 61, _ => exact zc61
  | 62, _ => exact zc62
  | 63, _ => exact zc63
  | 64, _ => exact zc64
  | 65, _ => exact zc65
  | 66, _ => exact zc66
  | 67, _ => exact zc67
  | 68, _ => exact zc68
  | 69, _ => exact zc69
  | 70, _ => exact zc70
  | 71, _ => exact zc71
  | 72, _ => exact zc72
  | 73, _ => exact zc73
  | 74, _ => exact zc74
  | 75, _ => exact zc75
  | 76, _ => exact zc76
  | 77, _ => exact zc77
  | 78, _ => exact zc78
  | 79, _ => exact zc79
  | 80, _ => exact zc80
  | 81, _ => exact zc81
  | 82, _ => exact zc82
  | 83, _ => exact zc83
  | 84, _ => exact zc84
  | 85, _ => exact zc85
  | 86, _ => exact zc86
  | 87, _ => exact zc87
  | 88, _ => exact zc88
  | 89, _ => exact zc89
  | 90, _ => exact zc90
  | 91, _ => exact zc91
  | 92, _ => exact zc92
  | 93, _ => exact zc93
  | 94, _ => exact zc94
  | 95, _ => exact zc95
  | 96, _ => exact zc96
  | 97, _ => exact zc97
  | 98, _ => exact zc98
  | 99, _ => exact zc99
  | 100, _ => exact zc100
  | 101, _ => exact zc101
  | 102, _ => exact zc102
  | 103, _ => exact zc103
  | 104, _ => exact zc104
  | 105, _ => exact zc105
  | 106, _ => exact zc106
  | 107, _ => exact zc107
  | 108, _ => exact zc108
  | 109, _ => exact zc109
  | 110, _ => exact zc110
  | 111, _ => exact zc111
  | 112, _ => exact zc112
  | 113, _ => exact zc113
  | 114, _ => exact zc114
  | 115, _ => exact zc115
  | 116, _ => exact zc116
  | 117, _ => exact zc117
  | 118, _ => exact zc118
  | 119, _ => exact zc119
  | 120, _ => exact zc120
  | 121, _ => exact zc121
  | 122, _ => exact zc122
  | 123, _ => exact zc123
  | 124, _ => exact zc124
  | 125, _ => exact zc125
  | 126, _ => exact zc126
  | 127, _ => exact zc127
  | 128, _ => exact zc128
  | 129, _ => exact zc129
  | 130, _ => exact zc130
  | 131, _ => exact zc131
  | 132, _ => exact zc132
  | 133, _ => exact zc133
  | 134, _ => exact zc134
  | 135, _ => exact zc135
  | 136, _ => exact zc136
  | 137, _ => exact zc137
  | 138, _ => exact zc138
  | 139, _ => exact zc139
  | 140, _ => exact zc140
  | 141, _ => exact zc141
  | 142, _ => exact zc142
  | 143, _ => exact zc143
  | 144, _ => exact zc144
  | 145, _ => exact zc145
  | 146, _ => exact zc146
  | 147, _ => exact zc147
  | 148, _ => exact zc148
  | 149, _ => exact zc149
  | 150, _ => exact zc150
  | 151, _ => exact zc151
  | 152, _ => exact zc152
  | 153, _ => exact zc153
  | 154, _ => exact zc154
  | 155, _ => exact zc155
  | 156, _ => exact zc156
  | 157, _ => exact zc157
  | 158, _ => exact zc158
  | 159, _ => exact zc159
  | 160, _ => exact zc160
  | 161, _ => exact zc161
  | 162, _ => exact zc162
  | 163, _ => exact zc163
  | 164, _ => exact zc164
  | 165, _ => exact zc165
  | 166, _ => exact zc166
  | 167, _ => exact zc167
  | 168, _ => exact zc168
  | 169, _ => exact zc169
  | 170, _ => exact zc170
  | 171, _ => exact zc171
  | 172, _ => exact zc172
  | 173, _ => exact zc173
  | 174, _ => exact zc174
  | 175, _ => exact zc175
  | 176, _ => exact zc176
  | 177, _ => exact zc177
  | 178, _ => exact zc178
  | 179, _ => exact zc179
  | 180, _ => exact zc180
  | 181, _ => exact zc181
  | 182, _ => exact zc182
  | 183, _ => exact zc183
  | 184, _ => exact zc184
  | 185, _ => exact zc185
  | 186, _ => exact zc186
  | 187, _ => exact zc187
  | 188, _ => exact zc188
  | 189, _ => exact zc189
  | 190, _ => exact zc190
  | 191, _ => exact zc191
  | 192, _ => exact zc192
  | 193, _ => exact zc193
  | 194, _ => exact zc194
  | 195, _ => exact zc195
  | 196, _ => exact zc196
  | 197, _ => exact zc197
  | 198, _ => exact zc198
  | 199, _ => exact zc199
  | 200, _ => exact zc200
  | 201, _ => exact zc201
  | 202, _ => exact zc202
  | 203, _ => exact zc203
  | 204, _ => exact zc204
  | 205, _ => exact zc205
  | 206, _ => exact zc206
  | 207, _ => exact zc207
  | 208, _ => exact zc208
  | 209, _ => exact zc209
  | 210, _ => exact zc210
  | 211, _ => exact zc211
  | 212, _ => exact zc212
  | 213, _ => exact zc213
  | 214, _ => exact zc214
  | 215, _ => exact zc215
  | 216, _ => exact zc216
  | 217, _ => exact zc217
  | 218, _ => exact zc218
  | 219, _ => exact zc219
  | 220, _ => exact zc220
  | 221, _ => exact zc221
  | 222, _ => exact zc222
  | 223, _ => exact zc223
  | 224, _ => exact zc224
  | 225, _ => exact zc225
  | 226, _ => exact zc226
  | 227, _ => exact zc227
  | 228, _ => exact zc228
  | 229, _ => exact zc229
  | 230, _ => exact zc230
  | 231, _ => exact zc231
  | 232, _ => exact zc232
  | n + 233, h => exact absurd h (by omega)
set_option maxRecDepth 100000 in
theorem zcw_ok : zcwB = true := by decide +kernel
theorem zcw_at : ∀ M, 0 < M → M < 233 → Cond.code (zmi M).1 (zmi M).2.1 (zmi M).2.2.1 (zmi M).2.2.2.1 ∈ tables_1 ∧ (zmi M).1.cls ≠ "NineDownLaw" ∧ plainName (zmi M).1.cls = true := by
  intro M h1 h2
  have h := List.all_eq_true.mp zcw_ok (M - 1) (List.mem_range.mpr (by omega))
  rw [show M - 1 + 1 = M by omega] at h
  simp only [Bool.and_eq_true, decide_eq_true_eq] at h
  exact h
theorem zob_ok : Cond.code objectInit ⟨#[0xb1]⟩ 1 none ∈ tables_1 := by decide +kernel
/-- every run of the small machine is the machine's -/
theorem zsound_all (E : zE) (M : Nat) (h0 : zH) (st : zS) (r : zR) (hM : M < 233) (h : zrun zpp E M st = some r) : zEv E (zmi M) h0 st r := by
  obtain ⟨n, hn⟩ := zrun_iff.mp h
  exact zsound zc_all (fun M h1 h2 => List.mem_filter.mpr ⟨List.mem_append_right _ (zcw_at M h1 h2).1, rfl⟩) (fun M h1 h2 => (zcw_at M h1 h2).2) (List.mem_filter.mpr ⟨List.mem_append_right _ zob_ok, rfl⟩) n M h0 st r hM hn
