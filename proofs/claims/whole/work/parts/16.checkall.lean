/-! THE PROGRAM IS CHECKED: all of it -/
theorem zchkL_app {mi : zMi} : ∀ {a b : List (Option zI)} {pc : Nat}, zchkL mi pc a = true → zchkL mi (pc + a.length) b = true → zchkL mi pc (a ++ b) = true
  | [], b, pc, _, h => h
  | none :: a, b, pc, h1, h2 => zchkL_app (a := a) (b := b) (pc := pc + 1) h1 (by rw [show pc + 1 + a.length = pc + (none :: a).length by simp; omega]; exact h2)
  | some i :: a, b, pc, h1, h2 => by
    simp only [zchkL, Bool.and_eq_true, List.cons_append] at h1 ⊢
    exact ⟨h1.1, zchkL_app (a := a) (b := b) (pc := pc + 1) h1.2 (by rw [show pc + 1 + a.length = pc + (some i :: a).length by simp; omega]; exact h2)⟩
theorem zc0 : zchkL zm0 0 zk0 = true := zchkL_app zc0_0 (zchkL_app zc0_1 (zchkL_app zc0_2 (zchkL_app zc0_3 (zchkL_app zc0_4 (zchkL_app zc0_5 (zchkL_app zc0_6 (zchkL_app zc0_7 (zchkL_app zc0_8 (zchkL_app zc0_9 (zchkL_app zc0_10 (zchkL_app zc0_11 (zchkL_app zc0_12 (zchkL_app zc0_13 (zchkL_app zc0_14 (zchkL_app zc0_15 (zchkL_app zc0_16 (zchkL_app zc0_17 (zchkL_app zc0_18 (zchkL_app zc0_19 (zchkL_app zc0_20 (zc0_21)))))))))))))))))))))
theorem zc1 : zchkL zm1 0 zk1 = true := zc1_0
theorem zc2 : zchkL zm2 0 zk2 = true := zc2_0
theorem zc3 : zchkL zm3 0 zk3 = true := zchkL_app zc3_0 (zc3_1)
theorem zc4 : zchkL zm4 0 zk4 = true := zc4_0
theorem zc5 : zchkL zm5 0 zk5 = true := zchkL_app zc5_0 (zc5_1)
theorem zc6 : zchkL zm6 0 zk6 = true := zchkL_app zc6_0 (zchkL_app zc6_1 (zc6_2))
theorem zc7 : zchkL zm7 0 zk7 = true := zc7_0
theorem zc8 : zchkL zm8 0 zk8 = true := zc8_0
theorem zc9 : zchkL zm9 0 zk9 = true := zc9_0
theorem zc10 : zchkL zm10 0 zk10 = true := zc10_0
theorem zc11 : zchkL zm11 0 zk11 = true := zc11_0
theorem zc12 : zchkL zm12 0 zk12 = true := zc12_0
theorem zc13 : zchkL zm13 0 zk13 = true := zc13_0
theorem zc14 : zchkL zm14 0 zk14 = true := zc14_0
theorem zc15 : zchkL zm15 0 zk15 = true := zc15_0
theorem zc16 : zchkL zm16 0 zk16 = true := zc16_0
theorem zc17 : zchkL zm17 0 zk17 = true := zc17_0
theorem zc18 : zchkL zm18 0 zk18 = true := zc18_0
theorem zc19 : zchkL zm19 0 zk19 = true := zc19_0
theorem zc20 : zchkL zm20 0 zk20 = true := zc20_0
theorem zc21 : zchkL zm21 0 zk21 = true := zc21_0
theorem zc22 : zchkL zm22 0 zk22 = true := zc22_0
theorem zc23 : zchkL zm23 0 zk23 = true := zc23_0
theorem zc24 : zchkL zm24 0 zk24 = true := zc24_0
theorem zc25 : zchkL zm25 0 zk25 = true := zc25_0
theorem zc26 : zchkL zm26 0 zk26 = true := zc26_0
theorem zc27 : zchkL zm27 0 zk27 = true := zc27_0
theorem zc28 : zchkL zm28 0 zk28 = true := zc28_0
theorem zc29 : zchkL zm29 0 zk29 = true := zc29_0
theorem zc30 : zchkL zm30 0 zk30 = true := zc30_0
theorem zc31 : zchkL zm31 0 zk31 = true := zc31_0
theorem zc32 : zchkL zm32 0 zk32 = true := zc32_0
theorem zc33 : zchkL zm33 0 zk33 = true := zc33_0
theorem zc34 : zchkL zm34 0 zk34 = true := zc34_0
theorem zc35 : zchkL zm35 0 zk35 = true := zc35_0
theorem zc36 : zchkL zm36 0 zk36 = true := zchkL_app zc36_0 (zc36_1)
theorem zc37 : zchkL zm37 0 zk37 = true := zc37_0
theorem zc38 : zchkL zm38 0 zk38 = true := zchkL_app zc38_0 (zc38_1)
theorem zc39 : zchkL zm39 0 zk39 = true := zchkL_app zc39_0 (zc39_1)
theorem zc40 : zchkL zm40 0 zk40 = true := zchkL_app zc40_0 (zc40_1)
theorem zc41 : zchkL zm41 0 zk41 = true := zchkL_app zc41_0 (zc41_1)
theorem zc42 : zchkL zm42 0 zk42 = true := zc42_0
theorem zc43 : zchkL zm43 0 zk43 = true := zchkL_app zc43_0 (zc43_1)
theorem zc44 : zchkL zm44 0 zk44 = true := zc44_0
theorem zc45 : zchkL zm45 0 zk45 = true := zc45_0
theorem zc46 : zchkL zm46 0 zk46 = true := zc46_0
theorem zc47 : zchkL zm47 0 zk47 = true := zc47_0
theorem zc48 : zchkL zm48 0 zk48 = true := zchkL_app zc48_0 (zc48_1)
theorem zc49 : zchkL zm49 0 zk49 = true := zchkL_app zc49_0 (zc49_1)
theorem zc50 : zchkL zm50 0 zk50 = true := zc50_0
theorem zc51 : zchkL zm51 0 zk51 = true := zc51_0
theorem zc52 : zchkL zm52 0 zk52 = true := zc52_0
theorem zc53 : zchkL zm53 0 zk53 = true := zc53_0
theorem zc54 : zchkL zm54 0 zk54 = true := zc54_0
theorem zc55 : zchkL zm55 0 zk55 = true := zc55_0
theorem zc56 : zchkL zm56 0 zk56 = true := zc56_0
theorem zc57 : zchkL zm57 0 zk57 = true := zc57_0
theorem zc58 : zchkL zm58 0 zk58 = true := zc58_0
theorem zc59 : zchkL zm59 0 zk59 = true := zc59_0
theorem zc60 : zchkL zm60 0 zk60 = true := zc60_0
theorem zc61 : zchkL zm61 0 zk61 = true := zc61_0
theorem zc62 : zchkL zm62 0 zk62 = true := zc62_0
theorem zc63 : zchkL zm63 0 zk63 = true := zc63_0
theorem zc64 : zchkL zm64 0 zk64 = true := zchkL_app zc64_0 (zc64_1)
theorem zc65 : zchkL zm65 0 zk65 = true := zc65_0
theorem zc66 : zchkL zm66 0 zk66 = true := zchkL_app zc66_0 (zc66_1)
theorem zc67 : zchkL zm67 0 zk67 = true := zchkL_app zc67_0 (zc67_1)
theorem zc68 : zchkL zm68 0 zk68 = true := zc68_0
theorem zc69 : zchkL zm69 0 zk69 = true := zchkL_app zc69_0 (zchkL_app zc69_1 (zchkL_app zc69_2 (zc69_3)))
theorem zc70 : zchkL zm70 0 zk70 = true := zc70_0
theorem zc71 : zchkL zm71 0 zk71 = true := zc71_0
theorem zc72 : zchkL zm72 0 zk72 = true := zc72_0
theorem zc73 : zchkL zm73 0 zk73 = true := zc73_0
theorem zc74 : zchkL zm74 0 zk74 = true := zc74_0
theorem zc75 : zchkL zm75 0 zk75 = true := zc75_0
theorem zc76 : zchkL zm76 0 zk76 = true := zc76_0
theorem zc77 : zchkL zm77 0 zk77 = true := zc77_0
theorem zc78 : zchkL zm78 0 zk78 = true := zc78_0
theorem zc79 : zchkL zm79 0 zk79 = true := zc79_0
theorem zc80 : zchkL zm80 0 zk80 = true := zc80_0
theorem zc81 : zchkL zm81 0 zk81 = true := zchkL_app zc81_0 (zc81_1)
theorem zc82 : zchkL zm82 0 zk82 = true := zc82_0
theorem zc83 : zchkL zm83 0 zk83 = true := zchkL_app zc83_0 (zc83_1)
theorem zc84 : zchkL zm84 0 zk84 = true := zc84_0
theorem zc85 : zchkL zm85 0 zk85 = true := zc85_0
theorem zc86 : zchkL zm86 0 zk86 = true := zc86_0
theorem zc87 : zchkL zm87 0 zk87 = true := zchkL_app zc87_0 (zc87_1)
theorem zc88 : zchkL zm88 0 zk88 = true := zchkL_app zc88_0 (zc88_1)
theorem zc89 : zchkL zm89 0 zk89 = true := zchkL_app zc89_0 (zchkL_app zc89_1 (zchkL_app zc89_2 (zc89_3)))
theorem zc90 : zchkL zm90 0 zk90 = true := zc90_0
theorem zc91 : zchkL zm91 0 zk91 = true := zchkL_app zc91_0 (zc91_1)
theorem zc92 : zchkL zm92 0 zk92 = true := zchkL_app zc92_0 (zchkL_app zc92_1 (zc92_2))
theorem zc93 : zchkL zm93 0 zk93 = true := zc93_0
theorem zc94 : zchkL zm94 0 zk94 = true := zc94_0
theorem zc95 : zchkL zm95 0 zk95 = true := zc95_0
theorem zc96 : zchkL zm96 0 zk96 = true := zc96_0
theorem zc97 : zchkL zm97 0 zk97 = true := zc97_0
theorem zc98 : zchkL zm98 0 zk98 = true := zchkL_app zc98_0 (zc98_1)
theorem zc99 : zchkL zm99 0 zk99 = true := zchkL_app zc99_0 (zc99_1)
theorem zc100 : zchkL zm100 0 zk100 = true := zc100_0
theorem zc101 : zchkL zm101 0 zk101 = true := zc101_0
theorem zc102 : zchkL zm102 0 zk102 = true := zchkL_app zc102_0 (zchkL_app zc102_1 (zc102_2))
theorem zc103 : zchkL zm103 0 zk103 = true := zchkL_app zc103_0 (zc103_1)
theorem zc104 : zchkL zm104 0 zk104 = true := zchkL_app zc104_0 (zc104_1)
theorem zc105 : zchkL zm105 0 zk105 = true := zchkL_app zc105_0 (zc105_1)
theorem zc106 : zchkL zm106 0 zk106 = true := zchkL_app zc106_0 (zc106_1)
theorem zc107 : zchkL zm107 0 zk107 = true := zchkL_app zc107_0 (zc107_1)
theorem zc108 : zchkL zm108 0 zk108 = true := zc108_0
theorem zc109 : zchkL zm109 0 zk109 = true := zchkL_app zc109_0 (zc109_1)
theorem zc110 : zchkL zm110 0 zk110 = true := zc110_0
theorem zc111 : zchkL zm111 0 zk111 = true := zc111_0
theorem zc112 : zchkL zm112 0 zk112 = true := zchkL_app zc112_0 (zchkL_app zc112_1 (zc112_2))
theorem zc113 : zchkL zm113 0 zk113 = true := zchkL_app zc113_0 (zc113_1)
theorem zc114 : zchkL zm114 0 zk114 = true := zchkL_app zc114_0 (zchkL_app zc114_1 (zc114_2))
theorem zc115 : zchkL zm115 0 zk115 = true := zchkL_app zc115_0 (zchkL_app zc115_1 (zchkL_app zc115_2 (zc115_3)))
theorem zc116 : zchkL zm116 0 zk116 = true := zchkL_app zc116_0 (zchkL_app zc116_1 (zc116_2))
theorem zc117 : zchkL zm117 0 zk117 = true := zchkL_app zc117_0 (zc117_1)
theorem zc118 : zchkL zm118 0 zk118 = true := zc118_0
theorem zc119 : zchkL zm119 0 zk119 = true := zc119_0
theorem zc120 : zchkL zm120 0 zk120 = true := zc120_0
theorem zc121 : zchkL zm121 0 zk121 = true := zc121_0
theorem zc122 : zchkL zm122 0 zk122 = true := zchkL_app zc122_0 (zc122_1)
theorem zc123 : zchkL zm123 0 zk123 = true := zc123_0
theorem zc124 : zchkL zm124 0 zk124 = true := zchkL_app zc124_0 (zc124_1)
theorem zc125 : zchkL zm125 0 zk125 = true := zc125_0
theorem zc126 : zchkL zm126 0 zk126 = true := zc126_0
theorem zc127 : zchkL zm127 0 zk127 = true := zc127_0
theorem zc128 : zchkL zm128 0 zk128 = true := zc128_0
theorem zc129 : zchkL zm129 0 zk129 = true := zc129_0
theorem zc130 : zchkL zm130 0 zk130 = true := zc130_0
theorem zc131 : zchkL zm131 0 zk131 = true := zc131_0
theorem zc132 : zchkL zm132 0 zk132 = true := zc132_0
theorem zc133 : zchkL zm133 0 zk133 = true := zc133_0
theorem zc134 : zchkL zm134 0 zk134 = true := zc134_0
theorem zc135 : zchkL zm135 0 zk135 = true := zc135_0
theorem zc136 : zchkL zm136 0 zk136 = true := zchkL_app zc136_0 (zc136_1)
theorem zc137 : zchkL zm137 0 zk137 = true := zchkL_app zc137_0 (zc137_1)
theorem zc138 : zchkL zm138 0 zk138 = true := zchkL_app zc138_0 (zchkL_app zc138_1 (zc138_2))
theorem zc139 : zchkL zm139 0 zk139 = true := zc139_0
theorem zc140 : zchkL zm140 0 zk140 = true := zchkL_app zc140_0 (zc140_1)
theorem zc141 : zchkL zm141 0 zk141 = true := zchkL_app zc141_0 (zc141_1)
theorem zc142 : zchkL zm142 0 zk142 = true := zchkL_app zc142_0 (zc142_1)
theorem zc143 : zchkL zm143 0 zk143 = true := zchkL_app zc143_0 (zc143_1)
theorem zc144 : zchkL zm144 0 zk144 = true := zc144_0
theorem zc145 : zchkL zm145 0 zk145 = true := zc145_0
theorem zc146 : zchkL zm146 0 zk146 = true := zchkL_app zc146_0 (zc146_1)
theorem zc147 : zchkL zm147 0 zk147 = true := zchkL_app zc147_0 (zc147_1)
theorem zc148 : zchkL zm148 0 zk148 = true := zchkL_app zc148_0 (zchkL_app zc148_1 (zc148_2))
theorem zc149 : zchkL zm149 0 zk149 = true := zc149_0
theorem zc150 : zchkL zm150 0 zk150 = true := zc150_0
theorem zc151 : zchkL zm151 0 zk151 = true := zc151_0
theorem zc152 : zchkL zm152 0 zk152 = true := zchkL_app zc152_0 (zc152_1)
theorem zc153 : zchkL zm153 0 zk153 = true := zchkL_app zc153_0 (zc153_1)
theorem zc154 : zchkL zm154 0 zk154 = true := zchkL_app zc154_0 (zchkL_app zc154_1 (zchkL_app zc154_2 (zc154_3)))
theorem zc155 : zchkL zm155 0 zk155 = true := zc155_0
theorem zc156 : zchkL zm156 0 zk156 = true := zc156_0
theorem zc157 : zchkL zm157 0 zk157 = true := zc157_0
theorem zc158 : zchkL zm158 0 zk158 = true := zchkL_app zc158_0 (zchkL_app zc158_1 (zchkL_app zc158_2 (zchkL_app zc158_3 (zc158_4))))
theorem zc159 : zchkL zm159 0 zk159 = true := zc159_0
theorem zc160 : zchkL zm160 0 zk160 = true := zc160_0
theorem zc161 : zchkL zm161 0 zk161 = true := zchkL_app zc161_0 (zc161_1)
theorem zc162 : zchkL zm162 0 zk162 = true := zc162_0
theorem zc163 : zchkL zm163 0 zk163 = true := zc163_0
theorem zc164 : zchkL zm164 0 zk164 = true := zc164_0
theorem zc165 : zchkL zm165 0 zk165 = true := zc165_0
theorem zc166 : zchkL zm166 0 zk166 = true := zc166_0
theorem zc167 : zchkL zm167 0 zk167 = true := zchkL_app zc167_0 (zc167_1)
theorem zc168 : zchkL zm168 0 zk168 = true := zchkL_app zc168_0 (zc168_1)
theorem zc169 : zchkL zm169 0 zk169 = true := zchkL_app zc169_0 (zchkL_app zc169_1 (zc169_2))
theorem zc170 : zchkL zm170 0 zk170 = true := zchkL_app zc170_0 (zc170_1)
theorem zc171 : zchkL zm171 0 zk171 = true := zchkL_app zc171_0 (zchkL_app zc171_1 (zchkL_app zc171_2 (zchkL_app zc171_3 (zc171_4))))
theorem zc172 : zchkL zm172 0 zk172 = true := zc172_0
theorem zc173 : zchkL zm173 0 zk173 = true := zc173_0
theorem zc174 : zchkL zm174 0 zk174 = true := zc174_0
theorem zc175 : zchkL zm175 0 zk175 = true := zc175_0
theorem zc176 : zchkL zm176 0 zk176 = true := zc176_0
theorem zc177 : zchkL zm177 0 zk177 = true := zc177_0
theorem zc178 : zchkL zm178 0 zk178 = true := zc178_0
theorem zc179 : zchkL zm179 0 zk179 = true := zc179_0
theorem zc180 : zchkL zm180 0 zk180 = true := zc180_0
theorem zc181 : zchkL zm181 0 zk181 = true := zc181_0
theorem zc182 : zchkL zm182 0 zk182 = true := zc182_0
theorem zc183 : zchkL zm183 0 zk183 = true := zchkL_app zc183_0 (zc183_1)
theorem zc184 : zchkL zm184 0 zk184 = true := zc184_0
theorem zc185 : zchkL zm185 0 zk185 = true := zchkL_app zc185_0 (zchkL_app zc185_1 (zc185_2))
theorem zc186 : zchkL zm186 0 zk186 = true := zc186_0
theorem zc187 : zchkL zm187 0 zk187 = true := zchkL_app zc187_0 (zc187_1)
theorem zc188 : zchkL zm188 0 zk188 = true := zc188_0
theorem zc189 : zchkL zm189 0 zk189 = true := zchkL_app zc189_0 (zc189_1)
theorem zc190 : zchkL zm190 0 zk190 = true := zchkL_app zc190_0 (zchkL_app zc190_1 (zc190_2))
theorem zc191 : zchkL zm191 0 zk191 = true := zchkL_app zc191_0 (zc191_1)
theorem zc192 : zchkL zm192 0 zk192 = true := zchkL_app zc192_0 (zc192_1)
theorem zc193 : zchkL zm193 0 zk193 = true := zc193_0
theorem zc194 : zchkL zm194 0 zk194 = true := zchkL_app zc194_0 (zc194_1)
theorem zc195 : zchkL zm195 0 zk195 = true := zchkL_app zc195_0 (zc195_1)
theorem zc196 : zchkL zm196 0 zk196 = true := zc196_0
theorem zc197 : zchkL zm197 0 zk197 = true := zchkL_app zc197_0 (zc197_1)
theorem zc198 : zchkL zm198 0 zk198 = true := zc198_0
theorem zc199 : zchkL zm199 0 zk199 = true := zchkL_app zc199_0 (zc199_1)
theorem zc200 : zchkL zm200 0 zk200 = true := zchkL_app zc200_0 (zchkL_app zc200_1 (zchkL_app zc200_2 (zchkL_app zc200_3 (zc200_4))))
theorem zc201 : zchkL zm201 0 zk201 = true := zchkL_app zc201_0 (zc201_1)
theorem zc202 : zchkL zm202 0 zk202 = true := zchkL_app zc202_0 (zc202_1)
theorem zc203 : zchkL zm203 0 zk203 = true := zchkL_app zc203_0 (zc203_1)
theorem zc204 : zchkL zm204 0 zk204 = true := zc204_0
theorem zc205 : zchkL zm205 0 zk205 = true := zchkL_app zc205_0 (zc205_1)
theorem zc206 : zchkL zm206 0 zk206 = true := zchkL_app zc206_0 (zchkL_app zc206_1 (zchkL_app zc206_2 (zc206_3)))
theorem zc207 : zchkL zm207 0 zk207 = true := zchkL_app zc207_0 (zc207_1)
theorem zc208 : zchkL zm208 0 zk208 = true := zc208_0
theorem zc209 : zchkL zm209 0 zk209 = true := zchkL_app zc209_0 (zchkL_app zc209_1 (zchkL_app zc209_2 (zc209_3)))
theorem zc210 : zchkL zm210 0 zk210 = true := zchkL_app zc210_0 (zc210_1)
theorem zc211 : zchkL zm211 0 zk211 = true := zchkL_app zc211_0 (zchkL_app zc211_1 (zc211_2))
theorem zc212 : zchkL zm212 0 zk212 = true := zchkL_app zc212_0 (zchkL_app zc212_1 (zchkL_app zc212_2 (zchkL_app zc212_3 (zchkL_app zc212_4 (zc212_5)))))
theorem zc213 : zchkL zm213 0 zk213 = true := zchkL_app zc213_0 (zchkL_app zc213_1 (zchkL_app zc213_2 (zchkL_app zc213_3 (zc213_4))))
theorem zc214 : zchkL zm214 0 zk214 = true := zchkL_app zc214_0 (zchkL_app zc214_1 (zchkL_app zc214_2 (zc214_3)))
theorem zc215 : zchkL zm215 0 zk215 = true := zchkL_app zc215_0 (zchkL_app zc215_1 (zchkL_app zc215_2 (zchkL_app zc215_3 (zc215_4))))
theorem zc216 : zchkL zm216 0 zk216 = true := zchkL_app zc216_0 (zc216_1)
theorem zc217 : zchkL zm217 0 zk217 = true := zchkL_app zc217_0 (zc217_1)
theorem zc218 : zchkL zm218 0 zk218 = true := zc218_0
theorem zc219 : zchkL zm219 0 zk219 = true := zc219_0
theorem zc220 : zchkL zm220 0 zk220 = true := zc220_0
theorem zc221 : zchkL zm221 0 zk221 = true := zc221_0
theorem zc222 : zchkL zm222 0 zk222 = true := zc222_0
theorem zc223 : zchkL zm223 0 zk223 = true := zc223_0
theorem zc224 : zchkL zm224 0 zk224 = true := zchkL_app zc224_0 (zc224_1)
theorem zc225 : zchkL zm225 0 zk225 = true := zc225_0
theorem zc226 : zchkL zm226 0 zk226 = true := zc226_0
theorem zc227 : zchkL zm227 0 zk227 = true := zc227_0
theorem zc228 : zchkL zm228 0 zk228 = true := zchkL_app zc228_0 (zchkL_app zc228_1 (zc228_2))
theorem zc229 : zchkL zm229 0 zk229 = true := zc229_0
theorem zc230 : zchkL zm230 0 zk230 = true := zc230_0
theorem zc231 : zchkL zm231 0 zk231 = true := zc231_0
theorem zc232 : zchkL zm232 0 zk232 = true := zc232_0
theorem zc_all : ∀ M, M < 233 → zchkL (zmi M) 0 (zkL.getD M []) = true := by
  intro M hM
  match M, hM with
  | 0, _ => exact zc0
  | 1, _ => exact zc1
  | 2, _ => exact zc2
  | 3, _ => exact zc3
  | 4, _ => exact zc4
  | 5, _ => exact zc5
  | 6, _ => exact zc6
  | 7, _ => exact zc7
  | 8, _ => exact zc8
  | 9, _ => exact zc9
  | 10, _ => exact zc10
  | 11, _ => exact zc11
  | 12, _ => exact zc12
  | 13, _ => exact zc13
  | 14, _ => exact zc14
  | 15, _ => exact zc15
  | 16, _ => exact zc16
  | 17, _ => exact zc17
  | 18, _ => exact zc18
  | 19, _ => exact zc19
  | 20, _ => exact zc20
  | 21, _ => exact zc21
  | 22, _ => exact zc22
  | 23, _ => exact zc23
  | 24, _ => exact zc24
  | 25, _ => exact zc25
  | 26, _ => exact zc26
  | 27, _ => exact zc27
  | 28, _ => exact zc28
  | 29, _ => exact zc29
  | 30, _ => exact zc30
  | 31, _ => exact zc31
  | 32, _ => exact zc32
  | 33, _ => exact zc33
  | 34, _ => exact zc34
  | 35, _ => exact zc35
  | 36, _ => exact zc36
  | 37, _ => exact zc37
  | 38, _ => exact zc38
  | 39, _ => exact zc39
  | 40, _ => exact zc40
  | 41, _ => exact zc41
  | 42, _ => exact zc42
  | 43, _ => exact zc43
  | 44, _ => exact zc44
  | 45, _ => exact zc45
  | 46, _ => exact zc46
  | 47, _ => exact zc47
  | 48, _ => exact zc48
  | 49, _ => exact zc49
  | 50, _ => exact zc50
  | 51, _ => exact zc51
  | 52, _ => exact zc52
  | 53, _ => exact zc53
  | 54, _ => exact zc54
  | 55, _ => exact zc55
  | 56, _ => exact zc56
  | 57, _ => exact zc57
  | 58, _ => exact zc58
  | 59, _ => exact zc59
  | 60, _ => exact zc60
  | 61, _ => exact zc61
  | 62, _ => exact zc62
  | 63, _ => exact zc63
  | 64, _ => exact zc64
  | 65, _ => exact zc65
  | 66, _ => exact zc66
  | 67, _ => exact zc67
  | 68, _ => exact zc68
  | 69, _ => exact zc69
  | 70, _ => exact zc70
  | 71, _ => exact zc71
  | 72, _ => exact zc72
  | 73, _ => exact zc73
  | 74, _ => exact zc74
  | 75, _ => exact zc75
  | 76, _ => exact zc76
  | 77, _ => exact zc77
  | 78, _ => exact zc78
  | 79, _ => exact zc79
  | 80, _ => exact zc80
  | 81, _ => exact zc81
  | 82, _ => exact zc82
  | 83, _ => exact zc83
  | 84, _ => exact zc84
  | 85, _ => exact zc85
  | 86, _ => exact zc86
  | 87, _ => exact zc87
  | 88, _ => exact zc88
  | 89, _ => exact zc89
  | 90, _ => exact zc90
  | 91, _ => exact zc91
  | 92, _ => exact zc92
  | 93, _ => exact zc93
  | 94, _ => exact zc94
  | 95, _ => exact zc95
  | 96, _ => exact zc96
  | 97, _ => exact zc97
  | 98, _ => exact zc98
  | 99, _ => exact zc99
  | 100, _ => exact zc100
  | 101, _ => exact zc101
  | 102, _ => exact zc102
  | 103, _ => exact zc103
  | 104, _ => exact zc104
  | 105, _ => exact zc105
  | 106, _ => exact zc106
  | 107, _ => exact zc107
  | 108, _ => exact zc108
  | 109, _ => exact zc109
  | 110, _ => exact zc110
  | 111, _ => exact zc111
  | 112, _ => exact zc112
  | 113, _ => exact zc113
  | 114, _ => exact zc114
  | 115, _ => exact zc115
  | 116, _ => exact zc116
  | 117, _ => exact zc117
  | 118, _ => exact zc118
  | 119, _ => exact zc119
  | 120, _ => exact zc120
  | 121, _ => exact zc121
  | 122, _ => exact zc122
  | 123, _ => exact zc123
  | 124, _ => exact zc124
  | 125, _ => exact zc125
  | 126, _ => exact zc126
  | 127, _ => exact zc127
  | 128, _ => exact zc128
  | 129, _ => exact zc129
  | 130, _ => exact zc130
  | 131, _ => exact zc131
  | 132, _ => exact zc132
  | 133, _ => exact zc133
  | 134, _ => exact zc134
  | 135, _ => exact zc135
  | 136, _ => exact zc136
  | 137, _ => exact zc137
  | 138, _ => exact zc138
  | 139, _ => exact zc139
  | 140, _ => exact zc140
  | 141, _ => exact zc141
  | 142, _ => exact zc142
  | 143, _ => exact zc143
  | 144, _ => exact zc144
  | 145, _ => exact zc145
  | 146, _ => exact zc146
  | 147, _ => exact zc147
  | 148, _ => exact zc148
  | 149, _ => exact zc149
  | 150, _ => exact zc150
  | 151, _ => exact zc151
  | 152, _ => exact zc152
  | 153, _ => exact zc153
  | 154, _ => exact zc154
  | 155, _ => exact zc155
  | 156, _ => exact zc156
  | 157, _ => exact zc157
  | 158, _ => exact zc158
  | 159, _ => exact zc159
  | 160, _ => exact zc160
  | 161, _ => exact zc161
  | 162, _ => exact zc162
  | 163, _ => exact zc163
  | 164, _ => exact zc164
  | 165, _ => exact zc165
  | 166, _ => exact zc166
  | 167, _ => exact zc167
  | 168, _ => exact zc168
  | 169, _ => exact zc169
  | 170, _ => exact zc170
  | 171, _ => exact zc171
  | 172, _ => exact zc172
  | 173, _ => exact zc173
  | 174, _ => exact zc174
  | 175, _ => exact zc175
  | 176, _ => exact zc176
  | 177, _ => exact zc177
  | 178, _ => exact zc178
  | 179, _ => exact zc179
  | 180, _ => exact zc180
  | 181, _ => exact zc181
  | 182, _ => exact zc182
  | 183, _ => exact zc183
  | 184, _ => exact zc184
  | 185, _ => exact zc185
  | 186, _ => exact zc186
  | 187, _ => exact zc187
  | 188, _ => exact zc188
  | 189, _ => exact zc189
  | 190, _ => exact zc190
  | 191, _ => exact zc191
  | 192, _ => exact zc192
  | 193, _ => exact zc193
  | 194, _ => exact zc194
  | 195, _ => exact zc195
  | 196, _ => exact zc196
  | 197, _ => exact zc197
  | 198, _ => exact zc198
  | 199, _ => exact zc199
  | 200, _ => exact zc200
  | 201, _ => exact zc201
  | 202, _ => exact zc202
  | 203, _ => exact zc203
  | 204, _ => exact zc204
  | 205, _ => exact zc205
  | 206, _ => exact zc206
  | 207, _ => exact zc207
  | 208, _ => exact zc208
  | 209, _ => exact zc209
  | 210, _ => exact zc210
  | 211, _ => exact zc211
  | 212, _ => exact zc212
  | 213, _ => exact zc213
  | 214, _ => exact zc214
  | 215, _ => exact zc215
  | 216, _ => exact zc216
  | 217, _ => exact zc217
  | 218, _ => exact zc218
  | 219, _ => exact zc219
  | 220, _ => exact zc220
  | 221, _ => exact zc221
  | 222, _ => exact zc222
  | 223, _ => exact zc223
  | 224, _ => exact zc224
  | 225, _ => exact zc225
  | 226, _ => exact zc226
  | 227, _ => exact zc227
  | 228, _ => exact zc228
  | 229, _ => exact zc229
  | 230, _ => exact zc230
  | 231, _ => exact zc231
  | 232, _ => exact zc232
  | n + 233, h => exact absurd h (by omega)
theorem zw1 : Cond.code zm1.1 zm1.2.1 zm1.2.2.1 zm1.2.2.2.1 ∈ tables_1 ∧ zm1.1.cls ≠ "NineDownLaw" ∧ plainName zm1.1.cls = true := ⟨List.mem_append_left _ (List.mem_of_getElem? (i := 65) rfl), by decide, by decide⟩
theorem zw2 : Cond.code zm2.1 zm2.2.1 zm2.2.2.1 zm2.2.2.2.1 ∈ tables_1 ∧ zm2.1.cls ≠ "NineDownLaw" ∧ plainName zm2.1.cls = true := ⟨List.mem_append_right _ (List.mem_append_left _ (List.mem_of_getElem? (i := 223) rfl)), by decide, by decide⟩
theorem zw3 : Cond.code zm3.1 zm3.2.1 zm3.2.2.1 zm3.2.2.2.1 ∈ tables_1 ∧ zm3.1.cls ≠ "NineDownLaw" ∧ plainName zm3.1.cls = true := ⟨List.mem_append_right _ (List.mem_append_right _ (List.mem_append_left _ (List.mem_of_getElem? (i := 87) rfl))), by decide, by decide⟩
theorem zw4 : Cond.code zm4.1 zm4.2.1 zm4.2.2.1 zm4.2.2.2.1 ∈ tables_1 ∧ zm4.1.cls ≠ "NineDownLaw" ∧ plainName zm4.1.cls = true := ⟨List.mem_append_right _ (List.mem_append_right _ (List.mem_append_left _ (List.mem_of_getElem? (i := 121) rfl))), by decide, by decide⟩
theorem zw5 : Cond.code zm5.1 zm5.2.1 zm5.2.2.1 zm5.2.2.2.1 ∈ tables_1 ∧ zm5.1.cls ≠ "NineDownLaw" ∧ plainName zm5.1.cls = true := ⟨List.mem_append_right _ (List.mem_append_right _ (List.mem_append_left _ (List.mem_of_getElem? (i := 91) rfl))), by decide, by decide⟩
theorem zw6 : Cond.code zm6.1 zm6.2.1 zm6.2.2.1 zm6.2.2.2.1 ∈ tables_1 ∧ zm6.1.cls ≠ "NineDownLaw" ∧ plainName zm6.1.cls = true := ⟨List.mem_append_right _ (List.mem_append_left _ (List.mem_of_getElem? (i := 235) rfl)), by decide, by decide⟩
theorem zw7 : Cond.code zm7.1 zm7.2.1 zm7.2.2.1 zm7.2.2.2.1 ∈ tables_1 ∧ zm7.1.cls ≠ "NineDownLaw" ∧ plainName zm7.1.cls = true := ⟨List.mem_append_right _ (List.mem_append_left _ (List.mem_of_getElem? (i := 4) rfl)), by decide, by decide⟩
theorem zw8 : Cond.code zm8.1 zm8.2.1 zm8.2.2.1 zm8.2.2.2.1 ∈ tables_1 ∧ zm8.1.cls ≠ "NineDownLaw" ∧ plainName zm8.1.cls = true := ⟨List.mem_append_right _ (List.mem_append_right _ (List.mem_append_right _ (List.mem_append_left _ (List.mem_of_getElem? (i := 74) rfl)))), by decide, by decide⟩
theorem zw9 : Cond.code zm9.1 zm9.2.1 zm9.2.2.1 zm9.2.2.2.1 ∈ tables_1 ∧ zm9.1.cls ≠ "NineDownLaw" ∧ plainName zm9.1.cls = true := ⟨List.mem_append_right _ (List.mem_append_right _ (List.mem_append_left _ (List.mem_of_getElem? (i := 55) rfl))), by decide, by decide⟩
theorem zw10 : Cond.code zm10.1 zm10.2.1 zm10.2.2.1 zm10.2.2.2.1 ∈ tables_1 ∧ zm10.1.cls ≠ "NineDownLaw" ∧ plainName zm10.1.cls = true := ⟨List.mem_append_right _ (List.mem_append_right _ (List.mem_append_left _ (List.mem_of_getElem? (i := 75) rfl))), by decide, by decide⟩
theorem zw11 : Cond.code zm11.1 zm11.2.1 zm11.2.2.1 zm11.2.2.2.1 ∈ tables_1 ∧ zm11.1.cls ≠ "NineDownLaw" ∧ plainName zm11.1.cls = true := ⟨List.mem_append_right _ (List.mem_append_right _ (List.mem_append_right _ (List.mem_append_left _ (List.mem_of_getElem? (i := 107) rfl)))), by decide, by decide⟩
theorem zw12 : Cond.code zm12.1 zm12.2.1 zm12.2.2.1 zm12.2.2.2.1 ∈ tables_1 ∧ zm12.1.cls ≠ "NineDownLaw" ∧ plainName zm12.1.cls = true := ⟨List.mem_append_right _ (List.mem_append_right _ (List.mem_append_right _ (List.mem_append_left _ (List.mem_of_getElem? (i := 123) rfl)))), by decide, by decide⟩
theorem zw13 : Cond.code zm13.1 zm13.2.1 zm13.2.2.1 zm13.2.2.2.1 ∈ tables_1 ∧ zm13.1.cls ≠ "NineDownLaw" ∧ plainName zm13.1.cls = true := ⟨List.mem_append_right _ (List.mem_append_left _ (List.mem_of_getElem? (i := 22) rfl)), by decide, by decide⟩
theorem zw14 : Cond.code zm14.1 zm14.2.1 zm14.2.2.1 zm14.2.2.2.1 ∈ tables_1 ∧ zm14.1.cls ≠ "NineDownLaw" ∧ plainName zm14.1.cls = true := ⟨List.mem_append_right _ (List.mem_append_right _ (List.mem_append_right _ (List.mem_append_left _ (List.mem_of_getElem? (i := 77) rfl)))), by decide, by decide⟩
theorem zw15 : Cond.code zm15.1 zm15.2.1 zm15.2.2.1 zm15.2.2.2.1 ∈ tables_1 ∧ zm15.1.cls ≠ "NineDownLaw" ∧ plainName zm15.1.cls = true := ⟨List.mem_append_right _ (List.mem_append_right _ (List.mem_append_left _ (List.mem_of_getElem? (i := 42) rfl))), by decide, by decide⟩
theorem zw16 : Cond.code zm16.1 zm16.2.1 zm16.2.2.1 zm16.2.2.2.1 ∈ tables_1 ∧ zm16.1.cls ≠ "NineDownLaw" ∧ plainName zm16.1.cls = true := ⟨List.mem_append_right _ (List.mem_append_right _ (List.mem_append_left _ (List.mem_of_getElem? (i := 58) rfl))), by decide, by decide⟩
theorem zw17 : Cond.code zm17.1 zm17.2.1 zm17.2.2.1 zm17.2.2.2.1 ∈ tables_1 ∧ zm17.1.cls ≠ "NineDownLaw" ∧ plainName zm17.1.cls = true := ⟨List.mem_append_right _ (List.mem_append_right _ (List.mem_append_right _ (List.mem_append_left _ (List.mem_of_getElem? (i := 137) rfl)))), by decide, by decide⟩
theorem zw18 : Cond.code zm18.1 zm18.2.1 zm18.2.2.1 zm18.2.2.2.1 ∈ tables_1 ∧ zm18.1.cls ≠ "NineDownLaw" ∧ plainName zm18.1.cls = true := ⟨List.mem_append_right _ (List.mem_append_right _ (List.mem_append_right _ (List.mem_append_left _ (List.mem_of_getElem? (i := 150) rfl)))), by decide, by decide⟩
theorem zw19 : Cond.code zm19.1 zm19.2.1 zm19.2.2.1 zm19.2.2.2.1 ∈ tables_1 ∧ zm19.1.cls ≠ "NineDownLaw" ∧ plainName zm19.1.cls = true := ⟨List.mem_append_left _ (List.mem_of_getElem? (i := 226) rfl), by decide, by decide⟩
theorem zw20 : Cond.code zm20.1 zm20.2.1 zm20.2.2.1 zm20.2.2.2.1 ∈ tables_1 ∧ zm20.1.cls ≠ "NineDownLaw" ∧ plainName zm20.1.cls = true := ⟨List.mem_append_right _ (List.mem_append_right _ (List.mem_append_left _ (List.mem_of_getElem? (i := 48) rfl))), by decide, by decide⟩
theorem zw21 : Cond.code zm21.1 zm21.2.1 zm21.2.2.1 zm21.2.2.2.1 ∈ tables_1 ∧ zm21.1.cls ≠ "NineDownLaw" ∧ plainName zm21.1.cls = true := ⟨List.mem_append_right _ (List.mem_append_right _ (List.mem_append_left _ (List.mem_of_getElem? (i := 82) rfl))), by decide, by decide⟩
theorem zw22 : Cond.code zm22.1 zm22.2.1 zm22.2.2.1 zm22.2.2.2.1 ∈ tables_1 ∧ zm22.1.cls ≠ "NineDownLaw" ∧ plainName zm22.1.cls = true := ⟨List.mem_append_right _ (List.mem_append_right _ (List.mem_append_right _ (List.mem_append_left _ (List.mem_of_getElem? (i := 147) rfl)))), by decide, by decide⟩
theorem zw23 : Cond.code zm23.1 zm23.2.1 zm23.2.2.1 zm23.2.2.2.1 ∈ tables_1 ∧ zm23.1.cls ≠ "NineDownLaw" ∧ plainName zm23.1.cls = true := ⟨List.mem_append_right _ (List.mem_append_right _ (List.mem_append_right _ (List.mem_append_left _ (List.mem_of_getElem? (i := 133) rfl)))), by decide, by decide⟩
theorem zw24 : Cond.code zm24.1 zm24.2.1 zm24.2.2.1 zm24.2.2.2.1 ∈ tables_1 ∧ zm24.1.cls ≠ "NineDownLaw" ∧ plainName zm24.1.cls = true := ⟨List.mem_append_right _ (List.mem_append_left _ (List.mem_of_getElem? (i := 31) rfl)), by decide, by decide⟩
theorem zw25 : Cond.code zm25.1 zm25.2.1 zm25.2.2.1 zm25.2.2.2.1 ∈ tables_1 ∧ zm25.1.cls ≠ "NineDownLaw" ∧ plainName zm25.1.cls = true := ⟨List.mem_append_right _ (List.mem_append_right _ (List.mem_append_right _ (List.mem_append_left _ (List.mem_of_getElem? (i := 80) rfl)))), by decide, by decide⟩
theorem zw26 : Cond.code zm26.1 zm26.2.1 zm26.2.2.1 zm26.2.2.2.1 ∈ tables_1 ∧ zm26.1.cls ≠ "NineDownLaw" ∧ plainName zm26.1.cls = true := ⟨List.mem_append_right _ (List.mem_append_right _ (List.mem_append_left _ (List.mem_of_getElem? (i := 61) rfl))), by decide, by decide⟩
theorem zw27 : Cond.code zm27.1 zm27.2.1 zm27.2.2.1 zm27.2.2.2.1 ∈ tables_1 ∧ zm27.1.cls ≠ "NineDownLaw" ∧ plainName zm27.1.cls = true := ⟨List.mem_append_right _ (List.mem_append_right _ (List.mem_append_right _ (List.mem_append_left _ (List.mem_of_getElem? (i := 142) rfl)))), by decide, by decide⟩
theorem zw28 : Cond.code zm28.1 zm28.2.1 zm28.2.2.1 zm28.2.2.2.1 ∈ tables_1 ∧ zm28.1.cls ≠ "NineDownLaw" ∧ plainName zm28.1.cls = true := ⟨List.mem_append_right _ (List.mem_append_left _ (List.mem_of_getElem? (i := 13) rfl)), by decide, by decide⟩
theorem zw29 : Cond.code zm29.1 zm29.2.1 zm29.2.2.1 zm29.2.2.2.1 ∈ tables_1 ∧ zm29.1.cls ≠ "NineDownLaw" ∧ plainName zm29.1.cls = true := ⟨List.mem_append_right _ (List.mem_append_right _ (List.mem_append_right _ (List.mem_append_left _ (List.mem_of_getElem? (i := 83) rfl)))), by decide, by decide⟩
theorem zw30 : Cond.code zm30.1 zm30.2.1 zm30.2.2.1 zm30.2.2.2.1 ∈ tables_1 ∧ zm30.1.cls ≠ "NineDownLaw" ∧ plainName zm30.1.cls = true := ⟨List.mem_append_right _ (List.mem_append_right _ (List.mem_append_left _ (List.mem_of_getElem? (i := 46) rfl))), by decide, by decide⟩
theorem zw31 : Cond.code zm31.1 zm31.2.1 zm31.2.2.1 zm31.2.2.2.1 ∈ tables_1 ∧ zm31.1.cls ≠ "NineDownLaw" ∧ plainName zm31.1.cls = true := ⟨List.mem_append_right _ (List.mem_append_right _ (List.mem_append_left _ (List.mem_of_getElem? (i := 65) rfl))), by decide, by decide⟩
theorem zw32 : Cond.code zm32.1 zm32.2.1 zm32.2.2.1 zm32.2.2.2.1 ∈ tables_1 ∧ zm32.1.cls ≠ "NineDownLaw" ∧ plainName zm32.1.cls = true := ⟨List.mem_append_right _ (List.mem_append_right _ (List.mem_append_right _ (List.mem_append_left _ (List.mem_of_getElem? (i := 127) rfl)))), by decide, by decide⟩
theorem zw33 : Cond.code zm33.1 zm33.2.1 zm33.2.2.1 zm33.2.2.2.1 ∈ tables_1 ∧ zm33.1.cls ≠ "NineDownLaw" ∧ plainName zm33.1.cls = true := ⟨List.mem_append_left _ (List.mem_of_getElem? (i := 31) rfl), by decide, by decide⟩
theorem zw34 : Cond.code zm34.1 zm34.2.1 zm34.2.2.1 zm34.2.2.2.1 ∈ tables_1 ∧ zm34.1.cls ≠ "NineDownLaw" ∧ plainName zm34.1.cls = true := ⟨List.mem_append_right _ (List.mem_append_left _ (List.mem_of_getElem? (i := 125) rfl)), by decide, by decide⟩
theorem zw35 : Cond.code zm35.1 zm35.2.1 zm35.2.2.1 zm35.2.2.2.1 ∈ tables_1 ∧ zm35.1.cls ≠ "NineDownLaw" ∧ plainName zm35.1.cls = true := ⟨List.mem_append_right _ (List.mem_append_left _ (List.mem_of_getElem? (i := 134) rfl)), by decide, by decide⟩
theorem zw36 : Cond.code zm36.1 zm36.2.1 zm36.2.2.1 zm36.2.2.2.1 ∈ tables_1 ∧ zm36.1.cls ≠ "NineDownLaw" ∧ plainName zm36.1.cls = true := ⟨List.mem_append_right _ (List.mem_append_left _ (List.mem_of_getElem? (i := 142) rfl)), by decide, by decide⟩
theorem zw37 : Cond.code zm37.1 zm37.2.1 zm37.2.2.1 zm37.2.2.2.1 ∈ tables_1 ∧ zm37.1.cls ≠ "NineDownLaw" ∧ plainName zm37.1.cls = true := ⟨List.mem_append_right _ (List.mem_append_left _ (List.mem_of_getElem? (i := 170) rfl)), by decide, by decide⟩
theorem zw38 : Cond.code zm38.1 zm38.2.1 zm38.2.2.1 zm38.2.2.2.1 ∈ tables_1 ∧ zm38.1.cls ≠ "NineDownLaw" ∧ plainName zm38.1.cls = true := ⟨List.mem_append_right _ (List.mem_append_left _ (List.mem_of_getElem? (i := 174) rfl)), by decide, by decide⟩
theorem zw39 : Cond.code zm39.1 zm39.2.1 zm39.2.2.1 zm39.2.2.2.1 ∈ tables_1 ∧ zm39.1.cls ≠ "NineDownLaw" ∧ plainName zm39.1.cls = true := ⟨List.mem_append_right _ (List.mem_append_left _ (List.mem_of_getElem? (i := 186) rfl)), by decide, by decide⟩
theorem zw40 : Cond.code zm40.1 zm40.2.1 zm40.2.2.1 zm40.2.2.2.1 ∈ tables_1 ∧ zm40.1.cls ≠ "NineDownLaw" ∧ plainName zm40.1.cls = true := ⟨List.mem_append_right _ (List.mem_append_left _ (List.mem_of_getElem? (i := 190) rfl)), by decide, by decide⟩
theorem zw41 : Cond.code zm41.1 zm41.2.1 zm41.2.2.1 zm41.2.2.2.1 ∈ tables_1 ∧ zm41.1.cls ≠ "NineDownLaw" ∧ plainName zm41.1.cls = true := ⟨List.mem_append_right _ (List.mem_append_left _ (List.mem_of_getElem? (i := 205) rfl)), by decide, by decide⟩
theorem zw42 : Cond.code zm42.1 zm42.2.1 zm42.2.2.1 zm42.2.2.2.1 ∈ tables_1 ∧ zm42.1.cls ≠ "NineDownLaw" ∧ plainName zm42.1.cls = true := ⟨List.mem_append_right _ (List.mem_append_left _ (List.mem_of_getElem? (i := 213) rfl)), by decide, by decide⟩
theorem zw43 : Cond.code zm43.1 zm43.2.1 zm43.2.2.1 zm43.2.2.2.1 ∈ tables_1 ∧ zm43.1.cls ≠ "NineDownLaw" ∧ plainName zm43.1.cls = true := ⟨List.mem_append_right _ (List.mem_append_left _ (List.mem_of_getElem? (i := 209) rfl)), by decide, by decide⟩
theorem zw44 : Cond.code zm44.1 zm44.2.1 zm44.2.2.1 zm44.2.2.2.1 ∈ tables_1 ∧ zm44.1.cls ≠ "NineDownLaw" ∧ plainName zm44.1.cls = true := ⟨List.mem_append_right _ (List.mem_append_left _ (List.mem_of_getElem? (i := 182) rfl)), by decide, by decide⟩
theorem zw45 : Cond.code zm45.1 zm45.2.1 zm45.2.2.1 zm45.2.2.2.1 ∈ tables_1 ∧ zm45.1.cls ≠ "NineDownLaw" ∧ plainName zm45.1.cls = true := ⟨List.mem_append_right _ (List.mem_append_left _ (List.mem_of_getElem? (i := 146) rfl)), by decide, by decide⟩
theorem zw46 : Cond.code zm46.1 zm46.2.1 zm46.2.2.1 zm46.2.2.2.1 ∈ tables_1 ∧ zm46.1.cls ≠ "NineDownLaw" ∧ plainName zm46.1.cls = true := ⟨List.mem_append_right _ (List.mem_append_left _ (List.mem_of_getElem? (i := 166) rfl)), by decide, by decide⟩
theorem zw47 : Cond.code zm47.1 zm47.2.1 zm47.2.2.1 zm47.2.2.2.1 ∈ tables_1 ∧ zm47.1.cls ≠ "NineDownLaw" ∧ plainName zm47.1.cls = true := ⟨List.mem_append_right _ (List.mem_append_left _ (List.mem_of_getElem? (i := 162) rfl)), by decide, by decide⟩
theorem zw48 : Cond.code zm48.1 zm48.2.1 zm48.2.2.1 zm48.2.2.2.1 ∈ tables_1 ∧ zm48.1.cls ≠ "NineDownLaw" ∧ plainName zm48.1.cls = true := ⟨List.mem_append_right _ (List.mem_append_left _ (List.mem_of_getElem? (i := 150) rfl)), by decide, by decide⟩
theorem zw49 : Cond.code zm49.1 zm49.2.1 zm49.2.2.1 zm49.2.2.2.1 ∈ tables_1 ∧ zm49.1.cls ≠ "NineDownLaw" ∧ plainName zm49.1.cls = true := ⟨List.mem_append_right _ (List.mem_append_left _ (List.mem_of_getElem? (i := 154) rfl)), by decide, by decide⟩
theorem zw50 : Cond.code zm50.1 zm50.2.1 zm50.2.2.1 zm50.2.2.2.1 ∈ tables_1 ∧ zm50.1.cls ≠ "NineDownLaw" ∧ plainName zm50.1.cls = true := ⟨List.mem_append_right _ (List.mem_append_right _ (List.mem_append_left _ (List.mem_of_getElem? (i := 32) rfl))), by decide, by decide⟩
theorem zw51 : Cond.code zm51.1 zm51.2.1 zm51.2.2.1 zm51.2.2.2.1 ∈ tables_1 ∧ zm51.1.cls ≠ "NineDownLaw" ∧ plainName zm51.1.cls = true := ⟨List.mem_append_left _ (List.mem_of_getElem? (i := 197) rfl), by decide, by decide⟩
theorem zw52 : Cond.code zm52.1 zm52.2.1 zm52.2.2.1 zm52.2.2.2.1 ∈ tables_1 ∧ zm52.1.cls ≠ "NineDownLaw" ∧ plainName zm52.1.cls = true := ⟨List.mem_append_right _ (List.mem_append_left _ (List.mem_of_getElem? (i := 90) rfl)), by decide, by decide⟩
theorem zw53 : Cond.code zm53.1 zm53.2.1 zm53.2.2.1 zm53.2.2.2.1 ∈ tables_1 ∧ zm53.1.cls ≠ "NineDownLaw" ∧ plainName zm53.1.cls = true := ⟨List.mem_append_right _ (List.mem_append_left _ (List.mem_of_getElem? (i := 102) rfl)), by decide, by decide⟩
theorem zw54 : Cond.code zm54.1 zm54.2.1 zm54.2.2.1 zm54.2.2.2.1 ∈ tables_1 ∧ zm54.1.cls ≠ "NineDownLaw" ∧ plainName zm54.1.cls = true := ⟨List.mem_append_right _ (List.mem_append_left _ (List.mem_of_getElem? (i := 106) rfl)), by decide, by decide⟩
theorem zw55 : Cond.code zm55.1 zm55.2.1 zm55.2.2.1 zm55.2.2.2.1 ∈ tables_1 ∧ zm55.1.cls ≠ "NineDownLaw" ∧ plainName zm55.1.cls = true := ⟨List.mem_append_left _ (List.mem_of_getElem? (i := 223) rfl), by decide, by decide⟩
theorem zw56 : Cond.code zm56.1 zm56.2.1 zm56.2.2.1 zm56.2.2.2.1 ∈ tables_1 ∧ zm56.1.cls ≠ "NineDownLaw" ∧ plainName zm56.1.cls = true := ⟨List.mem_append_right _ (List.mem_append_right _ (List.mem_append_right _ (List.mem_append_left _ (List.mem_of_getElem? (i := 86) rfl)))), by decide, by decide⟩
theorem zw57 : Cond.code zm57.1 zm57.2.1 zm57.2.2.1 zm57.2.2.2.1 ∈ tables_1 ∧ zm57.1.cls ≠ "NineDownLaw" ∧ plainName zm57.1.cls = true := ⟨List.mem_append_right _ (List.mem_append_right _ (List.mem_append_left _ (List.mem_of_getElem? (i := 68) rfl))), by decide, by decide⟩
theorem zw58 : Cond.code zm58.1 zm58.2.1 zm58.2.2.1 zm58.2.2.2.1 ∈ tables_1 ∧ zm58.1.cls ≠ "NineDownLaw" ∧ plainName zm58.1.cls = true := ⟨List.mem_append_right _ (List.mem_append_right _ (List.mem_append_left _ (List.mem_of_getElem? (i := 80) rfl))), by decide, by decide⟩
theorem zw59 : Cond.code zm59.1 zm59.2.1 zm59.2.2.1 zm59.2.2.2.1 ∈ tables_1 ∧ zm59.1.cls ≠ "NineDownLaw" ∧ plainName zm59.1.cls = true := ⟨List.mem_append_right _ (List.mem_append_right _ (List.mem_append_right _ (List.mem_append_left _ (List.mem_of_getElem? (i := 114) rfl)))), by decide, by decide⟩
theorem zw60 : Cond.code zm60.1 zm60.2.1 zm60.2.2.1 zm60.2.2.2.1 ∈ tables_1 ∧ zm60.1.cls ≠ "NineDownLaw" ∧ plainName zm60.1.cls = true := ⟨List.mem_append_right _ (List.mem_append_right _ (List.mem_append_right _ (List.mem_append_left _ (List.mem_of_getElem? (i := 130) rfl)))), by decide, by decide⟩
theorem zw61 : Cond.code zm61.1 zm61.2.1 zm61.2.2.1 zm61.2.2.2.1 ∈ tables_1 ∧ zm61.1.cls ≠ "NineDownLaw" ∧ plainName zm61.1.cls = true := ⟨List.mem_append_left _ (List.mem_of_getElem? (i := 91) rfl), by decide, by decide⟩
theorem zw62 : Cond.code zm62.1 zm62.2.1 zm62.2.2.1 zm62.2.2.2.1 ∈ tables_1 ∧ zm62.1.cls ≠ "NineDownLaw" ∧ plainName zm62.1.cls = true := ⟨List.mem_append_right _ (List.mem_append_right _ (List.mem_append_right _ (List.mem_append_left _ (List.mem_of_getElem? (i := 101) rfl)))), by decide, by decide⟩
theorem zw63 : Cond.code zm63.1 zm63.2.1 zm63.2.2.1 zm63.2.2.2.1 ∈ tables_1 ∧ zm63.1.cls ≠ "NineDownLaw" ∧ plainName zm63.1.cls = true := ⟨List.mem_append_right _ (List.mem_append_right _ (List.mem_append_right _ (List.mem_append_left _ (List.mem_of_getElem? (i := 111) rfl)))), by decide, by decide⟩
theorem zw64 : Cond.code zm64.1 zm64.2.1 zm64.2.2.1 zm64.2.2.2.1 ∈ tables_1 ∧ zm64.1.cls ≠ "NineDownLaw" ∧ plainName zm64.1.cls = true := ⟨List.mem_append_left _ (List.mem_of_getElem? (i := 111) rfl), by decide, by decide⟩
theorem zw65 : Cond.code zm65.1 zm65.2.1 zm65.2.2.1 zm65.2.2.2.1 ∈ tables_1 ∧ zm65.1.cls ≠ "NineDownLaw" ∧ plainName zm65.1.cls = true := ⟨List.mem_append_right _ (List.mem_append_left _ (List.mem_of_getElem? (i := 138) rfl)), by decide, by decide⟩
theorem zw66 : Cond.code zm66.1 zm66.2.1 zm66.2.2.1 zm66.2.2.2.1 ∈ tables_1 ∧ zm66.1.cls ≠ "NineDownLaw" ∧ plainName zm66.1.cls = true := ⟨List.mem_append_right _ (List.mem_append_left _ (List.mem_of_getElem? (i := 178) rfl)), by decide, by decide⟩
theorem zw67 : Cond.code zm67.1 zm67.2.1 zm67.2.2.1 zm67.2.2.2.1 ∈ tables_1 ∧ zm67.1.cls ≠ "NineDownLaw" ∧ plainName zm67.1.cls = true := ⟨List.mem_append_right _ (List.mem_append_left _ (List.mem_of_getElem? (i := 201) rfl)), by decide, by decide⟩
theorem zw68 : Cond.code zm68.1 zm68.2.1 zm68.2.2.1 zm68.2.2.2.1 ∈ tables_1 ∧ zm68.1.cls ≠ "NineDownLaw" ∧ plainName zm68.1.cls = true := ⟨List.mem_append_right _ (List.mem_append_left _ (List.mem_of_getElem? (i := 218) rfl)), by decide, by decide⟩
theorem zw69 : Cond.code zm69.1 zm69.2.1 zm69.2.2.1 zm69.2.2.2.1 ∈ tables_1 ∧ zm69.1.cls ≠ "NineDownLaw" ∧ plainName zm69.1.cls = true := ⟨List.mem_append_right _ (List.mem_append_right _ (List.mem_append_right _ (List.mem_append_left _ (List.mem_of_getElem? (i := 15) rfl)))), by decide, by decide⟩
theorem zw70 : Cond.code zm70.1 zm70.2.1 zm70.2.2.1 zm70.2.2.2.1 ∈ tables_1 ∧ zm70.1.cls ≠ "NineDownLaw" ∧ plainName zm70.1.cls = true := ⟨List.mem_append_right _ (List.mem_append_right _ (List.mem_append_left _ (List.mem_of_getElem? (i := 148) rfl))), by decide, by decide⟩
theorem zw71 : Cond.code zm71.1 zm71.2.1 zm71.2.2.1 zm71.2.2.2.1 ∈ tables_1 ∧ zm71.1.cls ≠ "NineDownLaw" ∧ plainName zm71.1.cls = true := ⟨List.mem_append_right _ (List.mem_append_right _ (List.mem_append_left _ (List.mem_of_getElem? (i := 13) rfl))), by decide, by decide⟩
theorem zw72 : Cond.code zm72.1 zm72.2.1 zm72.2.2.1 zm72.2.2.2.1 ∈ tables_1 ∧ zm72.1.cls ≠ "NineDownLaw" ∧ plainName zm72.1.cls = true := ⟨List.mem_append_right _ (List.mem_append_right _ (List.mem_append_left _ (List.mem_of_getElem? (i := 100) rfl))), by decide, by decide⟩
theorem zw73 : Cond.code zm73.1 zm73.2.1 zm73.2.2.1 zm73.2.2.2.1 ∈ tables_1 ∧ zm73.1.cls ≠ "NineDownLaw" ∧ plainName zm73.1.cls = true := ⟨List.mem_append_right _ (List.mem_append_right _ (List.mem_append_left _ (List.mem_of_getElem? (i := 8) rfl))), by decide, by decide⟩
theorem zw74 : Cond.code zm74.1 zm74.2.1 zm74.2.2.1 zm74.2.2.2.1 ∈ tables_1 ∧ zm74.1.cls ≠ "NineDownLaw" ∧ plainName zm74.1.cls = true := ⟨List.mem_append_right _ (List.mem_append_left _ (List.mem_of_getElem? (i := 194) rfl)), by decide, by decide⟩
theorem zw75 : Cond.code zm75.1 zm75.2.1 zm75.2.2.1 zm75.2.2.2.1 ∈ tables_1 ∧ zm75.1.cls ≠ "NineDownLaw" ∧ plainName zm75.1.cls = true := ⟨List.mem_append_right _ (List.mem_append_right _ (List.mem_append_left _ (List.mem_of_getElem? (i := 104) rfl))), by decide, by decide⟩
theorem zw76 : Cond.code zm76.1 zm76.2.1 zm76.2.2.1 zm76.2.2.2.1 ∈ tables_1 ∧ zm76.1.cls ≠ "NineDownLaw" ∧ plainName zm76.1.cls = true := ⟨List.mem_append_right _ (List.mem_append_left _ (List.mem_of_getElem? (i := 239) rfl)), by decide, by decide⟩
theorem zw77 : Cond.code zm77.1 zm77.2.1 zm77.2.2.1 zm77.2.2.2.1 ∈ tables_1 ∧ zm77.1.cls ≠ "NineDownLaw" ∧ plainName zm77.1.cls = true := ⟨List.mem_append_right _ (List.mem_append_right _ (List.mem_append_left _ (List.mem_of_getElem? (i := 25) rfl))), by decide, by decide⟩
theorem zw78 : Cond.code zm78.1 zm78.2.1 zm78.2.2.1 zm78.2.2.2.1 ∈ tables_1 ∧ zm78.1.cls ≠ "NineDownLaw" ∧ plainName zm78.1.cls = true := ⟨List.mem_append_right _ (List.mem_append_right _ (List.mem_append_left _ (List.mem_of_getElem? (i := 152) rfl))), by decide, by decide⟩
theorem zw79 : Cond.code zm79.1 zm79.2.1 zm79.2.2.1 zm79.2.2.2.1 ∈ tables_1 ∧ zm79.1.cls ≠ "NineDownLaw" ∧ plainName zm79.1.cls = true := ⟨List.mem_append_right _ (List.mem_append_right _ (List.mem_append_left _ (List.mem_of_getElem? (i := 29) rfl))), by decide, by decide⟩
theorem zw80 : Cond.code zm80.1 zm80.2.1 zm80.2.2.1 zm80.2.2.2.1 ∈ tables_1 ∧ zm80.1.cls ≠ "NineDownLaw" ∧ plainName zm80.1.cls = true := ⟨List.mem_append_right _ (List.mem_append_right _ (List.mem_append_left _ (List.mem_of_getElem? (i := 21) rfl))), by decide, by decide⟩
theorem zw81 : Cond.code zm81.1 zm81.2.1 zm81.2.2.1 zm81.2.2.2.1 ∈ tables_1 ∧ zm81.1.cls ≠ "NineDownLaw" ∧ plainName zm81.1.cls = true := ⟨List.mem_append_right _ (List.mem_append_right _ (List.mem_append_left _ (List.mem_of_getElem? (i := 17) rfl))), by decide, by decide⟩
theorem zw82 : Cond.code zm82.1 zm82.2.1 zm82.2.2.1 zm82.2.2.2.1 ∈ tables_1 ∧ zm82.1.cls ≠ "NineDownLaw" ∧ plainName zm82.1.cls = true := ⟨List.mem_append_right _ (List.mem_append_right _ (List.mem_append_left _ (List.mem_of_getElem? (i := 113) rfl))), by decide, by decide⟩
theorem zw83 : Cond.code zm83.1 zm83.2.1 zm83.2.2.1 zm83.2.2.2.1 ∈ tables_1 ∧ zm83.1.cls ≠ "NineDownLaw" ∧ plainName zm83.1.cls = true := ⟨List.mem_append_right _ (List.mem_append_right _ (List.mem_append_left _ (List.mem_of_getElem? (i := 200) rfl))), by decide, by decide⟩
theorem zw84 : Cond.code zm84.1 zm84.2.1 zm84.2.2.1 zm84.2.2.2.1 ∈ tables_1 ∧ zm84.1.cls ≠ "NineDownLaw" ∧ plainName zm84.1.cls = true := ⟨List.mem_append_right _ (List.mem_append_right _ (List.mem_append_left _ (List.mem_of_getElem? (i := 204) rfl))), by decide, by decide⟩
theorem zw85 : Cond.code zm85.1 zm85.2.1 zm85.2.2.1 zm85.2.2.2.1 ∈ tables_1 ∧ zm85.1.cls ≠ "NineDownLaw" ∧ plainName zm85.1.cls = true := ⟨List.mem_append_right _ (List.mem_append_right _ (List.mem_append_left _ (List.mem_of_getElem? (i := 216) rfl))), by decide, by decide⟩
theorem zw86 : Cond.code zm86.1 zm86.2.1 zm86.2.2.1 zm86.2.2.2.1 ∈ tables_1 ∧ zm86.1.cls ≠ "NineDownLaw" ∧ plainName zm86.1.cls = true := ⟨List.mem_append_right _ (List.mem_append_right _ (List.mem_append_left _ (List.mem_of_getElem? (i := 220) rfl))), by decide, by decide⟩
theorem zw87 : Cond.code zm87.1 zm87.2.1 zm87.2.2.1 zm87.2.2.2.1 ∈ tables_1 ∧ zm87.1.cls ≠ "NineDownLaw" ∧ plainName zm87.1.cls = true := ⟨List.mem_append_right _ (List.mem_append_right _ (List.mem_append_left _ (List.mem_of_getElem? (i := 228) rfl))), by decide, by decide⟩
theorem zw88 : Cond.code zm88.1 zm88.2.1 zm88.2.2.1 zm88.2.2.2.1 ∈ tables_1 ∧ zm88.1.cls ≠ "NineDownLaw" ∧ plainName zm88.1.cls = true := ⟨List.mem_append_right _ (List.mem_append_right _ (List.mem_append_right _ (List.mem_append_left _ (List.mem_of_getElem? (i := 4) rfl)))), by decide, by decide⟩
theorem zw89 : Cond.code zm89.1 zm89.2.1 zm89.2.2.1 zm89.2.2.2.1 ∈ tables_1 ∧ zm89.1.cls ≠ "NineDownLaw" ∧ plainName zm89.1.cls = true := ⟨List.mem_append_left _ (List.mem_of_getElem? (i := 21) rfl), by decide, by decide⟩
theorem zw90 : Cond.code zm90.1 zm90.2.1 zm90.2.2.1 zm90.2.2.2.1 ∈ tables_1 ∧ zm90.1.cls ≠ "NineDownLaw" ∧ plainName zm90.1.cls = true := ⟨List.mem_append_right _ (List.mem_append_left _ (List.mem_of_getElem? (i := 73) rfl)), by decide, by decide⟩
theorem zw91 : Cond.code zm91.1 zm91.2.1 zm91.2.2.1 zm91.2.2.2.1 ∈ tables_1 ∧ zm91.1.cls ≠ "NineDownLaw" ∧ plainName zm91.1.cls = true := ⟨List.mem_append_right _ (List.mem_append_left _ (List.mem_of_getElem? (i := 98) rfl)), by decide, by decide⟩
theorem zw92 : Cond.code zm92.1 zm92.2.1 zm92.2.2.1 zm92.2.2.2.1 ∈ tables_1 ∧ zm92.1.cls ≠ "NineDownLaw" ∧ plainName zm92.1.cls = true := ⟨List.mem_append_right _ (List.mem_append_left _ (List.mem_of_getElem? (i := 110) rfl)), by decide, by decide⟩
theorem zw93 : Cond.code zm93.1 zm93.2.1 zm93.2.2.1 zm93.2.2.2.1 ∈ tables_1 ∧ zm93.1.cls ≠ "NineDownLaw" ∧ plainName zm93.1.cls = true := ⟨List.mem_append_right _ (List.mem_append_left _ (List.mem_of_getElem? (i := 117) rfl)), by decide, by decide⟩
theorem zw94 : Cond.code zm94.1 zm94.2.1 zm94.2.2.1 zm94.2.2.2.1 ∈ tables_1 ∧ zm94.1.cls ≠ "NineDownLaw" ∧ plainName zm94.1.cls = true := ⟨List.mem_append_right _ (List.mem_append_left _ (List.mem_of_getElem? (i := 121) rfl)), by decide, by decide⟩
theorem zw95 : Cond.code zm95.1 zm95.2.1 zm95.2.2.1 zm95.2.2.2.1 ∈ tables_1 ∧ zm95.1.cls ≠ "NineDownLaw" ∧ plainName zm95.1.cls = true := ⟨List.mem_append_right _ (List.mem_append_left _ (List.mem_of_getElem? (i := 130) rfl)), by decide, by decide⟩
theorem zw96 : Cond.code zm96.1 zm96.2.1 zm96.2.2.1 zm96.2.2.2.1 ∈ tables_1 ∧ zm96.1.cls ≠ "NineDownLaw" ∧ plainName zm96.1.cls = true := ⟨List.mem_append_right _ (List.mem_append_left _ (List.mem_of_getElem? (i := 227) rfl)), by decide, by decide⟩
theorem zw97 : Cond.code zm97.1 zm97.2.1 zm97.2.2.1 zm97.2.2.2.1 ∈ tables_1 ∧ zm97.1.cls ≠ "NineDownLaw" ∧ plainName zm97.1.cls = true := ⟨List.mem_append_right _ (List.mem_append_left _ (List.mem_of_getElem? (i := 231) rfl)), by decide, by decide⟩
theorem zw98 : Cond.code zm98.1 zm98.2.1 zm98.2.2.1 zm98.2.2.2.1 ∈ tables_1 ∧ zm98.1.cls ≠ "NineDownLaw" ∧ plainName zm98.1.cls = true := ⟨List.mem_append_right _ (List.mem_append_right _ (List.mem_append_left _ (List.mem_of_getElem? (i := 4) rfl))), by decide, by decide⟩
theorem zw99 : Cond.code zm99.1 zm99.2.1 zm99.2.2.1 zm99.2.2.2.1 ∈ tables_1 ∧ zm99.1.cls ≠ "NineDownLaw" ∧ plainName zm99.1.cls = true := ⟨List.mem_append_right _ (List.mem_append_right _ (List.mem_append_left _ (List.mem_of_getElem? (i := 96) rfl))), by decide, by decide⟩
theorem zw100 : Cond.code zm100.1 zm100.2.1 zm100.2.2.1 zm100.2.2.2.1 ∈ tables_1 ∧ zm100.1.cls ≠ "NineDownLaw" ∧ plainName zm100.1.cls = true := ⟨List.mem_append_right _ (List.mem_append_right _ (List.mem_append_left _ (List.mem_of_getElem? (i := 109) rfl))), by decide, by decide⟩
theorem zw101 : Cond.code zm101.1 zm101.2.1 zm101.2.2.1 zm101.2.2.2.1 ∈ tables_1 ∧ zm101.1.cls ≠ "NineDownLaw" ∧ plainName zm101.1.cls = true := ⟨List.mem_append_right _ (List.mem_append_right _ (List.mem_append_left _ (List.mem_of_getElem? (i := 117) rfl))), by decide, by decide⟩
theorem zw102 : Cond.code zm102.1 zm102.2.1 zm102.2.2.1 zm102.2.2.2.1 ∈ tables_1 ∧ zm102.1.cls ≠ "NineDownLaw" ∧ plainName zm102.1.cls = true := ⟨List.mem_append_right _ (List.mem_append_right _ (List.mem_append_left _ (List.mem_of_getElem? (i := 126) rfl))), by decide, by decide⟩
theorem zw103 : Cond.code zm103.1 zm103.2.1 zm103.2.2.1 zm103.2.2.2.1 ∈ tables_1 ∧ zm103.1.cls ≠ "NineDownLaw" ∧ plainName zm103.1.cls = true := ⟨List.mem_append_right _ (List.mem_append_right _ (List.mem_append_left _ (List.mem_of_getElem? (i := 133) rfl))), by decide, by decide⟩
theorem zw104 : Cond.code zm104.1 zm104.2.1 zm104.2.2.1 zm104.2.2.2.1 ∈ tables_1 ∧ zm104.1.cls ≠ "NineDownLaw" ∧ plainName zm104.1.cls = true := ⟨List.mem_append_right _ (List.mem_append_right _ (List.mem_append_left _ (List.mem_of_getElem? (i := 137) rfl))), by decide, by decide⟩
theorem zw105 : Cond.code zm105.1 zm105.2.1 zm105.2.2.1 zm105.2.2.2.1 ∈ tables_1 ∧ zm105.1.cls ≠ "NineDownLaw" ∧ plainName zm105.1.cls = true := ⟨List.mem_append_right _ (List.mem_append_right _ (List.mem_append_left _ (List.mem_of_getElem? (i := 144) rfl))), by decide, by decide⟩
theorem zw106 : Cond.code zm106.1 zm106.2.1 zm106.2.2.1 zm106.2.2.2.1 ∈ tables_1 ∧ zm106.1.cls ≠ "NineDownLaw" ∧ plainName zm106.1.cls = true := ⟨List.mem_append_right _ (List.mem_append_right _ (List.mem_append_left _ (List.mem_of_getElem? (i := 156) rfl))), by decide, by decide⟩
theorem zw107 : Cond.code zm107.1 zm107.2.1 zm107.2.2.1 zm107.2.2.2.1 ∈ tables_1 ∧ zm107.1.cls ≠ "NineDownLaw" ∧ plainName zm107.1.cls = true := ⟨List.mem_append_right _ (List.mem_append_right _ (List.mem_append_left _ (List.mem_of_getElem? (i := 192) rfl))), by decide, by decide⟩
theorem zw108 : Cond.code zm108.1 zm108.2.1 zm108.2.2.1 zm108.2.2.2.1 ∈ tables_1 ∧ zm108.1.cls ≠ "NineDownLaw" ∧ plainName zm108.1.cls = true := ⟨List.mem_append_right _ (List.mem_append_right _ (List.mem_append_left _ (List.mem_of_getElem? (i := 196) rfl))), by decide, by decide⟩
theorem zw109 : Cond.code zm109.1 zm109.2.1 zm109.2.2.1 zm109.2.2.2.1 ∈ tables_1 ∧ zm109.1.cls ≠ "NineDownLaw" ∧ plainName zm109.1.cls = true := ⟨List.mem_append_right _ (List.mem_append_right _ (List.mem_append_left _ (List.mem_of_getElem? (i := 208) rfl))), by decide, by decide⟩
theorem zw110 : Cond.code zm110.1 zm110.2.1 zm110.2.2.1 zm110.2.2.2.1 ∈ tables_1 ∧ zm110.1.cls ≠ "NineDownLaw" ∧ plainName zm110.1.cls = true := ⟨List.mem_append_right _ (List.mem_append_right _ (List.mem_append_left _ (List.mem_of_getElem? (i := 212) rfl))), by decide, by decide⟩
theorem zw111 : Cond.code zm111.1 zm111.2.1 zm111.2.2.1 zm111.2.2.2.1 ∈ tables_1 ∧ zm111.1.cls ≠ "NineDownLaw" ∧ plainName zm111.1.cls = true := ⟨List.mem_append_right _ (List.mem_append_right _ (List.mem_append_left _ (List.mem_of_getElem? (i := 224) rfl))), by decide, by decide⟩
theorem zw112 : Cond.code zm112.1 zm112.2.1 zm112.2.2.1 zm112.2.2.2.1 ∈ tables_1 ∧ zm112.1.cls ≠ "NineDownLaw" ∧ plainName zm112.1.cls = true := ⟨List.mem_append_right _ (List.mem_append_right _ (List.mem_append_left _ (List.mem_of_getElem? (i := 232) rfl))), by decide, by decide⟩
theorem zw113 : Cond.code zm113.1 zm113.2.1 zm113.2.2.1 zm113.2.2.2.1 ∈ tables_1 ∧ zm113.1.cls ≠ "NineDownLaw" ∧ plainName zm113.1.cls = true := ⟨List.mem_append_right _ (List.mem_append_right _ (List.mem_append_right _ (List.mem_append_left _ (List.mem_of_getElem? (i := 0) rfl)))), by decide, by decide⟩
theorem zw114 : Cond.code zm114.1 zm114.2.1 zm114.2.2.1 zm114.2.2.2.1 ∈ tables_1 ∧ zm114.1.cls ≠ "NineDownLaw" ∧ plainName zm114.1.cls = true := ⟨List.mem_append_right _ (List.mem_append_right _ (List.mem_append_right _ (List.mem_append_left _ (List.mem_of_getElem? (i := 11) rfl)))), by decide, by decide⟩
theorem zw115 : Cond.code zm115.1 zm115.2.1 zm115.2.2.1 zm115.2.2.2.1 ∈ tables_1 ∧ zm115.1.cls ≠ "NineDownLaw" ∧ plainName zm115.1.cls = true := ⟨List.mem_append_right _ (List.mem_append_right _ (List.mem_append_right _ (List.mem_append_left _ (List.mem_of_getElem? (i := 28) rfl)))), by decide, by decide⟩
theorem zw116 : Cond.code zm116.1 zm116.2.1 zm116.2.2.1 zm116.2.2.2.1 ∈ tables_1 ∧ zm116.1.cls ≠ "NineDownLaw" ∧ plainName zm116.1.cls = true := ⟨List.mem_append_right _ (List.mem_append_right _ (List.mem_append_right _ (List.mem_append_left _ (List.mem_of_getElem? (i := 36) rfl)))), by decide, by decide⟩
theorem zw117 : Cond.code zm117.1 zm117.2.1 zm117.2.2.1 zm117.2.2.2.1 ∈ tables_1 ∧ zm117.1.cls ≠ "NineDownLaw" ∧ plainName zm117.1.cls = true := ⟨List.mem_append_right _ (List.mem_append_right _ (List.mem_append_right _ (List.mem_append_left _ (List.mem_of_getElem? (i := 48) rfl)))), by decide, by decide⟩
theorem zw118 : Cond.code zm118.1 zm118.2.1 zm118.2.2.1 zm118.2.2.2.1 ∈ tables_1 ∧ zm118.1.cls ≠ "NineDownLaw" ∧ plainName zm118.1.cls = true := ⟨List.mem_append_right _ (List.mem_append_right _ (List.mem_append_right _ (List.mem_append_left _ (List.mem_of_getElem? (i := 60) rfl)))), by decide, by decide⟩
theorem zw119 : Cond.code zm119.1 zm119.2.1 zm119.2.2.1 zm119.2.2.2.1 ∈ tables_1 ∧ zm119.1.cls ≠ "NineDownLaw" ∧ plainName zm119.1.cls = true := ⟨List.mem_append_right _ (List.mem_append_right _ (List.mem_append_right _ (List.mem_append_left _ (List.mem_of_getElem? (i := 64) rfl)))), by decide, by decide⟩
theorem zw120 : Cond.code zm120.1 zm120.2.1 zm120.2.2.1 zm120.2.2.2.1 ∈ tables_1 ∧ zm120.1.cls ≠ "NineDownLaw" ∧ plainName zm120.1.cls = true := ⟨List.mem_append_right _ (List.mem_append_right _ (List.mem_append_right _ (List.mem_append_left _ (List.mem_of_getElem? (i := 68) rfl)))), by decide, by decide⟩
theorem zw121 : Cond.code zm121.1 zm121.2.1 zm121.2.2.1 zm121.2.2.2.1 ∈ tables_1 ∧ zm121.1.cls ≠ "NineDownLaw" ∧ plainName zm121.1.cls = true := ⟨List.mem_append_right _ (List.mem_append_right _ (List.mem_append_right _ (List.mem_append_left _ (List.mem_of_getElem? (i := 90) rfl)))), by decide, by decide⟩
theorem zw122 : Cond.code zm122.1 zm122.2.1 zm122.2.2.1 zm122.2.2.2.1 ∈ tables_1 ∧ zm122.1.cls ≠ "NineDownLaw" ∧ plainName zm122.1.cls = true := ⟨List.mem_append_right _ (List.mem_append_right _ (List.mem_append_right _ (List.mem_append_left _ (List.mem_of_getElem? (i := 97) rfl)))), by decide, by decide⟩
theorem zw123 : Cond.code zm123.1 zm123.2.1 zm123.2.2.1 zm123.2.2.2.1 ∈ tables_1 ∧ zm123.1.cls ≠ "NineDownLaw" ∧ plainName zm123.1.cls = true := ⟨List.mem_append_right _ (List.mem_append_right _ (List.mem_append_right _ (List.mem_append_left _ (List.mem_of_getElem? (i := 156) rfl)))), by decide, by decide⟩
theorem zw124 : Cond.code zm124.1 zm124.2.1 zm124.2.2.1 zm124.2.2.2.1 ∈ tables_1 ∧ zm124.1.cls ≠ "NineDownLaw" ∧ plainName zm124.1.cls = true := ⟨List.mem_append_right _ (List.mem_append_right _ (List.mem_append_right _ (List.mem_append_left _ (List.mem_of_getElem? (i := 160) rfl)))), by decide, by decide⟩
theorem zw125 : Cond.code zm125.1 zm125.2.1 zm125.2.2.1 zm125.2.2.2.1 ∈ tables_1 ∧ zm125.1.cls ≠ "NineDownLaw" ∧ plainName zm125.1.cls = true := ⟨List.mem_append_right _ (List.mem_append_right _ (List.mem_append_right _ (List.mem_append_left _ (List.mem_of_getElem? (i := 168) rfl)))), by decide, by decide⟩
theorem zw126 : Cond.code zm126.1 zm126.2.1 zm126.2.2.1 zm126.2.2.2.1 ∈ tables_1 ∧ zm126.1.cls ≠ "NineDownLaw" ∧ plainName zm126.1.cls = true := ⟨List.mem_append_right _ (List.mem_append_left _ (List.mem_of_getElem? (i := 80) rfl)), by decide, by decide⟩
theorem zw127 : Cond.code zm127.1 zm127.2.1 zm127.2.2.1 zm127.2.2.2.1 ∈ tables_1 ∧ zm127.1.cls ≠ "NineDownLaw" ∧ plainName zm127.1.cls = true := ⟨List.mem_append_right _ (List.mem_append_left _ (List.mem_of_getElem? (i := 197) rfl)), by decide, by decide⟩
theorem zw128 : Cond.code zm128.1 zm128.2.1 zm128.2.2.1 zm128.2.2.2.1 ∈ tables_1 ∧ zm128.1.cls ≠ "NineDownLaw" ∧ plainName zm128.1.cls = true := ⟨List.mem_append_right _ (List.mem_append_left _ (List.mem_of_getElem? (i := 77) rfl)), by decide, by decide⟩
theorem zw129 : Cond.code zm129.1 zm129.2.1 zm129.2.2.1 zm129.2.2.2.1 ∈ tables_1 ∧ zm129.1.cls ≠ "NineDownLaw" ∧ plainName zm129.1.cls = true := ⟨List.mem_append_right _ (List.mem_append_right _ (List.mem_append_right _ (List.mem_append_left _ (List.mem_of_getElem? (i := 164) rfl)))), by decide, by decide⟩
theorem zw130 : Cond.code zm130.1 zm130.2.1 zm130.2.2.1 zm130.2.2.2.1 ∈ tables_1 ∧ zm130.1.cls ≠ "NineDownLaw" ∧ plainName zm130.1.cls = true := ⟨List.mem_append_right _ (List.mem_append_left _ (List.mem_of_getElem? (i := 85) rfl)), by decide, by decide⟩
theorem zw131 : Cond.code zm131.1 zm131.2.1 zm131.2.2.1 zm131.2.2.2.1 ∈ tables_1 ∧ zm131.1.cls ≠ "NineDownLaw" ∧ plainName zm131.1.cls = true := ⟨List.mem_append_right _ (List.mem_append_left _ (List.mem_of_getElem? (i := 94) rfl)), by decide, by decide⟩
theorem zw132 : Cond.code zm132.1 zm132.2.1 zm132.2.2.1 zm132.2.2.2.1 ∈ tables_1 ∧ zm132.1.cls ≠ "NineDownLaw" ∧ plainName zm132.1.cls = true := ⟨List.mem_append_right _ (List.mem_append_right _ (List.mem_append_left _ (List.mem_of_getElem? (i := 160) rfl))), by decide, by decide⟩
theorem zw133 : Cond.code zm133.1 zm133.2.1 zm133.2.2.1 zm133.2.2.2.1 ∈ tables_1 ∧ zm133.1.cls ≠ "NineDownLaw" ∧ plainName zm133.1.cls = true := ⟨List.mem_append_right _ (List.mem_append_right _ (List.mem_append_right _ (List.mem_append_left _ (List.mem_of_getElem? (i := 24) rfl)))), by decide, by decide⟩
theorem zw134 : Cond.code zm134.1 zm134.2.1 zm134.2.2.1 zm134.2.2.2.1 ∈ tables_1 ∧ zm134.1.cls ≠ "NineDownLaw" ∧ plainName zm134.1.cls = true := ⟨List.mem_append_right _ (List.mem_append_right _ (List.mem_append_left _ (List.mem_of_getElem? (i := 236) rfl))), by decide, by decide⟩
theorem zw135 : Cond.code zm135.1 zm135.2.1 zm135.2.2.1 zm135.2.2.2.1 ∈ tables_1 ∧ zm135.1.cls ≠ "NineDownLaw" ∧ plainName zm135.1.cls = true := ⟨List.mem_append_right _ (List.mem_append_right _ (List.mem_append_right _ (List.mem_append_left _ (List.mem_of_getElem? (i := 20) rfl)))), by decide, by decide⟩
theorem zw136 : Cond.code zm136.1 zm136.2.1 zm136.2.2.1 zm136.2.2.2.1 ∈ tables_1 ∧ zm136.1.cls ≠ "NineDownLaw" ∧ plainName zm136.1.cls = true := ⟨List.mem_append_right _ (List.mem_append_right _ (List.mem_append_right _ (List.mem_append_left _ (List.mem_of_getElem? (i := 32) rfl)))), by decide, by decide⟩
theorem zw137 : Cond.code zm137.1 zm137.2.1 zm137.2.2.1 zm137.2.2.2.1 ∈ tables_1 ∧ zm137.1.cls ≠ "NineDownLaw" ∧ plainName zm137.1.cls = true := ⟨List.mem_append_right _ (List.mem_append_right _ (List.mem_append_right _ (List.mem_append_left _ (List.mem_of_getElem? (i := 55) rfl)))), by decide, by decide⟩
theorem zw138 : Cond.code zm138.1 zm138.2.1 zm138.2.2.1 zm138.2.2.2.1 ∈ tables_1 ∧ zm138.1.cls ≠ "NineDownLaw" ∧ plainName zm138.1.cls = true := ⟨List.mem_append_right _ (List.mem_append_right _ (List.mem_append_left _ (List.mem_of_getElem? (i := 164) rfl))), by decide, by decide⟩
theorem zw139 : Cond.code zm139.1 zm139.2.1 zm139.2.2.1 zm139.2.2.2.1 ∈ tables_1 ∧ zm139.1.cls ≠ "NineDownLaw" ∧ plainName zm139.1.cls = true := ⟨List.mem_append_right _ (List.mem_append_right _ (List.mem_append_left _ (List.mem_of_getElem? (i := 169) rfl))), by decide, by decide⟩
theorem zw140 : Cond.code zm140.1 zm140.2.1 zm140.2.2.1 zm140.2.2.2.1 ∈ tables_1 ∧ zm140.1.cls ≠ "NineDownLaw" ∧ plainName zm140.1.cls = true := ⟨List.mem_append_right _ (List.mem_append_right _ (List.mem_append_left _ (List.mem_of_getElem? (i := 174) rfl))), by decide, by decide⟩
theorem zw141 : Cond.code zm141.1 zm141.2.1 zm141.2.2.1 zm141.2.2.2.1 ∈ tables_1 ∧ zm141.1.cls ≠ "NineDownLaw" ∧ plainName zm141.1.cls = true := ⟨List.mem_append_right _ (List.mem_append_right _ (List.mem_append_left _ (List.mem_of_getElem? (i := 180) rfl))), by decide, by decide⟩
theorem zw142 : Cond.code zm142.1 zm142.2.1 zm142.2.2.1 zm142.2.2.2.1 ∈ tables_1 ∧ zm142.1.cls ≠ "NineDownLaw" ∧ plainName zm142.1.cls = true := ⟨List.mem_append_right _ (List.mem_append_right _ (List.mem_append_left _ (List.mem_of_getElem? (i := 184) rfl))), by decide, by decide⟩
theorem zw143 : Cond.code zm143.1 zm143.2.1 zm143.2.2.1 zm143.2.2.2.1 ∈ tables_1 ∧ zm143.1.cls ≠ "NineDownLaw" ∧ plainName zm143.1.cls = true := ⟨List.mem_append_right _ (List.mem_append_right _ (List.mem_append_left _ (List.mem_of_getElem? (i := 188) rfl))), by decide, by decide⟩
theorem zw144 : Cond.code zm144.1 zm144.2.1 zm144.2.2.1 zm144.2.2.2.1 ∈ tables_1 ∧ zm144.1.cls ≠ "NineDownLaw" ∧ plainName zm144.1.cls = true := ⟨List.mem_append_right _ (List.mem_append_right _ (List.mem_append_right _ (List.mem_append_left _ (List.mem_of_getElem? (i := 40) rfl)))), by decide, by decide⟩
theorem zw145 : Cond.code zm145.1 zm145.2.1 zm145.2.2.1 zm145.2.2.2.1 ∈ tables_1 ∧ zm145.1.cls ≠ "NineDownLaw" ∧ plainName zm145.1.cls = true := ⟨List.mem_append_right _ (List.mem_append_right _ (List.mem_append_right _ (List.mem_append_left _ (List.mem_of_getElem? (i := 44) rfl)))), by decide, by decide⟩
theorem zw146 : Cond.code zm146.1 zm146.2.1 zm146.2.2.1 zm146.2.2.2.1 ∈ tables_1 ∧ zm146.1.cls ≠ "NineDownLaw" ∧ plainName zm146.1.cls = true := ⟨List.mem_append_left _ (List.mem_of_getElem? (i := 218) rfl), by decide, by decide⟩
theorem zw147 : Cond.code zm147.1 zm147.2.1 zm147.2.2.1 zm147.2.2.2.1 ∈ tables_1 ∧ zm147.1.cls ≠ "NineDownLaw" ∧ plainName zm147.1.cls = true := ⟨List.mem_append_right _ (List.mem_append_right _ (List.mem_append_right _ (List.mem_append_left _ (List.mem_of_getElem? (i := 93) rfl)))), by decide, by decide⟩
theorem zw148 : Cond.code zm148.1 zm148.2.1 zm148.2.2.1 zm148.2.2.2.1 ∈ tables_1 ∧ zm148.1.cls ≠ "NineDownLaw" ∧ plainName zm148.1.cls = true := ⟨List.mem_append_right _ (List.mem_append_right _ (List.mem_append_right _ (List.mem_append_left _ (List.mem_of_getElem? (i := 173) rfl)))), by decide, by decide⟩
theorem zw149 : Cond.code zm149.1 zm149.2.1 zm149.2.2.1 zm149.2.2.2.1 ∈ tables_1 ∧ zm149.1.cls ≠ "NineDownLaw" ∧ plainName zm149.1.cls = true := ⟨List.mem_append_right _ (List.mem_append_right _ (List.mem_append_right _ (List.mem_append_right _ (List.mem_append_left _ (List.mem_of_getElem? (i := 22) rfl))))), by decide, by decide⟩
theorem zw150 : Cond.code zm150.1 zm150.2.1 zm150.2.2.1 zm150.2.2.2.1 ∈ tables_1 ∧ zm150.1.cls ≠ "NineDownLaw" ∧ plainName zm150.1.cls = true := ⟨List.mem_append_right _ (List.mem_append_right _ (List.mem_append_right _ (List.mem_append_right _ (List.mem_append_left _ (List.mem_of_getElem? (i := 28) rfl))))), by decide, by decide⟩
theorem zw151 : Cond.code zm151.1 zm151.2.1 zm151.2.2.1 zm151.2.2.2.1 ∈ tables_1 ∧ zm151.1.cls ≠ "NineDownLaw" ∧ plainName zm151.1.cls = true := ⟨List.mem_append_right _ (List.mem_append_right _ (List.mem_append_right _ (List.mem_append_right _ (List.mem_append_left _ (List.mem_of_getElem? (i := 18) rfl))))), by decide, by decide⟩
theorem zw152 : Cond.code zm152.1 zm152.2.1 zm152.2.2.1 zm152.2.2.2.1 ∈ tables_1 ∧ zm152.1.cls ≠ "NineDownLaw" ∧ plainName zm152.1.cls = true := ⟨List.mem_append_right _ (List.mem_append_right _ (List.mem_append_right _ (List.mem_append_right _ (List.mem_append_left _ (List.mem_of_getElem? (i := 15) rfl))))), by decide, by decide⟩
theorem zw153 : Cond.code zm153.1 zm153.2.1 zm153.2.2.1 zm153.2.2.2.1 ∈ tables_1 ∧ zm153.1.cls ≠ "NineDownLaw" ∧ plainName zm153.1.cls = true := ⟨List.mem_append_right _ (List.mem_append_right _ (List.mem_append_right _ (List.mem_append_right _ (List.mem_append_left _ (List.mem_of_getElem? (i := 33) rfl))))), by decide, by decide⟩
theorem zw154 : Cond.code zm154.1 zm154.2.1 zm154.2.2.1 zm154.2.2.2.1 ∈ tables_1 ∧ zm154.1.cls ≠ "NineDownLaw" ∧ plainName zm154.1.cls = true := ⟨List.mem_append_right _ (List.mem_append_right _ (List.mem_append_right _ (List.mem_append_right _ (List.mem_append_left _ (List.mem_of_getElem? (i := 37) rfl))))), by decide, by decide⟩
theorem zw155 : Cond.code zm155.1 zm155.2.1 zm155.2.2.1 zm155.2.2.2.1 ∈ tables_1 ∧ zm155.1.cls ≠ "NineDownLaw" ∧ plainName zm155.1.cls = true := ⟨List.mem_append_right _ (List.mem_append_right _ (List.mem_append_right _ (List.mem_append_right _ (List.mem_append_left _ (List.mem_of_getElem? (i := 41) rfl))))), by decide, by decide⟩
theorem zw156 : Cond.code zm156.1 zm156.2.1 zm156.2.2.1 zm156.2.2.2.1 ∈ tables_1 ∧ zm156.1.cls ≠ "NineDownLaw" ∧ plainName zm156.1.cls = true := ⟨List.mem_append_right _ (List.mem_append_right _ (List.mem_append_right _ (List.mem_append_right _ (List.mem_append_left _ (List.mem_of_getElem? (i := 45) rfl))))), by decide, by decide⟩
theorem zw157 : Cond.code zm157.1 zm157.2.1 zm157.2.2.1 zm157.2.2.2.1 ∈ tables_1 ∧ zm157.1.cls ≠ "NineDownLaw" ∧ plainName zm157.1.cls = true := ⟨List.mem_append_right _ (List.mem_append_right _ (List.mem_append_right _ (List.mem_append_right _ (List.mem_append_left _ (List.mem_of_getElem? (i := 80) rfl))))), by decide, by decide⟩
theorem zw158 : Cond.code zm158.1 zm158.2.1 zm158.2.2.1 zm158.2.2.2.1 ∈ tables_1 ∧ zm158.1.cls ≠ "NineDownLaw" ∧ plainName zm158.1.cls = true := ⟨List.mem_append_right _ (List.mem_append_right _ (List.mem_append_right _ (List.mem_append_right _ (List.mem_append_left _ (List.mem_of_getElem? (i := 63) rfl))))), by decide, by decide⟩
theorem zw159 : Cond.code zm159.1 zm159.2.1 zm159.2.2.1 zm159.2.2.2.1 ∈ tables_1 ∧ zm159.1.cls ≠ "NineDownLaw" ∧ plainName zm159.1.cls = true := ⟨List.mem_append_right _ (List.mem_append_right _ (List.mem_append_right _ (List.mem_append_right _ (List.mem_append_left _ (List.mem_of_getElem? (i := 76) rfl))))), by decide, by decide⟩
theorem zw160 : Cond.code zm160.1 zm160.2.1 zm160.2.2.1 zm160.2.2.2.1 ∈ tables_1 ∧ zm160.1.cls ≠ "NineDownLaw" ∧ plainName zm160.1.cls = true := ⟨List.mem_append_right _ (List.mem_append_right _ (List.mem_append_right _ (List.mem_append_right _ (List.mem_append_left _ (List.mem_of_getElem? (i := 72) rfl))))), by decide, by decide⟩
theorem zw161 : Cond.code zm161.1 zm161.2.1 zm161.2.2.1 zm161.2.2.2.1 ∈ tables_1 ∧ zm161.1.cls ≠ "NineDownLaw" ∧ plainName zm161.1.cls = true := ⟨List.mem_append_right _ (List.mem_append_right _ (List.mem_append_right _ (List.mem_append_right _ (List.mem_append_left _ (List.mem_of_getElem? (i := 84) rfl))))), by decide, by decide⟩
theorem zw162 : Cond.code zm162.1 zm162.2.1 zm162.2.2.1 zm162.2.2.2.1 ∈ tables_1 ∧ zm162.1.cls ≠ "NineDownLaw" ∧ plainName zm162.1.cls = true := ⟨List.mem_append_right _ (List.mem_append_right _ (List.mem_append_right _ (List.mem_append_right _ (List.mem_append_left _ (List.mem_of_getElem? (i := 88) rfl))))), by decide, by decide⟩
theorem zw163 : Cond.code zm163.1 zm163.2.1 zm163.2.2.1 zm163.2.2.2.1 ∈ tables_1 ∧ zm163.1.cls ≠ "NineDownLaw" ∧ plainName zm163.1.cls = true := ⟨List.mem_append_right _ (List.mem_append_right _ (List.mem_append_right _ (List.mem_append_right _ (List.mem_append_left _ (List.mem_of_getElem? (i := 59) rfl))))), by decide, by decide⟩
theorem zw164 : Cond.code zm164.1 zm164.2.1 zm164.2.2.1 zm164.2.2.2.1 ∈ tables_1 ∧ zm164.1.cls ≠ "NineDownLaw" ∧ plainName zm164.1.cls = true := ⟨List.mem_append_right _ (List.mem_append_right _ (List.mem_append_right _ (List.mem_append_right _ (List.mem_append_left _ (List.mem_of_getElem? (i := 111) rfl))))), by decide, by decide⟩
theorem zw165 : Cond.code zm165.1 zm165.2.1 zm165.2.2.1 zm165.2.2.2.1 ∈ tables_1 ∧ zm165.1.cls ≠ "NineDownLaw" ∧ plainName zm165.1.cls = true := ⟨List.mem_append_right _ (List.mem_append_right _ (List.mem_append_right _ (List.mem_append_right _ (List.mem_append_left _ (List.mem_of_getElem? (i := 51) rfl))))), by decide, by decide⟩
theorem zw166 : Cond.code zm166.1 zm166.2.1 zm166.2.2.1 zm166.2.2.2.1 ∈ tables_1 ∧ zm166.1.cls ≠ "NineDownLaw" ∧ plainName zm166.1.cls = true := ⟨List.mem_append_right _ (List.mem_append_right _ (List.mem_append_right _ (List.mem_append_right _ (List.mem_append_left _ (List.mem_of_getElem? (i := 103) rfl))))), by decide, by decide⟩
theorem zw167 : Cond.code zm167.1 zm167.2.1 zm167.2.2.1 zm167.2.2.2.1 ∈ tables_1 ∧ zm167.1.cls ≠ "NineDownLaw" ∧ plainName zm167.1.cls = true := ⟨List.mem_append_right _ (List.mem_append_right _ (List.mem_append_right _ (List.mem_append_right _ (List.mem_append_left _ (List.mem_of_getElem? (i := 92) rfl))))), by decide, by decide⟩
theorem zw168 : Cond.code zm168.1 zm168.2.1 zm168.2.2.1 zm168.2.2.2.1 ∈ tables_1 ∧ zm168.1.cls ≠ "NineDownLaw" ∧ plainName zm168.1.cls = true := ⟨List.mem_append_right _ (List.mem_append_right _ (List.mem_append_right _ (List.mem_append_right _ (List.mem_append_left _ (List.mem_of_getElem? (i := 100) rfl))))), by decide, by decide⟩
theorem zw169 : Cond.code zm169.1 zm169.2.1 zm169.2.2.1 zm169.2.2.2.1 ∈ tables_1 ∧ zm169.1.cls ≠ "NineDownLaw" ∧ plainName zm169.1.cls = true := ⟨List.mem_append_right _ (List.mem_append_right _ (List.mem_append_right _ (List.mem_append_right _ (List.mem_append_left _ (List.mem_of_getElem? (i := 96) rfl))))), by decide, by decide⟩
theorem zw170 : Cond.code zm170.1 zm170.2.1 zm170.2.2.1 zm170.2.2.2.1 ∈ tables_1 ∧ zm170.1.cls ≠ "NineDownLaw" ∧ plainName zm170.1.cls = true := ⟨List.mem_append_right _ (List.mem_append_right _ (List.mem_append_right _ (List.mem_append_right _ (List.mem_append_left _ (List.mem_of_getElem? (i := 107) rfl))))), by decide, by decide⟩
theorem zw171 : Cond.code zm171.1 zm171.2.1 zm171.2.2.1 zm171.2.2.2.1 ∈ tables_1 ∧ zm171.1.cls ≠ "NineDownLaw" ∧ plainName zm171.1.cls = true := ⟨List.mem_append_right _ (List.mem_append_right _ (List.mem_append_right _ (List.mem_append_right _ (List.mem_append_left _ (List.mem_of_getElem? (i := 55) rfl))))), by decide, by decide⟩
theorem zw172 : Cond.code zm172.1 zm172.2.1 zm172.2.2.1 zm172.2.2.2.1 ∈ tables_1 ∧ zm172.1.cls ≠ "NineDownLaw" ∧ plainName zm172.1.cls = true := ⟨List.mem_append_right _ (List.mem_append_right _ (List.mem_append_right _ (List.mem_append_right _ (List.mem_append_left _ (List.mem_of_getElem? (i := 214) rfl))))), by decide, by decide⟩
theorem zw173 : Cond.code zm173.1 zm173.2.1 zm173.2.2.1 zm173.2.2.2.1 ∈ tables_1 ∧ zm173.1.cls ≠ "NineDownLaw" ∧ plainName zm173.1.cls = true := ⟨List.mem_append_right _ (List.mem_append_right _ (List.mem_append_right _ (List.mem_append_right _ (List.mem_append_left _ (List.mem_of_getElem? (i := 124) rfl))))), by decide, by decide⟩
theorem zw174 : Cond.code zm174.1 zm174.2.1 zm174.2.2.1 zm174.2.2.2.1 ∈ tables_1 ∧ zm174.1.cls ≠ "NineDownLaw" ∧ plainName zm174.1.cls = true := ⟨List.mem_append_right _ (List.mem_append_right _ (List.mem_append_right _ (List.mem_append_right _ (List.mem_append_left _ (List.mem_of_getElem? (i := 120) rfl))))), by decide, by decide⟩
theorem zw175 : Cond.code zm175.1 zm175.2.1 zm175.2.2.1 zm175.2.2.2.1 ∈ tables_1 ∧ zm175.1.cls ≠ "NineDownLaw" ∧ plainName zm175.1.cls = true := ⟨List.mem_append_right _ (List.mem_append_right _ (List.mem_append_right _ (List.mem_append_right _ (List.mem_append_left _ (List.mem_of_getElem? (i := 176) rfl))))), by decide, by decide⟩
theorem zw176 : Cond.code zm176.1 zm176.2.1 zm176.2.2.1 zm176.2.2.2.1 ∈ tables_1 ∧ zm176.1.cls ≠ "NineDownLaw" ∧ plainName zm176.1.cls = true := ⟨List.mem_append_right _ (List.mem_append_right _ (List.mem_append_right _ (List.mem_append_right _ (List.mem_append_left _ (List.mem_of_getElem? (i := 226) rfl))))), by decide, by decide⟩
theorem zw177 : Cond.code zm177.1 zm177.2.1 zm177.2.2.1 zm177.2.2.2.1 ∈ tables_1 ∧ zm177.1.cls ≠ "NineDownLaw" ∧ plainName zm177.1.cls = true := ⟨List.mem_append_right _ (List.mem_append_right _ (List.mem_append_right _ (List.mem_append_right _ (List.mem_append_left _ (List.mem_of_getElem? (i := 151) rfl))))), by decide, by decide⟩
theorem zw178 : Cond.code zm178.1 zm178.2.1 zm178.2.2.1 zm178.2.2.2.1 ∈ tables_1 ∧ zm178.1.cls ≠ "NineDownLaw" ∧ plainName zm178.1.cls = true := ⟨List.mem_append_right _ (List.mem_append_right _ (List.mem_append_right _ (List.mem_append_right _ (List.mem_append_left _ (List.mem_of_getElem? (i := 189) rfl))))), by decide, by decide⟩
theorem zw179 : Cond.code zm179.1 zm179.2.1 zm179.2.2.1 zm179.2.2.2.1 ∈ tables_1 ∧ zm179.1.cls ≠ "NineDownLaw" ∧ plainName zm179.1.cls = true := ⟨List.mem_append_right _ (List.mem_append_right _ (List.mem_append_right _ (List.mem_append_right _ (List.mem_append_left _ (List.mem_of_getElem? (i := 128) rfl))))), by decide, by decide⟩
theorem zw180 : Cond.code zm180.1 zm180.2.1 zm180.2.2.1 zm180.2.2.2.1 ∈ tables_1 ∧ zm180.1.cls ≠ "NineDownLaw" ∧ plainName zm180.1.cls = true := ⟨List.mem_append_right _ (List.mem_append_right _ (List.mem_append_right _ (List.mem_append_right _ (List.mem_append_left _ (List.mem_of_getElem? (i := 132) rfl))))), by decide, by decide⟩
theorem zw181 : Cond.code zm181.1 zm181.2.1 zm181.2.2.1 zm181.2.2.2.1 ∈ tables_1 ∧ zm181.1.cls ≠ "NineDownLaw" ∧ plainName zm181.1.cls = true := ⟨List.mem_append_right _ (List.mem_append_right _ (List.mem_append_right _ (List.mem_append_right _ (List.mem_append_left _ (List.mem_of_getElem? (i := 143) rfl))))), by decide, by decide⟩
theorem zw182 : Cond.code zm182.1 zm182.2.1 zm182.2.2.1 zm182.2.2.2.1 ∈ tables_1 ∧ zm182.1.cls ≠ "NineDownLaw" ∧ plainName zm182.1.cls = true := ⟨List.mem_append_right _ (List.mem_append_right _ (List.mem_append_right _ (List.mem_append_right _ (List.mem_append_right _ (List.mem_of_getElem? (i := 10) rfl))))), by decide, by decide⟩
theorem zw183 : Cond.code zm183.1 zm183.2.1 zm183.2.2.1 zm183.2.2.2.1 ∈ tables_1 ∧ zm183.1.cls ≠ "NineDownLaw" ∧ plainName zm183.1.cls = true := ⟨List.mem_append_right _ (List.mem_append_right _ (List.mem_append_right _ (List.mem_append_right _ (List.mem_append_left _ (List.mem_of_getElem? (i := 147) rfl))))), by decide, by decide⟩
theorem zw184 : Cond.code zm184.1 zm184.2.1 zm184.2.2.1 zm184.2.2.2.1 ∈ tables_1 ∧ zm184.1.cls ≠ "NineDownLaw" ∧ plainName zm184.1.cls = true := ⟨List.mem_append_right _ (List.mem_append_right _ (List.mem_append_right _ (List.mem_append_right _ (List.mem_append_left _ (List.mem_of_getElem? (i := 140) rfl))))), by decide, by decide⟩
theorem zw185 : Cond.code zm185.1 zm185.2.1 zm185.2.2.1 zm185.2.2.2.1 ∈ tables_1 ∧ zm185.1.cls ≠ "NineDownLaw" ∧ plainName zm185.1.cls = true := ⟨List.mem_append_right _ (List.mem_append_right _ (List.mem_append_right _ (List.mem_append_right _ (List.mem_append_left _ (List.mem_of_getElem? (i := 155) rfl))))), by decide, by decide⟩
theorem zw186 : Cond.code zm186.1 zm186.2.1 zm186.2.2.1 zm186.2.2.2.1 ∈ tables_1 ∧ zm186.1.cls ≠ "NineDownLaw" ∧ plainName zm186.1.cls = true := ⟨List.mem_append_right _ (List.mem_append_right _ (List.mem_append_right _ (List.mem_append_right _ (List.mem_append_left _ (List.mem_of_getElem? (i := 136) rfl))))), by decide, by decide⟩
theorem zw187 : Cond.code zm187.1 zm187.2.1 zm187.2.2.1 zm187.2.2.2.1 ∈ tables_1 ∧ zm187.1.cls ≠ "NineDownLaw" ∧ plainName zm187.1.cls = true := ⟨List.mem_append_right _ (List.mem_append_right _ (List.mem_append_right _ (List.mem_append_right _ (List.mem_append_left _ (List.mem_of_getElem? (i := 164) rfl))))), by decide, by decide⟩
theorem zw188 : Cond.code zm188.1 zm188.2.1 zm188.2.2.1 zm188.2.2.2.1 ∈ tables_1 ∧ zm188.1.cls ≠ "NineDownLaw" ∧ plainName zm188.1.cls = true := ⟨List.mem_append_right _ (List.mem_append_right _ (List.mem_append_right _ (List.mem_append_right _ (List.mem_append_left _ (List.mem_of_getElem? (i := 168) rfl))))), by decide, by decide⟩
theorem zw189 : Cond.code zm189.1 zm189.2.1 zm189.2.2.1 zm189.2.2.2.1 ∈ tables_1 ∧ zm189.1.cls ≠ "NineDownLaw" ∧ plainName zm189.1.cls = true := ⟨List.mem_append_right _ (List.mem_append_right _ (List.mem_append_right _ (List.mem_append_right _ (List.mem_append_left _ (List.mem_of_getElem? (i := 160) rfl))))), by decide, by decide⟩
theorem zw190 : Cond.code zm190.1 zm190.2.1 zm190.2.2.1 zm190.2.2.2.1 ∈ tables_1 ∧ zm190.1.cls ≠ "NineDownLaw" ∧ plainName zm190.1.cls = true := ⟨List.mem_append_right _ (List.mem_append_right _ (List.mem_append_right _ (List.mem_append_right _ (List.mem_append_left _ (List.mem_of_getElem? (i := 116) rfl))))), by decide, by decide⟩
theorem zw191 : Cond.code zm191.1 zm191.2.1 zm191.2.2.1 zm191.2.2.2.1 ∈ tables_1 ∧ zm191.1.cls ≠ "NineDownLaw" ∧ plainName zm191.1.cls = true := ⟨List.mem_append_right _ (List.mem_append_right _ (List.mem_append_right _ (List.mem_append_right _ (List.mem_append_left _ (List.mem_of_getElem? (i := 172) rfl))))), by decide, by decide⟩
theorem zw192 : Cond.code zm192.1 zm192.2.1 zm192.2.2.1 zm192.2.2.2.1 ∈ tables_1 ∧ zm192.1.cls ≠ "NineDownLaw" ∧ plainName zm192.1.cls = true := ⟨List.mem_append_right _ (List.mem_append_right _ (List.mem_append_right _ (List.mem_append_right _ (List.mem_append_left _ (List.mem_of_getElem? (i := 180) rfl))))), by decide, by decide⟩
theorem zw193 : Cond.code zm193.1 zm193.2.1 zm193.2.2.1 zm193.2.2.2.1 ∈ tables_1 ∧ zm193.1.cls ≠ "NineDownLaw" ∧ plainName zm193.1.cls = true := ⟨List.mem_append_right _ (List.mem_append_right _ (List.mem_append_right _ (List.mem_append_right _ (List.mem_append_left _ (List.mem_of_getElem? (i := 184) rfl))))), by decide, by decide⟩
theorem zw194 : Cond.code zm194.1 zm194.2.1 zm194.2.2.1 zm194.2.2.2.1 ∈ tables_1 ∧ zm194.1.cls ≠ "NineDownLaw" ∧ plainName zm194.1.cls = true := ⟨List.mem_append_right _ (List.mem_append_right _ (List.mem_append_right _ (List.mem_append_right _ (List.mem_append_left _ (List.mem_of_getElem? (i := 193) rfl))))), by decide, by decide⟩
theorem zw195 : Cond.code zm195.1 zm195.2.1 zm195.2.2.1 zm195.2.2.2.1 ∈ tables_1 ∧ zm195.1.cls ≠ "NineDownLaw" ∧ plainName zm195.1.cls = true := ⟨List.mem_append_right _ (List.mem_append_right _ (List.mem_append_right _ (List.mem_append_right _ (List.mem_append_left _ (List.mem_of_getElem? (i := 197) rfl))))), by decide, by decide⟩
theorem zw196 : Cond.code zm196.1 zm196.2.1 zm196.2.2.1 zm196.2.2.2.1 ∈ tables_1 ∧ zm196.1.cls ≠ "NineDownLaw" ∧ plainName zm196.1.cls = true := ⟨List.mem_append_right _ (List.mem_append_right _ (List.mem_append_right _ (List.mem_append_right _ (List.mem_append_left _ (List.mem_of_getElem? (i := 201) rfl))))), by decide, by decide⟩
theorem zw197 : Cond.code zm197.1 zm197.2.1 zm197.2.2.1 zm197.2.2.2.1 ∈ tables_1 ∧ zm197.1.cls ≠ "NineDownLaw" ∧ plainName zm197.1.cls = true := ⟨List.mem_append_right _ (List.mem_append_right _ (List.mem_append_right _ (List.mem_append_right _ (List.mem_append_left _ (List.mem_of_getElem? (i := 206) rfl))))), by decide, by decide⟩
theorem zw198 : Cond.code zm198.1 zm198.2.1 zm198.2.2.1 zm198.2.2.2.1 ∈ tables_1 ∧ zm198.1.cls ≠ "NineDownLaw" ∧ plainName zm198.1.cls = true := ⟨List.mem_append_right _ (List.mem_append_right _ (List.mem_append_right _ (List.mem_append_right _ (List.mem_append_left _ (List.mem_of_getElem? (i := 218) rfl))))), by decide, by decide⟩
theorem zw199 : Cond.code zm199.1 zm199.2.1 zm199.2.2.1 zm199.2.2.2.1 ∈ tables_1 ∧ zm199.1.cls ≠ "NineDownLaw" ∧ plainName zm199.1.cls = true := ⟨List.mem_append_right _ (List.mem_append_right _ (List.mem_append_right _ (List.mem_append_right _ (List.mem_append_left _ (List.mem_of_getElem? (i := 210) rfl))))), by decide, by decide⟩
theorem zw200 : Cond.code zm200.1 zm200.2.1 zm200.2.2.1 zm200.2.2.2.1 ∈ tables_1 ∧ zm200.1.cls ≠ "NineDownLaw" ∧ plainName zm200.1.cls = true := ⟨List.mem_append_right _ (List.mem_append_right _ (List.mem_append_right _ (List.mem_append_right _ (List.mem_append_left _ (List.mem_of_getElem? (i := 230) rfl))))), by decide, by decide⟩
theorem zw201 : Cond.code zm201.1 zm201.2.1 zm201.2.2.1 zm201.2.2.2.1 ∈ tables_1 ∧ zm201.1.cls ≠ "NineDownLaw" ∧ plainName zm201.1.cls = true := ⟨List.mem_append_right _ (List.mem_append_right _ (List.mem_append_right _ (List.mem_append_right _ (List.mem_append_left _ (List.mem_of_getElem? (i := 222) rfl))))), by decide, by decide⟩
theorem zw202 : Cond.code zm202.1 zm202.2.1 zm202.2.2.1 zm202.2.2.2.1 ∈ tables_1 ∧ zm202.1.cls ≠ "NineDownLaw" ∧ plainName zm202.1.cls = true := ⟨List.mem_append_right _ (List.mem_append_right _ (List.mem_append_right _ (List.mem_append_right _ (List.mem_append_left _ (List.mem_of_getElem? (i := 235) rfl))))), by decide, by decide⟩
theorem zw203 : Cond.code zm203.1 zm203.2.1 zm203.2.2.1 zm203.2.2.2.1 ∈ tables_1 ∧ zm203.1.cls ≠ "NineDownLaw" ∧ plainName zm203.1.cls = true := ⟨List.mem_append_right _ (List.mem_append_right _ (List.mem_append_right _ (List.mem_append_right _ (List.mem_append_right _ (List.mem_of_getElem? (i := 3) rfl))))), by decide, by decide⟩
theorem zw204 : Cond.code zm204.1 zm204.2.1 zm204.2.2.1 zm204.2.2.2.1 ∈ tables_1 ∧ zm204.1.cls ≠ "NineDownLaw" ∧ plainName zm204.1.cls = true := ⟨List.mem_append_right _ (List.mem_append_right _ (List.mem_append_right _ (List.mem_append_right _ (List.mem_append_left _ (List.mem_of_getElem? (i := 239) rfl))))), by decide, by decide⟩
theorem zw205 : Cond.code zm205.1 zm205.2.1 zm205.2.2.1 zm205.2.2.2.1 ∈ tables_1 ∧ zm205.1.cls ≠ "NineDownLaw" ∧ plainName zm205.1.cls = true := ⟨List.mem_append_right _ (List.mem_append_right _ (List.mem_append_right _ (List.mem_append_right _ (List.mem_append_right _ (List.mem_of_getElem? (i := 7) rfl))))), by decide, by decide⟩
theorem zw206 : Cond.code zm206.1 zm206.2.1 zm206.2.2.1 zm206.2.2.2.1 ∈ tables_1 ∧ zm206.1.cls ≠ "NineDownLaw" ∧ plainName zm206.1.cls = true := ⟨List.mem_append_right _ (List.mem_append_right _ (List.mem_append_right _ (List.mem_append_right _ (List.mem_append_right _ (List.mem_of_getElem? (i := 14) rfl))))), by decide, by decide⟩
theorem zw207 : Cond.code zm207.1 zm207.2.1 zm207.2.2.1 zm207.2.2.2.1 ∈ tables_1 ∧ zm207.1.cls ≠ "NineDownLaw" ∧ plainName zm207.1.cls = true := ⟨List.mem_append_right _ (List.mem_append_right _ (List.mem_append_right _ (List.mem_append_right _ (List.mem_append_right _ (List.mem_of_getElem? (i := 22) rfl))))), by decide, by decide⟩
theorem zw208 : Cond.code zm208.1 zm208.2.1 zm208.2.2.1 zm208.2.2.2.1 ∈ tables_1 ∧ zm208.1.cls ≠ "NineDownLaw" ∧ plainName zm208.1.cls = true := ⟨List.mem_append_right _ (List.mem_append_right _ (List.mem_append_right _ (List.mem_append_right _ (List.mem_append_right _ (List.mem_of_getElem? (i := 18) rfl))))), by decide, by decide⟩
theorem zw209 : Cond.code zm209.1 zm209.2.1 zm209.2.2.1 zm209.2.2.2.1 ∈ tables_1 ∧ zm209.1.cls ≠ "NineDownLaw" ∧ plainName zm209.1.cls = true := ⟨List.mem_append_right _ (List.mem_append_right _ (List.mem_append_right _ (List.mem_append_right _ (List.mem_append_right _ (List.mem_of_getElem? (i := 26) rfl))))), by decide, by decide⟩
theorem zw210 : Cond.code zm210.1 zm210.2.1 zm210.2.2.1 zm210.2.2.2.1 ∈ tables_1 ∧ zm210.1.cls ≠ "NineDownLaw" ∧ plainName zm210.1.cls = true := ⟨List.mem_append_right _ (List.mem_append_right _ (List.mem_append_right _ (List.mem_append_right _ (List.mem_append_right _ (List.mem_of_getElem? (i := 35) rfl))))), by decide, by decide⟩
theorem zw211 : Cond.code zm211.1 zm211.2.1 zm211.2.2.1 zm211.2.2.2.1 ∈ tables_1 ∧ zm211.1.cls ≠ "NineDownLaw" ∧ plainName zm211.1.cls = true := ⟨List.mem_append_right _ (List.mem_append_right _ (List.mem_append_right _ (List.mem_append_right _ (List.mem_append_right _ (List.mem_of_getElem? (i := 30) rfl))))), by decide, by decide⟩
theorem zw212 : Cond.code zm212.1 zm212.2.1 zm212.2.2.1 zm212.2.2.2.1 ∈ tables_1 ∧ zm212.1.cls ≠ "NineDownLaw" ∧ plainName zm212.1.cls = true := ⟨List.mem_append_right _ (List.mem_append_right _ (List.mem_append_right _ (List.mem_append_right _ (List.mem_append_right _ (List.mem_of_getElem? (i := 39) rfl))))), by decide, by decide⟩
theorem zw213 : Cond.code zm213.1 zm213.2.1 zm213.2.2.1 zm213.2.2.2.1 ∈ tables_1 ∧ zm213.1.cls ≠ "NineDownLaw" ∧ plainName zm213.1.cls = true := ⟨List.mem_append_right _ (List.mem_append_right _ (List.mem_append_right _ (List.mem_append_right _ (List.mem_append_right _ (List.mem_of_getElem? (i := 44) rfl))))), by decide, by decide⟩
theorem zw214 : Cond.code zm214.1 zm214.2.1 zm214.2.2.1 zm214.2.2.2.1 ∈ tables_1 ∧ zm214.1.cls ≠ "NineDownLaw" ∧ plainName zm214.1.cls = true := ⟨List.mem_append_right _ (List.mem_append_right _ (List.mem_append_right _ (List.mem_append_right _ (List.mem_append_right _ (List.mem_of_getElem? (i := 48) rfl))))), by decide, by decide⟩
theorem zw215 : Cond.code zm215.1 zm215.2.1 zm215.2.2.1 zm215.2.2.2.1 ∈ tables_1 ∧ zm215.1.cls ≠ "NineDownLaw" ∧ plainName zm215.1.cls = true := ⟨List.mem_append_right _ (List.mem_append_right _ (List.mem_append_right _ (List.mem_append_right _ (List.mem_append_right _ (List.mem_of_getElem? (i := 55) rfl))))), by decide, by decide⟩
theorem zw216 : Cond.code zm216.1 zm216.2.1 zm216.2.2.1 zm216.2.2.2.1 ∈ tables_1 ∧ zm216.1.cls ≠ "NineDownLaw" ∧ plainName zm216.1.cls = true := ⟨List.mem_append_right _ (List.mem_append_right _ (List.mem_append_right _ (List.mem_append_right _ (List.mem_append_right _ (List.mem_of_getElem? (i := 63) rfl))))), by decide, by decide⟩
theorem zw217 : Cond.code zm217.1 zm217.2.1 zm217.2.2.1 zm217.2.2.2.1 ∈ tables_1 ∧ zm217.1.cls ≠ "NineDownLaw" ∧ plainName zm217.1.cls = true := ⟨List.mem_append_right _ (List.mem_append_right _ (List.mem_append_right _ (List.mem_append_right _ (List.mem_append_right _ (List.mem_of_getElem? (i := 67) rfl))))), by decide, by decide⟩
theorem zw218 : Cond.code zm218.1 zm218.2.1 zm218.2.2.1 zm218.2.2.2.1 ∈ tables_1 ∧ zm218.1.cls ≠ "NineDownLaw" ∧ plainName zm218.1.cls = true := ⟨List.mem_append_right _ (List.mem_append_right _ (List.mem_append_right _ (List.mem_append_right _ (List.mem_append_right _ (List.mem_of_getElem? (i := 79) rfl))))), by decide, by decide⟩
theorem zw219 : Cond.code zm219.1 zm219.2.1 zm219.2.2.1 zm219.2.2.2.1 ∈ tables_1 ∧ zm219.1.cls ≠ "NineDownLaw" ∧ plainName zm219.1.cls = true := ⟨List.mem_append_right _ (List.mem_append_right _ (List.mem_append_right _ (List.mem_append_right _ (List.mem_append_right _ (List.mem_of_getElem? (i := 71) rfl))))), by decide, by decide⟩
theorem zw220 : Cond.code zm220.1 zm220.2.1 zm220.2.2.1 zm220.2.2.2.1 ∈ tables_1 ∧ zm220.1.cls ≠ "NineDownLaw" ∧ plainName zm220.1.cls = true := ⟨List.mem_append_right _ (List.mem_append_right _ (List.mem_append_right _ (List.mem_append_right _ (List.mem_append_right _ (List.mem_of_getElem? (i := 75) rfl))))), by decide, by decide⟩
theorem zw221 : Cond.code zm221.1 zm221.2.1 zm221.2.2.1 zm221.2.2.2.1 ∈ tables_1 ∧ zm221.1.cls ≠ "NineDownLaw" ∧ plainName zm221.1.cls = true := ⟨List.mem_append_right _ (List.mem_append_right _ (List.mem_append_right _ (List.mem_append_right _ (List.mem_append_right _ (List.mem_of_getElem? (i := 95) rfl))))), by decide, by decide⟩
theorem zw222 : Cond.code zm222.1 zm222.2.1 zm222.2.2.1 zm222.2.2.2.1 ∈ tables_1 ∧ zm222.1.cls ≠ "NineDownLaw" ∧ plainName zm222.1.cls = true := ⟨List.mem_append_right _ (List.mem_append_right _ (List.mem_append_right _ (List.mem_append_right _ (List.mem_append_right _ (List.mem_of_getElem? (i := 99) rfl))))), by decide, by decide⟩
theorem zw223 : Cond.code zm223.1 zm223.2.1 zm223.2.2.1 zm223.2.2.2.1 ∈ tables_1 ∧ zm223.1.cls ≠ "NineDownLaw" ∧ plainName zm223.1.cls = true := ⟨List.mem_append_right _ (List.mem_append_right _ (List.mem_append_right _ (List.mem_append_right _ (List.mem_append_right _ (List.mem_of_getElem? (i := 91) rfl))))), by decide, by decide⟩
theorem zw224 : Cond.code zm224.1 zm224.2.1 zm224.2.2.1 zm224.2.2.2.1 ∈ tables_1 ∧ zm224.1.cls ≠ "NineDownLaw" ∧ plainName zm224.1.cls = true := ⟨List.mem_append_right _ (List.mem_append_right _ (List.mem_append_right _ (List.mem_append_right _ (List.mem_append_right _ (List.mem_of_getElem? (i := 103) rfl))))), by decide, by decide⟩
theorem zw225 : Cond.code zm225.1 zm225.2.1 zm225.2.2.1 zm225.2.2.2.1 ∈ tables_1 ∧ zm225.1.cls ≠ "NineDownLaw" ∧ plainName zm225.1.cls = true := ⟨List.mem_append_right _ (List.mem_append_right _ (List.mem_append_right _ (List.mem_append_right _ (List.mem_append_right _ (List.mem_of_getElem? (i := 87) rfl))))), by decide, by decide⟩
theorem zw226 : Cond.code zm226.1 zm226.2.1 zm226.2.2.1 zm226.2.2.2.1 ∈ tables_1 ∧ zm226.1.cls ≠ "NineDownLaw" ∧ plainName zm226.1.cls = true := ⟨List.mem_append_right _ (List.mem_append_right _ (List.mem_append_right _ (List.mem_append_right _ (List.mem_append_right _ (List.mem_of_getElem? (i := 83) rfl))))), by decide, by decide⟩
theorem zw227 : Cond.code zm227.1 zm227.2.1 zm227.2.2.1 zm227.2.2.2.1 ∈ tables_1 ∧ zm227.1.cls ≠ "NineDownLaw" ∧ plainName zm227.1.cls = true := ⟨List.mem_append_right _ (List.mem_append_right _ (List.mem_append_right _ (List.mem_append_right _ (List.mem_append_right _ (List.mem_of_getElem? (i := 107) rfl))))), by decide, by decide⟩
theorem zw228 : Cond.code zm228.1 zm228.2.1 zm228.2.2.1 zm228.2.2.2.1 ∈ tables_1 ∧ zm228.1.cls ≠ "NineDownLaw" ∧ plainName zm228.1.cls = true := ⟨List.mem_append_right _ (List.mem_append_right _ (List.mem_append_right _ (List.mem_append_right _ (List.mem_append_right _ (List.mem_of_getElem? (i := 111) rfl))))), by decide, by decide⟩
theorem zw229 : Cond.code zm229.1 zm229.2.1 zm229.2.2.1 zm229.2.2.2.1 ∈ tables_1 ∧ zm229.1.cls ≠ "NineDownLaw" ∧ plainName zm229.1.cls = true := ⟨List.mem_append_right _ (List.mem_append_right _ (List.mem_append_right _ (List.mem_append_right _ (List.mem_append_right _ (List.mem_of_getElem? (i := 115) rfl))))), by decide, by decide⟩
theorem zw230 : Cond.code zm230.1 zm230.2.1 zm230.2.2.1 zm230.2.2.2.1 ∈ tables_1 ∧ zm230.1.cls ≠ "NineDownLaw" ∧ plainName zm230.1.cls = true := ⟨List.mem_append_right _ (List.mem_append_right _ (List.mem_append_left _ (List.mem_of_getElem? (i := 32) rfl))), by decide, by decide⟩
theorem zcw_at : ∀ M, 0 < M → M < 231 → Cond.code (zmi M).1 (zmi M).2.1 (zmi M).2.2.1 (zmi M).2.2.2.1 ∈ tables_1 ∧ (zmi M).1.cls ≠ "NineDownLaw" ∧ plainName (zmi M).1.cls = true := by
  intro M h0 hM
  match M, h0, hM with
  | 1, _, _ => exact zw1
  | 2, _, _ => exact zw2
  | 3, _, _ => exact zw3
  | 4, _, _ => exact zw4
  | 5, _, _ => exact zw5
  | 6, _, _ => exact zw6
  | 7, _, _ => exact zw7
  | 8, _, _ => exact zw8
  | 9, _, _ => exact zw9
  | 10, _, _ => exact zw10
  | 11, _, _ => exact zw11
  | 12, _, _ => exact zw12
  | 13, _, _ => exact zw13
  | 14, _, _ => exact zw14
  | 15, _, _ => exact zw15
  | 16, _, _ => exact zw16
  | 17, _, _ => exact zw17
  | 18, _, _ => exact zw18
  | 19, _, _ => exact zw19
  | 20, _, _ => exact zw20
  | 21, _, _ => exact zw21
  | 22, _, _ => exact zw22
  | 23, _, _ => exact zw23
  | 24, _, _ => exact zw24
  | 25, _, _ => exact zw25
  | 26, _, _ => exact zw26
  | 27, _, _ => exact zw27
  | 28, _, _ => exact zw28
  | 29, _, _ => exact zw29
  | 30, _, _ => exact zw30
  | 31, _, _ => exact zw31
  | 32, _, _ => exact zw32
  | 33, _, _ => exact zw33
  | 34, _, _ => exact zw34
  | 35, _, _ => exact zw35
  | 36, _, _ => exact zw36
  | 37, _, _ => exact zw37
  | 38, _, _ => exact zw38
  | 39, _, _ => exact zw39
  | 40, _, _ => exact zw40
  | 41, _, _ => exact zw41
  | 42, _, _ => exact zw42
  | 43, _, _ => exact zw43
  | 44, _, _ => exact zw44
  | 45, _, _ => exact zw45
  | 46, _, _ => exact zw46
  | 47, _, _ => exact zw47
  | 48, _, _ => exact zw48
  | 49, _, _ => exact zw49
  | 50, _, _ => exact zw50
  | 51, _, _ => exact zw51
  | 52, _, _ => exact zw52
  | 53, _, _ => exact zw53
  | 54, _, _ => exact zw54
  | 55, _, _ => exact zw55
  | 56, _, _ => exact zw56
  | 57, _, _ => exact zw57
  | 58, _, _ => exact zw58
  | 59, _, _ => exact zw59
  | 60, _, _ => exact zw60
  | 61, _, _ => exact zw61
  | 62, _, _ => exact zw62
  | 63, _, _ => exact zw63
  | 64, _, _ => exact zw64
  | 65, _, _ => exact zw65
  | 66, _, _ => exact zw66
  | 67, _, _ => exact zw67
  | 68, _, _ => exact zw68
  | 69, _, _ => exact zw69
  | 70, _, _ => exact zw70
  | 71, _, _ => exact zw71
  | 72, _, _ => exact zw72
  | 73, _, _ => exact zw73
  | 74, _, _ => exact zw74
  | 75, _, _ => exact zw75
  | 76, _, _ => exact zw76
  | 77, _, _ => exact zw77
  | 78, _, _ => exact zw78
  | 79, _, _ => exact zw79
  | 80, _, _ => exact zw80
  | 81, _, _ => exact zw81
  | 82, _, _ => exact zw82
  | 83, _, _ => exact zw83
  | 84, _, _ => exact zw84
  | 85, _, _ => exact zw85
  | 86, _, _ => exact zw86
  | 87, _, _ => exact zw87
  | 88, _, _ => exact zw88
  | 89, _, _ => exact zw89
  | 90, _, _ => exact zw90
  | 91, _, _ => exact zw91
  | 92, _, _ => exact zw92
  | 93, _, _ => exact zw93
  | 94, _, _ => exact zw94
  | 95, _, _ => exact zw95
  | 96, _, _ => exact zw96
  | 97, _, _ => exact zw97
  | 98, _, _ => exact zw98
  | 99, _, _ => exact zw99
  | 100, _, _ => exact zw100
  | 101, _, _ => exact zw101
  | 102, _, _ => exact zw102
  | 103, _, _ => exact zw103
  | 104, _, _ => exact zw104
  | 105, _, _ => exact zw105
  | 106, _, _ => exact zw106
  | 107, _, _ => exact zw107
  | 108, _, _ => exact zw108
  | 109, _, _ => exact zw109
  | 110, _, _ => exact zw110
  | 111, _, _ => exact zw111
  | 112, _, _ => exact zw112
  | 113, _, _ => exact zw113
  | 114, _, _ => exact zw114
  | 115, _, _ => exact zw115
  | 116, _, _ => exact zw116
  | 117, _, _ => exact zw117
  | 118, _, _ => exact zw118
  | 119, _, _ => exact zw119
  | 120, _, _ => exact zw120
  | 121, _, _ => exact zw121
  | 122, _, _ => exact zw122
  | 123, _, _ => exact zw123
  | 124, _, _ => exact zw124
  | 125, _, _ => exact zw125
  | 126, _, _ => exact zw126
  | 127, _, _ => exact zw127
  | 128, _, _ => exact zw128
  | 129, _, _ => exact zw129
  | 130, _, _ => exact zw130
  | 131, _, _ => exact zw131
  | 132, _, _ => exact zw132
  | 133, _, _ => exact zw133
  | 134, _, _ => exact zw134
  | 135, _, _ => exact zw135
  | 136, _, _ => exact zw136
  | 137, _, _ => exact zw137
  | 138, _, _ => exact zw138
  | 139, _, _ => exact zw139
  | 140, _, _ => exact zw140
  | 141, _, _ => exact zw141
  | 142, _, _ => exact zw142
  | 143, _, _ => exact zw143
  | 144, _, _ => exact zw144
  | 145, _, _ => exact zw145
  | 146, _, _ => exact zw146
  | 147, _, _ => exact zw147
  | 148, _, _ => exact zw148
  | 149, _, _ => exact zw149
  | 150, _, _ => exact zw150
  | 151, _, _ => exact zw151
  | 152, _, _ => exact zw152
  | 153, _, _ => exact zw153
  | 154, _, _ => exact zw154
  | 155, _, _ => exact zw155
  | 156, _, _ => exact zw156
  | 157, _, _ => exact zw157
  | 158, _, _ => exact zw158
  | 159, _, _ => exact zw159
  | 160, _, _ => exact zw160
  | 161, _, _ => exact zw161
  | 162, _, _ => exact zw162
  | 163, _, _ => exact zw163
  | 164, _, _ => exact zw164
  | 165, _, _ => exact zw165
  | 166, _, _ => exact zw166
  | 167, _, _ => exact zw167
  | 168, _, _ => exact zw168
  | 169, _, _ => exact zw169
  | 170, _, _ => exact zw170
  | 171, _, _ => exact zw171
  | 172, _, _ => exact zw172
  | 173, _, _ => exact zw173
  | 174, _, _ => exact zw174
  | 175, _, _ => exact zw175
  | 176, _, _ => exact zw176
  | 177, _, _ => exact zw177
  | 178, _, _ => exact zw178
  | 179, _, _ => exact zw179
  | 180, _, _ => exact zw180
  | 181, _, _ => exact zw181
  | 182, _, _ => exact zw182
  | 183, _, _ => exact zw183
  | 184, _, _ => exact zw184
  | 185, _, _ => exact zw185
  | 186, _, _ => exact zw186
  | 187, _, _ => exact zw187
  | 188, _, _ => exact zw188
  | 189, _, _ => exact zw189
  | 190, _, _ => exact zw190
  | 191, _, _ => exact zw191
  | 192, _, _ => exact zw192
  | 193, _, _ => exact zw193
  | 194, _, _ => exact zw194
  | 195, _, _ => exact zw195
  | 196, _, _ => exact zw196
  | 197, _, _ => exact zw197
  | 198, _, _ => exact zw198
  | 199, _, _ => exact zw199
  | 200, _, _ => exact zw200
  | 201, _, _ => exact zw201
  | 202, _, _ => exact zw202
  | 203, _, _ => exact zw203
  | 204, _, _ => exact zw204
  | 205, _, _ => exact zw205
  | 206, _, _ => exact zw206
  | 207, _, _ => exact zw207
  | 208, _, _ => exact zw208
  | 209, _, _ => exact zw209
  | 210, _, _ => exact zw210
  | 211, _, _ => exact zw211
  | 212, _, _ => exact zw212
  | 213, _, _ => exact zw213
  | 214, _, _ => exact zw214
  | 215, _, _ => exact zw215
  | 216, _, _ => exact zw216
  | 217, _, _ => exact zw217
  | 218, _, _ => exact zw218
  | 219, _, _ => exact zw219
  | 220, _, _ => exact zw220
  | 221, _, _ => exact zw221
  | 222, _, _ => exact zw222
  | 223, _, _ => exact zw223
  | 224, _, _ => exact zw224
  | 225, _, _ => exact zw225
  | 226, _, _ => exact zw226
  | 227, _, _ => exact zw227
  | 228, _, _ => exact zw228
  | 229, _, _ => exact zw229
  | 230, _, _ => exact zw230
  | n + 231, _, h => exact absurd h (by omega)
theorem zmx_ok : Cond.code Lib.Math.max.name Lib.Math.max.code 2 (some .int) ∈ tables_1 := List.mem_append_right _ (List.mem_append_right _ (List.mem_append_right _ (List.mem_append_left _ (List.mem_of_getElem? (i := 7) rfl))))
theorem zmn_ok : Cond.code Lib.Math.min.name Lib.Math.min.code 2 (some .int) ∈ tables_1 := List.mem_append_right _ (List.mem_append_left _ (List.mem_of_getElem? (i := 157) rfl))
theorem zob_ok : Cond.code objectInit ⟨#[0xb1]⟩ 1 none ∈ tables_1 := List.mem_append_left _ (List.mem_of_getElem? (i := 24) rfl)
/-- every run of the small machine is the machine's -/
theorem zsound_all (E : zE) (M : Nat) (h0 : zH) (st : zS) (r : zR) (hM : M < 233) (h : zrun zpp E M st = some r) : zEv E (zmi M) h0 st r := by
  obtain ⟨n, hn⟩ := zrun_iff.mp h
  exact zsound zc_all (fun M h1 h2 => List.mem_filter.mpr ⟨List.mem_append_right _ (zcw_at M h1 h2).1, rfl⟩) (fun M h1 h2 => (zcw_at M h1 h2).2) (List.mem_filter.mpr ⟨List.mem_append_right _ zob_ok, rfl⟩) (List.mem_filter.mpr ⟨List.mem_append_right _ zmx_ok, rfl⟩) (List.mem_filter.mpr ⟨List.mem_append_right _ zmn_ok, rfl⟩) n M h0 st r hM hn
