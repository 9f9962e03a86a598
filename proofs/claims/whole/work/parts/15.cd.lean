/-! THE PROGRAM IS CHECKED, d -/
set_option maxRecDepth 100000 in
theorem zc150_0 : zchkL zm150 0 zk150_0 = true := by decide +kernel
set_option maxRecDepth 100000 in
theorem zc151_0 : zchkL zm151 0 zk151_0 = true := by decide +kernel
set_option maxRecDepth 100000 in
theorem zc152_0 : zchkL zm152 0 zk152_0 = true := by decide +kernel
set_option maxRecDepth 100000 in
theorem zc152_1 : zchkL zm152 60 zk152_1 = true := by decide +kernel
set_option maxRecDepth 100000 in
theorem zc153_0 : zchkL zm153 0 zk153_0 = true := by decide +kernel
set_option maxRecDepth 100000 in
theorem zc153_1 : zchkL zm153 60 zk153_1 = true := by decide +kernel
set_option maxRecDepth 100000 in
theorem zc154_0 : zchkL zm154 0 zk154_0 = true := by decide +kernel
set_option maxRecDepth 100000 in
theorem zc154_1 : zchkL zm154 60 zk154_1 = true := by decide +kernel
set_option maxRecDepth 100000 in
theorem zc154_2 : zchkL zm154 120 zk154_2 = true := by decide +kernel
set_option maxRecDepth 100000 in
theorem zc154_3 : zchkL zm154 180 zk154_3 = true := by decide +kernel
set_option maxRecDepth 100000 in
theorem zc155_0 : zchkL zm155 0 zk155_0 = true := by decide +kernel
set_option maxRecDepth 100000 in
theorem zc156_0 : zchkL zm156 0 zk156_0 = true := by decide +kernel
set_option maxRecDepth 100000 in
theorem zc157_0 : zchkL zm157 0 zk157_0 = true := by decide +kernel
set_option maxRecDepth 100000 in
theorem zc158_0 : zchkL zm158 0 zk158_0 = true := by decide +kernel
set_option maxRecDepth 100000 in
theorem zc158_1 : zchkL zm158 60 zk158_1 = true := by decide +kernel
set_option maxRecDepth 100000 in
theorem zc158_2 : zchkL zm158 120 zk158_2 = true := by decide +kernel
set_option maxRecDepth 100000 in
theorem zc158_3 : zchkL zm158 180 zk158_3 = true := by decide +kernel
set_option maxRecDepth 100000 in
theorem zc158_4 : zchkL zm158 240 zk158_4 = true := by decide +kernel
set_option maxRecDepth 100000 in
theorem zc159_0 : zchkL zm159 0 zk159_0 = true := by decide +kernel
set_option maxRecDepth 100000 in
theorem zc160_0 : zchkL zm160 0 zk160_0 = true := by decide +kernel
set_option maxRecDepth 100000 in
theorem zc161_0 : zchkL zm161 0 zk161_0 = true := by decide +kernel
set_option maxRecDepth 100000 in
theorem zc161_1 : zchkL zm161 60 zk161_1 = true := by decide +kernel
set_option maxRecDepth 100000 in
theorem zc162_0 : zchkL zm162 0 zk162_0 = true := by decide +kernel
set_option maxRecDepth 100000 in
theorem zc163_0 : zchkL zm163 0 zk163_0 = true := by decide +kernel
set_option maxRecDepth 100000 in
theorem zc164_0 : zchkL zm164 0 zk164_0 = true := by decide +kernel
set_option maxRecDepth 100000 in
theorem zc165_0 : zchkL zm165 0 zk165_0 = true := by decide +kernel
set_option maxRecDepth 100000 in
theorem zc166_0 : zchkL zm166 0 zk166_0 = true := by decide +kernel
set_option maxRecDepth 100000 in
theorem zc167_0 : zchkL zm167 0 zk167_0 = true := by decide +kernel
set_option maxRecDepth 100000 in
theorem zc167_1 : zchkL zm167 60 zk167_1 = true := by decide +kernel
set_option maxRecDepth 100000 in
theorem zc168_0 : zchkL zm168 0 zk168_0 = true := by decide +kernel
set_option maxRecDepth 100000 in
theorem zc168_1 : zchkL zm168 60 zk168_1 = true := by decide +kernel
set_option maxRecDepth 100000 in
theorem zc169_0 : zchkL zm169 0 zk169_0 = true := by decide +kernel
set_option maxRecDepth 100000 in
theorem zc169_1 : zchkL zm169 60 zk169_1 = true := by decide +kernel
set_option maxRecDepth 100000 in
theorem zc169_2 : zchkL zm169 120 zk169_2 = true := by decide +kernel
set_option maxRecDepth 100000 in
theorem zc170_0 : zchkL zm170 0 zk170_0 = true := by decide +kernel
set_option maxRecDepth 100000 in
theorem zc170_1 : zchkL zm170 60 zk170_1 = true := by decide +kernel
set_option maxRecDepth 100000 in
theorem zc171_0 : zchkL zm171 0 zk171_0 = true := by decide +kernel
set_option maxRecDepth 100000 in
theorem zc171_1 : zchkL zm171 60 zk171_1 = true := by decide +kernel
set_option maxRecDepth 100000 in
theorem zc171_2 : zchkL zm171 120 zk171_2 = true := by decide +kernel
set_option maxRecDepth 100000 in
theorem zc171_3 : zchkL zm171 180 zk171_3 = true := by decide +kernel
set_option maxRecDepth 100000 in
theorem zc171_4 : zchkL zm171 240 zk171_4 = true := by decide +kernel
set_option maxRecDepth 100000 in
theorem zc172_0 : zchkL zm172 0 zk172_0 = true := by decide +kernel
set_option maxRecDepth 100000 in
theorem zc173_0 : zchkL zm173 0 zk173_0 = true := by decide +kernel
set_option maxRecDepth 100000 in
theorem zc174_0 : zchkL zm174 0 zk174_0 = true := by decide +kernel
set_option maxRecDepth 100000 in
theorem zc175_0 : zchkL zm175 0 zk175_0 = true := by decide +kernel
set_option maxRecDepth 100000 in
theorem zc176_0 : zchkL zm176 0 zk176_0 = true := by decide +kernel
set_option maxRecDepth 100000 in
theorem zc177_0 : zchkL zm177 0 zk177_0 = true := by decide +kernel
set_option maxRecDepth 100000 in
theorem zc178_0 : zchkL zm178 0 zk178_0 = true := by decide +kernel
set_option maxRecDepth 100000 in
theorem zc179_0 : zchkL zm179 0 zk179_0 = true := by decide +kernel
set_option maxRecDepth 100000 in
theorem zc180_0 : zchkL zm180 0 zk180_0 = true := by decide +kernel
set_option maxRecDepth 100000 in
theorem zc181_0 : zchkL zm181 0 zk181_0 = true := by decide +kernel
set_option maxRecDepth 100000 in
theorem zc182_0 : zchkL zm182 0 zk182_0 = true := by decide +kernel
set_option maxRecDepth 100000 in
theorem zc183_0 : zchkL zm183 0 zk183_0 = true := by decide +kernel
set_option maxRecDepth 100000 in
theorem zc183_1 : zchkL zm183 60 zk183_1 = true := by decide +kernel
set_option maxRecDepth 100000 in
theorem zc184_0 : zchkL zm184 0 zk184_0 = true := by decide +kernel
set_option maxRecDepth 100000 in
theorem zc185_0 : zchkL zm185 0 zk185_0 = true := by decide +kernel
set_option maxRecDepth 100000 in
theorem zc185_1 : zchkL zm185 60 zk185_1 = true := by decide +kernel
set_option maxRecDepth 100000 in
theorem zc185_2 : zchkL zm185 120 zk185_2 = true := by decide +kernel
set_option maxRecDepth 100000 in
theorem zc186_0 : zchkL zm186 0 zk186_0 = true := by decide +kernel
set_option maxRecDepth 100000 in
theorem zc187_0 : zchkL zm187 0 zk187_0 = true := by decide +kernel
set_option maxRecDepth 100000 in
theorem zc187_1 : zchkL zm187 60 zk187_1 = true := by decide +kernel
set_option maxRecDepth 100000 in
theorem zc188_0 : zchkL zm188 0 zk188_0 = true := by decide +kernel
set_option maxRecDepth 100000 in
theorem zc189_0 : zchkL zm189 0 zk189_0 = true := by decide +kernel
set_option maxRecDepth 100000 in
theorem zc189_1 : zchkL zm189 60 zk189_1 = true := by decide +kernel
set_option maxRecDepth 100000 in
theorem zc190_0 : zchkL zm190 0 zk190_0 = true := by decide +kernel
set_option maxRecDepth 100000 in
theorem zc190_1 : zchkL zm190 60 zk190_1 = true := by decide +kernel
set_option maxRecDepth 100000 in
theorem zc190_2 : zchkL zm190 120 zk190_2 = true := by decide +kernel
set_option maxRecDepth 100000 in
theorem zc191_0 : zchkL zm191 0 zk191_0 = true := by decide +kernel
set_option maxRecDepth 100000 in
theorem zc191_1 : zchkL zm191 60 zk191_1 = true := by decide +kernel
set_option maxRecDepth 100000 in
theorem zc192_0 : zchkL zm192 0 zk192_0 = true := by decide +kernel
set_option maxRecDepth 100000 in
theorem zc192_1 : zchkL zm192 60 zk192_1 = true := by decide +kernel
set_option maxRecDepth 100000 in
theorem zc193_0 : zchkL zm193 0 zk193_0 = true := by decide +kernel
set_option maxRecDepth 100000 in
theorem zc194_0 : zchkL zm194 0 zk194_0 = true := by decide +kernel
set_option maxRecDepth 100000 in
theorem zc194_1 : zchkL zm194 60 zk194_1 = true := by decide +kernel
set_option maxRecDepth 100000 in
theorem zc195_0 : zchkL zm195 0 zk195_0 = true := by decide +kernel
set_option maxRecDepth 100000 in
theorem zc195_1 : zchkL zm195 60 zk195_1 = true := by decide +kernel
set_option maxRecDepth 100000 in
theorem zc196_0 : zchkL zm196 0 zk196_0 = true := by decide +kernel
set_option maxRecDepth 100000 in
theorem zc197_0 : zchkL zm197 0 zk197_0 = true := by decide +kernel
set_option maxRecDepth 100000 in
theorem zc197_1 : zchkL zm197 60 zk197_1 = true := by decide +kernel
set_option maxRecDepth 100000 in
theorem zc198_0 : zchkL zm198 0 zk198_0 = true := by decide +kernel
set_option maxRecDepth 100000 in
theorem zc199_0 : zchkL zm199 0 zk199_0 = true := by decide +kernel
set_option maxRecDepth 100000 in
theorem zc199_1 : zchkL zm199 60 zk199_1 = true := by decide +kernel
set_option maxRecDepth 100000 in
theorem zc200_0 : zchkL zm200 0 zk200_0 = true := by decide +kernel
set_option maxRecDepth 100000 in
theorem zc200_1 : zchkL zm200 60 zk200_1 = true := by decide +kernel
set_option maxRecDepth 100000 in
theorem zc200_2 : zchkL zm200 120 zk200_2 = true := by decide +kernel
set_option maxRecDepth 100000 in
theorem zc200_3 : zchkL zm200 180 zk200_3 = true := by decide +kernel
set_option maxRecDepth 100000 in
theorem zc200_4 : zchkL zm200 240 zk200_4 = true := by decide +kernel
set_option maxRecDepth 100000 in
theorem zc201_0 : zchkL zm201 0 zk201_0 = true := by decide +kernel
set_option maxRecDepth 100000 in
theorem zc201_1 : zchkL zm201 60 zk201_1 = true := by decide +kernel
set_option maxRecDepth 100000 in
theorem zc202_0 : zchkL zm202 0 zk202_0 = true := by decide +kernel
set_option maxRecDepth 100000 in
theorem zc202_1 : zchkL zm202 60 zk202_1 = true := by decide +kernel
set_option maxRecDepth 100000 in
theorem zc203_0 : zchkL zm203 0 zk203_0 = true := by decide +kernel
set_option maxRecDepth 100000 in
theorem zc203_1 : zchkL zm203 60 zk203_1 = true := by decide +kernel
set_option maxRecDepth 100000 in
theorem zc204_0 : zchkL zm204 0 zk204_0 = true := by decide +kernel
set_option maxRecDepth 100000 in
theorem zc205_0 : zchkL zm205 0 zk205_0 = true := by decide +kernel
set_option maxRecDepth 100000 in
theorem zc205_1 : zchkL zm205 60 zk205_1 = true := by decide +kernel
set_option maxRecDepth 100000 in
theorem zc206_0 : zchkL zm206 0 zk206_0 = true := by decide +kernel
set_option maxRecDepth 100000 in
theorem zc206_1 : zchkL zm206 60 zk206_1 = true := by decide +kernel
set_option maxRecDepth 100000 in
theorem zc206_2 : zchkL zm206 120 zk206_2 = true := by decide +kernel
set_option maxRecDepth 100000 in
theorem zc206_3 : zchkL zm206 180 zk206_3 = true := by decide +kernel
set_option maxRecDepth 100000 in
theorem zc207_0 : zchkL zm207 0 zk207_0 = true := by decide +kernel
set_option maxRecDepth 100000 in
theorem zc207_1 : zchkL zm207 60 zk207_1 = true := by decide +kernel
set_option maxRecDepth 100000 in
theorem zc208_0 : zchkL zm208 0 zk208_0 = true := by decide +kernel
set_option maxRecDepth 100000 in
theorem zc209_0 : zchkL zm209 0 zk209_0 = true := by decide +kernel
set_option maxRecDepth 100000 in
theorem zc209_1 : zchkL zm209 60 zk209_1 = true := by decide +kernel
set_option maxRecDepth 100000 in
theorem zc209_2 : zchkL zm209 120 zk209_2 = true := by decide +kernel
set_option maxRecDepth 100000 in
theorem zc209_3 : zchkL zm209 180 zk209_3 = true := by decide +kernel
set_option maxRecDepth 100000 in
theorem zc210_0 : zchkL zm210 0 zk210_0 = true := by decide +kernel
set_option maxRecDepth 100000 in
theorem zc210_1 : zchkL zm210 60 zk210_1 = true := by decide +kernel
set_option maxRecDepth 100000 in
theorem zc211_0 : zchkL zm211 0 zk211_0 = true := by decide +kernel
set_option maxRecDepth 100000 in
theorem zc211_1 : zchkL zm211 60 zk211_1 = true := by decide +kernel
set_option maxRecDepth 100000 in
theorem zc211_2 : zchkL zm211 120 zk211_2 = true := by decide +kernel
set_option maxRecDepth 100000 in
theorem zc212_0 : zchkL zm212 0 zk212_0 = true := by decide +kernel
set_option maxRecDepth 100000 in
theorem zc212_1 : zchkL zm212 60 zk212_1 = true := by decide +kernel
set_option maxRecDepth 100000 in
theorem zc212_2 : zchkL zm212 120 zk212_2 = true := by decide +kernel
set_option maxRecDepth 100000 in
theorem zc212_3 : zchkL zm212 180 zk212_3 = true := by decide +kernel
set_option maxRecDepth 100000 in
theorem zc212_4 : zchkL zm212 240 zk212_4 = true := by decide +kernel
set_option maxRecDepth 100000 in
theorem zc212_5 : zchkL zm212 300 zk212_5 = true := by decide +kernel
set_option maxRecDepth 100000 in
theorem zc213_0 : zchkL zm213 0 zk213_0 = true := by decide +kernel
set_option maxRecDepth 100000 in
theorem zc213_1 : zchkL zm213 60 zk213_1 = true := by decide +kernel
set_option maxRecDepth 100000 in
theorem zc213_2 : zchkL zm213 120 zk213_2 = true := by decide +kernel
set_option maxRecDepth 100000 in
theorem zc213_3 : zchkL zm213 180 zk213_3 = true := by decide +kernel
set_option maxRecDepth 100000 in
theorem zc213_4 : zchkL zm213 240 zk213_4 = true := by decide +kernel
set_option maxRecDepth 100000 in
theorem zc214_0 : zchkL zm214 0 zk214_0 = true := by decide +kernel
set_option maxRecDepth 100000 in
theorem zc214_1 : zchkL zm214 60 zk214_1 = true := by decide +kernel
set_option maxRecDepth 100000 in
theorem zc214_2 : zchkL zm214 120 zk214_2 = true := by decide +kernel
set_option maxRecDepth 100000 in
theorem zc214_3 : zchkL zm214 180 zk214_3 = true := by decide +kernel
set_option maxRecDepth 100000 in
theorem zc215_0 : zchkL zm215 0 zk215_0 = true := by decide +kernel
set_option maxRecDepth 100000 in
theorem zc215_1 : zchkL zm215 60 zk215_1 = true := by decide +kernel
set_option maxRecDepth 100000 in
theorem zc215_2 : zchkL zm215 120 zk215_2 = true := by decide +kernel
set_option maxRecDepth 100000 in
theorem zc215_3 : zchkL zm215 180 zk215_3 = true := by decide +kernel
set_option maxRecDepth 100000 in
theorem zc215_4 : zchkL zm215 240 zk215_4 = true := by decide +kernel
set_option maxRecDepth 100000 in
theorem zc216_0 : zchkL zm216 0 zk216_0 = true := by decide +kernel
set_option maxRecDepth 100000 in
theorem zc216_1 : zchkL zm216 60 zk216_1 = true := by decide +kernel
set_option maxRecDepth 100000 in
theorem zc217_0 : zchkL zm217 0 zk217_0 = true := by decide +kernel
set_option maxRecDepth 100000 in
theorem zc217_1 : zchkL zm217 60 zk217_1 = true := by decide +kernel
set_option maxRecDepth 100000 in
theorem zc218_0 : zchkL zm218 0 zk218_0 = true := by decide +kernel
set_option maxRecDepth 100000 in
theorem zc219_0 : zchkL zm219 0 zk219_0 = true := by decide +kernel
set_option maxRecDepth 100000 in
theorem zc220_0 : zchkL zm220 0 zk220_0 = true := by decide +kernel
set_option maxRecDepth 100000 in
theorem zc221_0 : zchkL zm221 0 zk221_0 = true := by decide +kernel
set_option maxRecDepth 100000 in
theorem zc222_0 : zchkL zm222 0 zk222_0 = true := by decide +kernel
set_option maxRecDepth 100000 in
theorem zc223_0 : zchkL zm223 0 zk223_0 = true := by decide +kernel
set_option maxRecDepth 100000 in
theorem zc224_0 : zchkL zm224 0 zk224_0 = true := by decide +kernel
set_option maxRecDepth 100000 in
theorem zc224_1 : zchkL zm224 60 zk224_1 = true := by decide +kernel
set_option maxRecDepth 100000 in
theorem zc225_0 : zchkL zm225 0 zk225_0 = true := by decide +kernel
set_option maxRecDepth 100000 in
theorem zc226_0 : zchkL zm226 0 zk226_0 = true := by decide +kernel
set_option maxRecDepth 100000 in
theorem zc227_0 : zchkL zm227 0 zk227_0 = true := by decide +kernel
set_option maxRecDepth 100000 in
theorem zc228_0 : zchkL zm228 0 zk228_0 = true := by decide +kernel
set_option maxRecDepth 100000 in
theorem zc228_1 : zchkL zm228 60 zk228_1 = true := by decide +kernel
set_option maxRecDepth 100000 in
theorem zc228_2 : zchkL zm228 120 zk228_2 = true := by decide +kernel
set_option maxRecDepth 100000 in
theorem zc229_0 : zchkL zm229 0 zk229_0 = true := by decide +kernel
set_option maxRecDepth 100000 in
theorem zc230_0 : zchkL zm230 0 zk230_0 = true := by decide +kernel
set_option maxRecDepth 100000 in
theorem zc231_0 : zchkL zm231 0 zk231_0 = true := by decide +kernel
set_option maxRecDepth 100000 in
theorem zc232_0 : zchkL zm232 0 zk232_0 = true := by decide +kernel
