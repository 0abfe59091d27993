/-! the check of every method's rows (printed by wip/gen/gen_ck.py) -/
theorem am_all_app {α : Type} {p : α → Bool} {a b : List α} (ha : a.all p = true) (hb : b.all p = true) : (a ++ b).all p = true := by rw [List.all_append, ha, hb]; rfl
theorem am_ck0 : am_r0.all (am_chk 0) = true := by decide +kernel
theorem am_ck1 : am_r1.all (am_chk 1) = true := by decide +kernel
theorem am_ck2 : am_r2.all (am_chk 2) = true := by decide +kernel
theorem am_ck3 : am_r3.all (am_chk 3) = true := by decide +kernel
theorem am_ck4 : am_r4.all (am_chk 4) = true := by decide +kernel
theorem am_ck5 : am_r5.all (am_chk 5) = true := by decide +kernel
theorem am_ck6 : am_r6.all (am_chk 6) = true := by decide +kernel
theorem am_ck7 : am_r7.all (am_chk 7) = true := by decide +kernel
theorem am_ck8 : am_r8.all (am_chk 8) = true := by decide +kernel
theorem am_ck9 : am_r9.all (am_chk 9) = true := by decide +kernel
theorem am_ck10 : am_r10.all (am_chk 10) = true := by decide +kernel
theorem am_ck11 : am_r11.all (am_chk 11) = true := by decide +kernel
theorem am_ck12 : am_r12.all (am_chk 12) = true := by decide +kernel
theorem am_ck13 : am_r13.all (am_chk 13) = true := by decide +kernel
theorem am_ck14 : am_r14.all (am_chk 14) = true := by decide +kernel
theorem am_ck15 : am_r15.all (am_chk 15) = true := by decide +kernel
theorem am_ck16 : am_r16.all (am_chk 16) = true := by decide +kernel
theorem am_ck17 : am_r17.all (am_chk 17) = true := by decide +kernel
theorem am_ck18 : am_r18.all (am_chk 18) = true := by decide +kernel
theorem am_ck19 : am_r19.all (am_chk 19) = true := by decide +kernel
theorem am_ck20 : am_r20.all (am_chk 20) = true := by decide +kernel
theorem am_ck21 : am_r21.all (am_chk 21) = true := by decide +kernel
theorem am_ck22 : am_r22.all (am_chk 22) = true := by decide +kernel
theorem am_ck23 : am_r23.all (am_chk 23) = true := by decide +kernel
theorem am_ck24 : am_r24.all (am_chk 24) = true := by decide +kernel
theorem am_ck25 : am_r25.all (am_chk 25) = true := by decide +kernel
theorem am_ck26 : am_r26.all (am_chk 26) = true := by decide +kernel
theorem am_ck27 : am_r27.all (am_chk 27) = true := by decide +kernel
theorem am_ck28 : am_r28.all (am_chk 28) = true := by decide +kernel
theorem am_ck29 : am_r29.all (am_chk 29) = true := by decide +kernel
theorem am_ck30 : am_r30.all (am_chk 30) = true := by decide +kernel
theorem am_ck31 : am_r31.all (am_chk 31) = true := by decide +kernel
theorem am_ck32 : am_r32.all (am_chk 32) = true := by decide +kernel
theorem am_ck33 : am_r33.all (am_chk 33) = true := by decide +kernel
theorem am_ck34 : am_r34.all (am_chk 34) = true := by decide +kernel
theorem am_ck35 : am_r35.all (am_chk 35) = true := by decide +kernel
theorem am_ck36 : am_r36.all (am_chk 36) = true := by decide +kernel
theorem am_ck37 : am_r37.all (am_chk 37) = true := by decide +kernel
theorem am_ck38 : am_r38.all (am_chk 38) = true := by decide +kernel
theorem am_ck39 : am_r39.all (am_chk 39) = true := by decide +kernel
theorem am_ck40 : am_r40.all (am_chk 40) = true := by decide +kernel
theorem am_ck41 : am_r41.all (am_chk 41) = true := by decide +kernel
theorem am_ck42 : am_r42.all (am_chk 42) = true := by decide +kernel
theorem am_ck43 : am_r43.all (am_chk 43) = true := by decide +kernel
theorem am_ck44 : am_r44.all (am_chk 44) = true := by decide +kernel
theorem am_ck45 : am_r45.all (am_chk 45) = true := by decide +kernel
theorem am_ck46 : am_r46.all (am_chk 46) = true := by decide +kernel
theorem am_ck47 : am_r47.all (am_chk 47) = true := by decide +kernel
theorem am_ck48 : am_r48.all (am_chk 48) = true := by decide +kernel
theorem am_ck49 : am_r49.all (am_chk 49) = true := by decide +kernel
theorem am_ck50 : am_r50.all (am_chk 50) = true := by decide +kernel
theorem am_ck51 : am_r51.all (am_chk 51) = true := by decide +kernel
theorem am_ck52 : am_r52.all (am_chk 52) = true := by decide +kernel
theorem am_ck53 : am_r53.all (am_chk 53) = true := by decide +kernel
theorem am_ck54 : am_r54.all (am_chk 54) = true := by decide +kernel
theorem am_ck55 : am_r55.all (am_chk 55) = true := by decide +kernel
theorem am_ck56 : am_r56.all (am_chk 56) = true := by decide +kernel
theorem am_ck57 : am_r57.all (am_chk 57) = true := by decide +kernel
theorem am_ck58 : am_r58.all (am_chk 58) = true := by decide +kernel
theorem am_ck59 : am_r59.all (am_chk 59) = true := by decide +kernel
theorem am_ck60 : am_r60.all (am_chk 60) = true := by decide +kernel
theorem am_ck61 : am_r61.all (am_chk 61) = true := by decide +kernel
theorem am_ck62 : am_r62.all (am_chk 62) = true := by decide +kernel
theorem am_ck63 : am_r63.all (am_chk 63) = true := by decide +kernel
theorem am_ck64 : am_r64.all (am_chk 64) = true := by decide +kernel
theorem am_ck65 : am_r65.all (am_chk 65) = true := by decide +kernel
theorem am_ck66 : am_r66.all (am_chk 66) = true := by decide +kernel
theorem am_ck67 : am_r67.all (am_chk 67) = true := by decide +kernel
theorem am_ck68 : am_r68.all (am_chk 68) = true := by decide +kernel
theorem am_ck69 : am_r69.all (am_chk 69) = true := by decide +kernel
theorem am_ck70 : am_r70.all (am_chk 70) = true := by decide +kernel
theorem am_ck71 : am_r71.all (am_chk 71) = true := by decide +kernel
theorem am_ck72 : am_r72.all (am_chk 72) = true := by decide +kernel
theorem am_ck73 : am_r73.all (am_chk 73) = true := by decide +kernel
theorem am_ck74 : am_r74.all (am_chk 74) = true := by decide +kernel
theorem am_ck75 : am_r75.all (am_chk 75) = true := by decide +kernel
theorem am_ck76 : am_r76.all (am_chk 76) = true := by decide +kernel
theorem am_ck77 : am_r77.all (am_chk 77) = true := by decide +kernel
theorem am_ck78 : am_r78.all (am_chk 78) = true := by decide +kernel
theorem am_ck79 : am_r79.all (am_chk 79) = true := by decide +kernel
theorem am_ck80 : am_r80.all (am_chk 80) = true := by decide +kernel
theorem am_ck81 : am_r81.all (am_chk 81) = true := by decide +kernel
theorem am_ck82 : am_r82.all (am_chk 82) = true := by decide +kernel
theorem am_ck83 : am_r83.all (am_chk 83) = true := by decide +kernel
theorem am_ck84 : am_r84.all (am_chk 84) = true := by decide +kernel
theorem am_ck85 : am_r85.all (am_chk 85) = true := by decide +kernel
theorem am_ck86 : am_r86.all (am_chk 86) = true := by decide +kernel
theorem am_ck87 : am_r87.all (am_chk 87) = true := by decide +kernel
theorem am_ck88 : am_r88.all (am_chk 88) = true := by decide +kernel
theorem am_ck89 : am_r89.all (am_chk 89) = true := by decide +kernel
theorem am_ck90 : am_r90.all (am_chk 90) = true := by decide +kernel
theorem am_ck91 : am_r91.all (am_chk 91) = true := by decide +kernel
theorem am_ck92 : am_r92.all (am_chk 92) = true := by decide +kernel
theorem am_ck93 : am_r93.all (am_chk 93) = true := by decide +kernel
theorem am_ck94 : am_r94.all (am_chk 94) = true := by decide +kernel
theorem am_ck95 : am_r95.all (am_chk 95) = true := by decide +kernel
theorem am_ck96 : am_r96.all (am_chk 96) = true := by decide +kernel
theorem am_ck97 : am_r97.all (am_chk 97) = true := by decide +kernel
theorem am_ck98 : am_r98.all (am_chk 98) = true := by decide +kernel
theorem am_ck99 : am_r99.all (am_chk 99) = true := by decide +kernel
theorem am_ck100 : am_r100.all (am_chk 100) = true := by decide +kernel
theorem am_ck101 : am_r101.all (am_chk 101) = true := by decide +kernel
theorem am_ck102 : am_r102.all (am_chk 102) = true := by decide +kernel
theorem am_ck103 : am_r103.all (am_chk 103) = true := by decide +kernel
theorem am_ck104 : am_r104.all (am_chk 104) = true := by decide +kernel
theorem am_ck105 : am_r105.all (am_chk 105) = true := by decide +kernel
theorem am_ck106 : am_r106.all (am_chk 106) = true := by decide +kernel
theorem am_ck107 : am_r107.all (am_chk 107) = true := by decide +kernel
theorem am_ck108 : am_r108.all (am_chk 108) = true := by decide +kernel
theorem am_ck109 : am_r109.all (am_chk 109) = true := by decide +kernel
theorem am_ck110 : am_r110.all (am_chk 110) = true := by decide +kernel
theorem am_ck111 : am_r111.all (am_chk 111) = true := by decide +kernel
theorem am_ck112 : am_r112.all (am_chk 112) = true := by decide +kernel
theorem am_ck113 : am_r113.all (am_chk 113) = true := by decide +kernel
theorem am_ck114 : am_r114.all (am_chk 114) = true := by decide +kernel
theorem am_ck115 : am_r115.all (am_chk 115) = true := by decide +kernel
theorem am_ck116 : am_r116.all (am_chk 116) = true := by decide +kernel
theorem am_ck117 : am_r117.all (am_chk 117) = true := by decide +kernel
theorem am_ck118 : am_r118.all (am_chk 118) = true := by decide +kernel
theorem am_ck119 : am_r119.all (am_chk 119) = true := by decide +kernel
theorem am_ck120 : am_r120.all (am_chk 120) = true := by decide +kernel
theorem am_ck121 : am_r121.all (am_chk 121) = true := by decide +kernel
theorem am_ck122 : am_r122.all (am_chk 122) = true := by decide +kernel
theorem am_ck123 : am_r123.all (am_chk 123) = true := by decide +kernel
theorem am_ck124 : am_r124.all (am_chk 124) = true := by decide +kernel
theorem am_ck125 : am_r125.all (am_chk 125) = true := by decide +kernel
theorem am_ck126 : am_r126.all (am_chk 126) = true := by decide +kernel
theorem am_ck127 : am_r127.all (am_chk 127) = true := by decide +kernel
theorem am_ck128 : am_r128.all (am_chk 128) = true := by decide +kernel
theorem am_ck129 : am_r129.all (am_chk 129) = true := by decide +kernel
theorem am_ck130 : am_r130.all (am_chk 130) = true := by decide +kernel
theorem am_ck131 : am_r131.all (am_chk 131) = true := by decide +kernel
theorem am_ck132 : am_r132.all (am_chk 132) = true := by decide +kernel
theorem am_ck133 : am_r133.all (am_chk 133) = true := by decide +kernel
theorem am_ck134 : am_r134.all (am_chk 134) = true := by decide +kernel
theorem am_ck135 : am_r135.all (am_chk 135) = true := by decide +kernel
theorem am_ck136 : am_r136.all (am_chk 136) = true := by decide +kernel
theorem am_ck137 : am_r137.all (am_chk 137) = true := by decide +kernel
theorem am_ck138 : am_r138.all (am_chk 138) = true := by decide +kernel
theorem am_ck139 : am_r139.all (am_chk 139) = true := by decide +kernel
theorem am_ck140 : am_r140.all (am_chk 140) = true := by decide +kernel
theorem am_ck141 : am_r141.all (am_chk 141) = true := by decide +kernel
theorem am_ck142 : am_r142.all (am_chk 142) = true := by decide +kernel
theorem am_ck143 : am_r143.all (am_chk 143) = true := by decide +kernel
theorem am_ck144 : am_r144.all (am_chk 144) = true := by decide +kernel
theorem am_ck145 : am_r145.all (am_chk 145) = true := by decide +kernel
theorem am_ck146 : am_r146.all (am_chk 146) = true := by decide +kernel
theorem am_ck147 : am_r147.all (am_chk 147) = true := by decide +kernel
theorem am_ck148 : am_r148.all (am_chk 148) = true := by decide +kernel
theorem am_ck149 : am_r149.all (am_chk 149) = true := by decide +kernel
theorem am_ck150 : am_r150.all (am_chk 150) = true := by decide +kernel
theorem am_ck151_0 : am_r151_0.all (am_chk 151) = true := by decide +kernel
theorem am_ck151_1 : am_r151_1.all (am_chk 151) = true := by decide +kernel
theorem am_ck151_2 : am_r151_2.all (am_chk 151) = true := by decide +kernel
theorem am_ck151 : am_r151.all (am_chk 151) = true := (am_all_app am_ck151_0 (am_all_app am_ck151_1 am_ck151_2))
theorem am_ck152 : am_r152.all (am_chk 152) = true := by decide +kernel
theorem am_ck153 : am_r153.all (am_chk 153) = true := by decide +kernel
theorem am_ck154 : am_r154.all (am_chk 154) = true := by decide +kernel
theorem am_ck155 : am_r155.all (am_chk 155) = true := by decide +kernel
theorem am_ck156 : am_r156.all (am_chk 156) = true := by decide +kernel
theorem am_ck157 : am_r157.all (am_chk 157) = true := by decide +kernel
theorem am_ck158 : am_r158.all (am_chk 158) = true := by decide +kernel
theorem am_ck159 : am_r159.all (am_chk 159) = true := by decide +kernel
theorem am_ck160 : am_r160.all (am_chk 160) = true := by decide +kernel
theorem am_ck161 : am_r161.all (am_chk 161) = true := by decide +kernel
theorem am_ck162 : am_r162.all (am_chk 162) = true := by decide +kernel
theorem am_ck163 : am_r163.all (am_chk 163) = true := by decide +kernel
theorem am_ck164 : am_r164.all (am_chk 164) = true := by decide +kernel
theorem am_ck165 : am_r165.all (am_chk 165) = true := by decide +kernel
theorem am_ck166 : am_r166.all (am_chk 166) = true := by decide +kernel
theorem am_ck167 : am_r167.all (am_chk 167) = true := by decide +kernel
theorem am_ck168 : am_r168.all (am_chk 168) = true := by decide +kernel
theorem am_ck169 : am_r169.all (am_chk 169) = true := by decide +kernel
theorem am_ck170 : am_r170.all (am_chk 170) = true := by decide +kernel
theorem am_ck171 : am_r171.all (am_chk 171) = true := by decide +kernel
theorem am_ck172 : am_r172.all (am_chk 172) = true := by decide +kernel
theorem am_ck173 : am_r173.all (am_chk 173) = true := by decide +kernel
theorem am_ck174 : am_r174.all (am_chk 174) = true := by decide +kernel
theorem am_ck175 : am_r175.all (am_chk 175) = true := by decide +kernel
theorem am_ck176 : am_r176.all (am_chk 176) = true := by decide +kernel
theorem am_ck177 : am_r177.all (am_chk 177) = true := by decide +kernel
theorem am_ck178 : am_r178.all (am_chk 178) = true := by decide +kernel
theorem am_ck179 : am_r179.all (am_chk 179) = true := by decide +kernel
theorem am_ck180 : am_r180.all (am_chk 180) = true := by decide +kernel
theorem am_ck181 : am_r181.all (am_chk 181) = true := by decide +kernel
theorem am_ck182 : am_r182.all (am_chk 182) = true := by decide +kernel
theorem am_ck183 : am_r183.all (am_chk 183) = true := by decide +kernel
theorem am_ck184 : am_r184.all (am_chk 184) = true := by decide +kernel
theorem am_ck185 : am_r185.all (am_chk 185) = true := by decide +kernel
theorem am_ck186 : am_r186.all (am_chk 186) = true := by decide +kernel
theorem am_ck187 : am_r187.all (am_chk 187) = true := by decide +kernel
theorem am_ck188 : am_r188.all (am_chk 188) = true := by decide +kernel
theorem am_ck189_0 : am_r189_0.all (am_chk 189) = true := by decide +kernel
theorem am_ck189_1 : am_r189_1.all (am_chk 189) = true := by decide +kernel
theorem am_ck189 : am_r189.all (am_chk 189) = true := (am_all_app am_ck189_0 am_ck189_1)
theorem am_ck190 : am_r190.all (am_chk 190) = true := by decide +kernel
theorem am_ck191 : am_r191.all (am_chk 191) = true := by decide +kernel
theorem am_ck192 : am_r192.all (am_chk 192) = true := by decide +kernel
theorem am_ck193 : am_r193.all (am_chk 193) = true := by decide +kernel
theorem am_ck194 : am_r194.all (am_chk 194) = true := by decide +kernel
theorem am_ck195 : am_r195.all (am_chk 195) = true := by decide +kernel
theorem am_ck196 : am_r196.all (am_chk 196) = true := by decide +kernel
theorem am_ck197 : am_r197.all (am_chk 197) = true := by decide +kernel
theorem am_ck198 : am_r198.all (am_chk 198) = true := by decide +kernel
theorem am_ck199 : am_r199.all (am_chk 199) = true := by decide +kernel
theorem am_ck200 : am_r200.all (am_chk 200) = true := by decide +kernel
theorem am_ck201 : am_r201.all (am_chk 201) = true := by decide +kernel
theorem am_ck202 : am_r202.all (am_chk 202) = true := by decide +kernel
theorem am_ck203 : am_r203.all (am_chk 203) = true := by decide +kernel
theorem am_ck204_0 : am_r204_0.all (am_chk 204) = true := by decide +kernel
theorem am_ck204_1 : am_r204_1.all (am_chk 204) = true := by decide +kernel
theorem am_ck204 : am_r204.all (am_chk 204) = true := (am_all_app am_ck204_0 am_ck204_1)
theorem am_ck205 : am_r205.all (am_chk 205) = true := by decide +kernel
theorem am_ck206 : am_r206.all (am_chk 206) = true := by decide +kernel
theorem am_ck207 : am_r207.all (am_chk 207) = true := by decide +kernel
theorem am_ck208 : am_r208.all (am_chk 208) = true := by decide +kernel
theorem am_ck209 : am_r209.all (am_chk 209) = true := by decide +kernel
theorem am_ck210 : am_r210.all (am_chk 210) = true := by decide +kernel
theorem am_ck211 : am_r211.all (am_chk 211) = true := by decide +kernel
theorem am_ck212 : am_r212.all (am_chk 212) = true := by decide +kernel
theorem am_ck213_0 : am_r213_0.all (am_chk 213) = true := by decide +kernel
theorem am_ck213_1 : am_r213_1.all (am_chk 213) = true := by decide +kernel
theorem am_ck213 : am_r213.all (am_chk 213) = true := (am_all_app am_ck213_0 am_ck213_1)
theorem am_ck214 : am_r214.all (am_chk 214) = true := by decide +kernel
theorem am_ck215_0 : am_r215_0.all (am_chk 215) = true := by decide +kernel
theorem am_ck215_1 : am_r215_1.all (am_chk 215) = true := by decide +kernel
theorem am_ck215 : am_r215.all (am_chk 215) = true := (am_all_app am_ck215_0 am_ck215_1)
theorem am_ck216 : am_r216.all (am_chk 216) = true := by decide +kernel
theorem am_ck217_0 : am_r217_0.all (am_chk 217) = true := by decide +kernel
theorem am_ck217_1 : am_r217_1.all (am_chk 217) = true := by decide +kernel
theorem am_ck217 : am_r217.all (am_chk 217) = true := (am_all_app am_ck217_0 am_ck217_1)
theorem am_ck218 : am_r218.all (am_chk 218) = true := by decide +kernel
theorem am_ck219_0 : am_r219_0.all (am_chk 219) = true := by decide +kernel
theorem am_ck219_1 : am_r219_1.all (am_chk 219) = true := by decide +kernel
theorem am_ck219 : am_r219.all (am_chk 219) = true := (am_all_app am_ck219_0 am_ck219_1)
theorem am_ck220 : am_r220.all (am_chk 220) = true := by decide +kernel
theorem am_ck221 : am_r221.all (am_chk 221) = true := by decide +kernel
theorem am_ck222 : am_r222.all (am_chk 222) = true := by decide +kernel
theorem am_ck223 : am_r223.all (am_chk 223) = true := by decide +kernel
theorem am_ck224 : am_r224.all (am_chk 224) = true := by decide +kernel
theorem am_ck225 : am_r225.all (am_chk 225) = true := by decide +kernel
theorem am_ck226 : am_r226.all (am_chk 226) = true := by decide +kernel
theorem am_ck227 : am_r227.all (am_chk 227) = true := by decide +kernel
theorem am_ck228 : am_r228.all (am_chk 228) = true := by decide +kernel
theorem am_ck229_0 : am_r229_0.all (am_chk 229) = true := by decide +kernel
theorem am_ck229_1 : am_r229_1.all (am_chk 229) = true := by decide +kernel
theorem am_ck229 : am_r229.all (am_chk 229) = true := (am_all_app am_ck229_0 am_ck229_1)
theorem am_ck230 : am_r230.all (am_chk 230) = true := by decide +kernel
theorem am_ck231_0 : am_r231_0.all (am_chk 231) = true := by decide +kernel
theorem am_ck231_1 : am_r231_1.all (am_chk 231) = true := by decide +kernel
theorem am_ck231 : am_r231.all (am_chk 231) = true := (am_all_app am_ck231_0 am_ck231_1)
theorem am_ck232 : am_r232.all (am_chk 232) = true := by decide +kernel
theorem am_ck233 : am_r233.all (am_chk 233) = true := by decide +kernel
theorem am_ck234 : am_r234.all (am_chk 234) = true := by decide +kernel
theorem am_ck235 : am_r235.all (am_chk 235) = true := by decide +kernel
theorem am_ck236 : am_r236.all (am_chk 236) = true := by decide +kernel
theorem am_ck237 : am_r237.all (am_chk 237) = true := by decide +kernel
theorem am_ck238 : am_r238.all (am_chk 238) = true := by decide +kernel
theorem am_ck239 : am_r239.all (am_chk 239) = true := by decide +kernel
theorem am_ck240 : am_r240.all (am_chk 240) = true := by decide +kernel
theorem am_ck241 : am_r241.all (am_chk 241) = true := by decide +kernel
theorem am_ck242 : am_r242.all (am_chk 242) = true := by decide +kernel
theorem am_ck243 : am_r243.all (am_chk 243) = true := by decide +kernel
theorem am_ck244 : am_r244.all (am_chk 244) = true := by decide +kernel
theorem am_ck245 : am_r245.all (am_chk 245) = true := by decide +kernel
theorem am_ck246 : am_r246.all (am_chk 246) = true := by decide +kernel
theorem am_ck247 : am_r247.all (am_chk 247) = true := by decide +kernel
theorem am_ck248 : am_r248.all (am_chk 248) = true := by decide +kernel
theorem am_ck249 : am_r249.all (am_chk 249) = true := by decide +kernel
theorem am_ck250 : am_r250.all (am_chk 250) = true := by decide +kernel
theorem am_ck251 : am_r251.all (am_chk 251) = true := by decide +kernel
theorem am_ck252 : am_r252.all (am_chk 252) = true := by decide +kernel
theorem am_ck253 : am_r253.all (am_chk 253) = true := by decide +kernel
theorem am_ck254 : am_r254.all (am_chk 254) = true := by decide +kernel
theorem am_ck255 : am_r255.all (am_chk 255) = true := by decide +kernel
theorem am_ck256 : am_r256.all (am_chk 256) = true := by decide +kernel
theorem am_ck257 : am_r257.all (am_chk 257) = true := by decide +kernel
theorem am_ck258 : am_r258.all (am_chk 258) = true := by decide +kernel
theorem am_ck259 : am_r259.all (am_chk 259) = true := by decide +kernel
theorem am_ck260 : am_r260.all (am_chk 260) = true := by decide +kernel
theorem am_ck261 : am_r261.all (am_chk 261) = true := by decide +kernel
theorem am_ck262 : am_r262.all (am_chk 262) = true := by decide +kernel
theorem am_ck263 : am_r263.all (am_chk 263) = true := by decide +kernel
theorem am_ck264 : am_r264.all (am_chk 264) = true := by decide +kernel
theorem am_ck265 : am_r265.all (am_chk 265) = true := by decide +kernel
theorem am_ck266 : am_r266.all (am_chk 266) = true := by decide +kernel
theorem am_ck267 : am_r267.all (am_chk 267) = true := by decide +kernel
theorem am_ck268 : am_r268.all (am_chk 268) = true := by decide +kernel
theorem am_ck269 : am_r269.all (am_chk 269) = true := by decide +kernel
theorem am_ck270 : am_r270.all (am_chk 270) = true := by decide +kernel
theorem am_ck271 : am_r271.all (am_chk 271) = true := by decide +kernel
theorem am_ck272 : am_r272.all (am_chk 272) = true := by decide +kernel
theorem am_ck273 : am_r273.all (am_chk 273) = true := by decide +kernel
theorem am_ck274 : am_r274.all (am_chk 274) = true := by decide +kernel
theorem am_ck275 : am_r275.all (am_chk 275) = true := by decide +kernel
theorem am_ck276 : am_r276.all (am_chk 276) = true := by decide +kernel
theorem am_ck277 : am_r277.all (am_chk 277) = true := by decide +kernel
theorem am_ck278 : am_r278.all (am_chk 278) = true := by decide +kernel
theorem am_ck279 : am_r279.all (am_chk 279) = true := by decide +kernel
theorem am_ck280 : am_r280.all (am_chk 280) = true := by decide +kernel
theorem am_ck281 : am_r281.all (am_chk 281) = true := by decide +kernel
theorem am_ck282 : am_r282.all (am_chk 282) = true := by decide +kernel
theorem am_ck283 : am_r283.all (am_chk 283) = true := by decide +kernel
theorem am_ck284 : am_r284.all (am_chk 284) = true := by decide +kernel
theorem am_ck285 : am_r285.all (am_chk 285) = true := by decide +kernel
theorem am_ck286 : am_r286.all (am_chk 286) = true := by decide +kernel
theorem am_ck287 : am_r287.all (am_chk 287) = true := by decide +kernel
theorem am_ck288 : am_r288.all (am_chk 288) = true := by decide +kernel
theorem am_ck289 : am_r289.all (am_chk 289) = true := by decide +kernel
theorem am_ck290 : am_r290.all (am_chk 290) = true := by decide +kernel
theorem am_ck291_0 : am_r291_0.all (am_chk 291) = true := by decide +kernel
theorem am_ck291_1 : am_r291_1.all (am_chk 291) = true := by decide +kernel
theorem am_ck291_2 : am_r291_2.all (am_chk 291) = true := by decide +kernel
theorem am_ck291_3 : am_r291_3.all (am_chk 291) = true := by decide +kernel
theorem am_ck291_4 : am_r291_4.all (am_chk 291) = true := by decide +kernel
theorem am_ck291_5 : am_r291_5.all (am_chk 291) = true := by decide +kernel
theorem am_ck291_6 : am_r291_6.all (am_chk 291) = true := by decide +kernel
theorem am_ck291_7 : am_r291_7.all (am_chk 291) = true := by decide +kernel
theorem am_ck291_8 : am_r291_8.all (am_chk 291) = true := by decide +kernel
theorem am_ck291_9 : am_r291_9.all (am_chk 291) = true := by decide +kernel
theorem am_ck291_10 : am_r291_10.all (am_chk 291) = true := by decide +kernel
theorem am_ck291_11 : am_r291_11.all (am_chk 291) = true := by decide +kernel
theorem am_ck291 : am_r291.all (am_chk 291) = true := (am_all_app am_ck291_0 (am_all_app am_ck291_1 (am_all_app am_ck291_2 (am_all_app am_ck291_3 (am_all_app am_ck291_4 (am_all_app am_ck291_5 (am_all_app am_ck291_6 (am_all_app am_ck291_7 (am_all_app am_ck291_8 (am_all_app am_ck291_9 (am_all_app am_ck291_10 am_ck291_11)))))))))))
def am_okL : Nat → List (List (Nat × am_Row)) → Prop
  | _, [] => True
  | n, rs :: t => rs.all (am_chk n) = true ∧ am_okL (n + 1) t
theorem am_okL_get : ∀ (t : List (List (Nat × am_Row))) (n k : Nat) (rs : List (Nat × am_Row)), am_okL n t → t[k]? = some rs → rs.all (am_chk (n + k)) = true
  | [], _, _, _, _, h => by simp at h
  | r :: t, n, 0, rs, h, e => by
    simp only [List.getElem?_cons_zero, Option.some.injEq] at e
    subst e
    exact h.1
  | r :: t, n, k + 1, rs, h, e => by
    rw [List.getElem?_cons_succ] at e
    have h1 := am_okL_get t (n + 1) k rs h.2 e
    rw [show n + (k + 1) = n + 1 + k by omega]
    exact h1
noncomputable def am_tb0 : List (List (Nat × am_Row)) := [am_r0, am_r1, am_r2, am_r3, am_r4, am_r5, am_r6, am_r7, am_r8, am_r9, am_r10, am_r11, am_r12, am_r13, am_r14, am_r15, am_r16, am_r17, am_r18, am_r19, am_r20, am_r21, am_r22, am_r23, am_r24, am_r25, am_r26, am_r27, am_r28, am_r29, am_r30, am_r31, am_r32, am_r33, am_r34, am_r35, am_r36, am_r37, am_r38, am_r39]
theorem am_okb0 : am_okL 0 am_tb0 := ⟨am_ck0, am_ck1, am_ck2, am_ck3, am_ck4, am_ck5, am_ck6, am_ck7, am_ck8, am_ck9, am_ck10, am_ck11, am_ck12, am_ck13, am_ck14, am_ck15, am_ck16, am_ck17, am_ck18, am_ck19, am_ck20, am_ck21, am_ck22, am_ck23, am_ck24, am_ck25, am_ck26, am_ck27, am_ck28, am_ck29, am_ck30, am_ck31, am_ck32, am_ck33, am_ck34, am_ck35, am_ck36, am_ck37, am_ck38, am_ck39, trivial⟩
noncomputable def am_tb1 : List (List (Nat × am_Row)) := [am_r40, am_r41, am_r42, am_r43, am_r44, am_r45, am_r46, am_r47, am_r48, am_r49, am_r50, am_r51, am_r52, am_r53, am_r54, am_r55, am_r56, am_r57, am_r58, am_r59, am_r60, am_r61, am_r62, am_r63, am_r64, am_r65, am_r66, am_r67, am_r68, am_r69, am_r70, am_r71, am_r72, am_r73, am_r74, am_r75, am_r76, am_r77, am_r78, am_r79]
theorem am_okb1 : am_okL 40 am_tb1 := ⟨am_ck40, am_ck41, am_ck42, am_ck43, am_ck44, am_ck45, am_ck46, am_ck47, am_ck48, am_ck49, am_ck50, am_ck51, am_ck52, am_ck53, am_ck54, am_ck55, am_ck56, am_ck57, am_ck58, am_ck59, am_ck60, am_ck61, am_ck62, am_ck63, am_ck64, am_ck65, am_ck66, am_ck67, am_ck68, am_ck69, am_ck70, am_ck71, am_ck72, am_ck73, am_ck74, am_ck75, am_ck76, am_ck77, am_ck78, am_ck79, trivial⟩
noncomputable def am_tb2 : List (List (Nat × am_Row)) := [am_r80, am_r81, am_r82, am_r83, am_r84, am_r85, am_r86, am_r87, am_r88, am_r89, am_r90, am_r91, am_r92, am_r93, am_r94, am_r95, am_r96, am_r97, am_r98, am_r99, am_r100, am_r101, am_r102, am_r103, am_r104, am_r105, am_r106, am_r107, am_r108, am_r109, am_r110, am_r111, am_r112, am_r113, am_r114, am_r115, am_r116, am_r117, am_r118, am_r119]
theorem am_okb2 : am_okL 80 am_tb2 := ⟨am_ck80, am_ck81, am_ck82, am_ck83, am_ck84, am_ck85, am_ck86, am_ck87, am_ck88, am_ck89, am_ck90, am_ck91, am_ck92, am_ck93, am_ck94, am_ck95, am_ck96, am_ck97, am_ck98, am_ck99, am_ck100, am_ck101, am_ck102, am_ck103, am_ck104, am_ck105, am_ck106, am_ck107, am_ck108, am_ck109, am_ck110, am_ck111, am_ck112, am_ck113, am_ck114, am_ck115, am_ck116, am_ck117, am_ck118, am_ck119, trivial⟩
noncomputable def am_tb3 : List (List (Nat × am_Row)) := [am_r120, am_r121, am_r122, am_r123, am_r124, am_r125, am_r126, am_r127, am_r128, am_r129, am_r130, am_r131, am_r132, am_r133, am_r134, am_r135, am_r136, am_r137, am_r138, am_r139, am_r140, am_r141, am_r142, am_r143, am_r144, am_r145, am_r146, am_r147, am_r148, am_r149, am_r150, am_r151, am_r152, am_r153, am_r154, am_r155, am_r156, am_r157, am_r158, am_r159]
theorem am_okb3 : am_okL 120 am_tb3 := ⟨am_ck120, am_ck121, am_ck122, am_ck123, am_ck124, am_ck125, am_ck126, am_ck127, am_ck128, am_ck129, am_ck130, am_ck131, am_ck132, am_ck133, am_ck134, am_ck135, am_ck136, am_ck137, am_ck138, am_ck139, am_ck140, am_ck141, am_ck142, am_ck143, am_ck144, am_ck145, am_ck146, am_ck147, am_ck148, am_ck149, am_ck150, am_ck151, am_ck152, am_ck153, am_ck154, am_ck155, am_ck156, am_ck157, am_ck158, am_ck159, trivial⟩
noncomputable def am_tb4 : List (List (Nat × am_Row)) := [am_r160, am_r161, am_r162, am_r163, am_r164, am_r165, am_r166, am_r167, am_r168, am_r169, am_r170, am_r171, am_r172, am_r173, am_r174, am_r175, am_r176, am_r177, am_r178, am_r179, am_r180, am_r181, am_r182, am_r183, am_r184, am_r185, am_r186, am_r187, am_r188, am_r189, am_r190, am_r191, am_r192, am_r193, am_r194, am_r195, am_r196, am_r197, am_r198, am_r199]
theorem am_okb4 : am_okL 160 am_tb4 := ⟨am_ck160, am_ck161, am_ck162, am_ck163, am_ck164, am_ck165, am_ck166, am_ck167, am_ck168, am_ck169, am_ck170, am_ck171, am_ck172, am_ck173, am_ck174, am_ck175, am_ck176, am_ck177, am_ck178, am_ck179, am_ck180, am_ck181, am_ck182, am_ck183, am_ck184, am_ck185, am_ck186, am_ck187, am_ck188, am_ck189, am_ck190, am_ck191, am_ck192, am_ck193, am_ck194, am_ck195, am_ck196, am_ck197, am_ck198, am_ck199, trivial⟩
noncomputable def am_tb5 : List (List (Nat × am_Row)) := [am_r200, am_r201, am_r202, am_r203, am_r204, am_r205, am_r206, am_r207, am_r208, am_r209, am_r210, am_r211, am_r212, am_r213, am_r214, am_r215, am_r216, am_r217, am_r218, am_r219, am_r220, am_r221, am_r222, am_r223, am_r224, am_r225, am_r226, am_r227, am_r228, am_r229, am_r230, am_r231, am_r232, am_r233, am_r234, am_r235, am_r236, am_r237, am_r238, am_r239]
theorem am_okb5 : am_okL 200 am_tb5 := ⟨am_ck200, am_ck201, am_ck202, am_ck203, am_ck204, am_ck205, am_ck206, am_ck207, am_ck208, am_ck209, am_ck210, am_ck211, am_ck212, am_ck213, am_ck214, am_ck215, am_ck216, am_ck217, am_ck218, am_ck219, am_ck220, am_ck221, am_ck222, am_ck223, am_ck224, am_ck225, am_ck226, am_ck227, am_ck228, am_ck229, am_ck230, am_ck231, am_ck232, am_ck233, am_ck234, am_ck235, am_ck236, am_ck237, am_ck238, am_ck239, trivial⟩
noncomputable def am_tb6 : List (List (Nat × am_Row)) := [am_r240, am_r241, am_r242, am_r243, am_r244, am_r245, am_r246, am_r247, am_r248, am_r249, am_r250, am_r251, am_r252, am_r253, am_r254, am_r255, am_r256, am_r257, am_r258, am_r259, am_r260, am_r261, am_r262, am_r263, am_r264, am_r265, am_r266, am_r267, am_r268, am_r269, am_r270, am_r271, am_r272, am_r273, am_r274, am_r275, am_r276, am_r277, am_r278, am_r279]
theorem am_okb6 : am_okL 240 am_tb6 := ⟨am_ck240, am_ck241, am_ck242, am_ck243, am_ck244, am_ck245, am_ck246, am_ck247, am_ck248, am_ck249, am_ck250, am_ck251, am_ck252, am_ck253, am_ck254, am_ck255, am_ck256, am_ck257, am_ck258, am_ck259, am_ck260, am_ck261, am_ck262, am_ck263, am_ck264, am_ck265, am_ck266, am_ck267, am_ck268, am_ck269, am_ck270, am_ck271, am_ck272, am_ck273, am_ck274, am_ck275, am_ck276, am_ck277, am_ck278, am_ck279, trivial⟩
noncomputable def am_tb7 : List (List (Nat × am_Row)) := [am_r280, am_r281, am_r282, am_r283, am_r284, am_r285, am_r286, am_r287, am_r288, am_r289, am_r290, am_r291]
theorem am_okb7 : am_okL 280 am_tb7 := ⟨am_ck280, am_ck281, am_ck282, am_ck283, am_ck284, am_ck285, am_ck286, am_ck287, am_ck288, am_ck289, am_ck290, am_ck291, trivial⟩
theorem am_okL_app : ∀ (a b : List (List (Nat × am_Row))) (n m : Nat), m = n + a.length → am_okL n a → am_okL m b → am_okL n (a ++ b)
  | [], b, n, m, e, _, h => by
    have e1 : m = n := e
    rw [← e1]
    exact h
  | r :: a, b, n, m, e, h, h1 => ⟨h.1, am_okL_app a b (n + 1) m (by rw [e, List.length_cons]; omega) h.2 h1⟩
theorem am_tab_eq : am_tab = (am_tb0 ++ (am_tb1 ++ (am_tb2 ++ (am_tb3 ++ (am_tb4 ++ (am_tb5 ++ (am_tb6 ++ am_tb7))))))) := rfl
theorem am_tab_ok : am_okL 0 am_tab := by
  rw [am_tab_eq]
  exact (am_okL_app am_tb0 _ 0 40 rfl am_okb0 (am_okL_app am_tb1 _ 40 80 rfl am_okb1 (am_okL_app am_tb2 _ 80 120 rfl am_okb2 (am_okL_app am_tb3 _ 120 160 rfl am_okb3 (am_okL_app am_tb4 _ 160 200 rfl am_okb4 (am_okL_app am_tb5 _ 200 240 rfl am_okb5 (am_okL_app am_tb6 _ 240 280 rfl am_okb6 am_okb7)))))))
theorem am_lookup_mem : ∀ (l : List (Nat × am_Row)) (k : Nat) (r : am_Row), l.lookup k = some r → (k, r) ∈ l
  | [], _, _, h => by cases h
  | (a, b) :: t, k, r, h => by
    rw [List.lookup_cons] at h
    split at h
    · next e =>
      have e1 : k = a := by simpa using e
      cases h
      rw [e1]
      exact List.mem_cons_self
    · exact List.mem_cons_of_mem _ (am_lookup_mem t k r h)
theorem am_row_ok {mu pc : Nat} {r : am_Row} (h : am_prog mu pc = some r) : am_chk mu (pc, r) = true := by
  unfold am_prog at h
  cases ht : am_tab[mu]? with
  | none => rw [ht] at h; cases h
  | some rs =>
    rw [ht] at h
    have h1 := am_okL_get am_tab 0 mu rs am_tab_ok ht
    rw [Nat.zero_add] at h1
    exact List.all_eq_true.mp h1 _ (am_lookup_mem rs pc r h)
noncomputable def am_mps : List (List Nat) := [[144, 100], [529, 100], [500, 100], [533, 100], [523, 100], [551, 100], [557, 100], [1316, 100], [1424, 100], [1502, 100], [1031, 124], [627, 124], [654, 124], [616, 124], [519, 124], [397, 111], [1320, 111], [1327, 111], [1387, 111], [1391, 111], [1396, 111], [1403, 111], [1407, 111], [1412, 111], [1343, 111], [1357, 111], [1348, 111], [1363, 111], [1368, 111], [1380, 111], [170, 102], [1260, 102], [1248, 102], [1267, 102], [479, 102], [475, 102], [1272, 102], [798, 102], [371, 110], [436, 110], [489, 110], [596, 110], [547, 110], [515, 110], [575, 110], [571, 110], [584, 110], [588, 110], [580, 110], [592, 110], [510, 110], [538, 110], [543, 110], [563, 110], [567, 110], [215, 106], [641, 106], [734, 106], [720, 106], [773, 106], [1206, 125], [485, 125], [794, 125], [802, 125], [407, 112], [600, 112], [604, 112], [610, 112], [623, 112], [635, 112], [716, 112], [726, 112], [730, 112], [738, 112], [742, 112], [777, 112], [782, 112], [807, 112], [815, 112], [819, 112], [830, 112], [839, 112], [844, 112], [663, 122], [1337, 122], [1331, 122], [835, 122], [138, 99], [786, 99], [471, 99], [1182, 99], [811, 99], [1477, 99], [1019, 99], [1027, 99], [1373, 99], [756, 99], [1457, 99], [823, 99], [1497, 99], [650, 99], [752, 99], [646, 99], [980, 99], [659, 99], [1023, 99], [760, 99], [466, 99], [440, 99], [130, 98], [855, 98], [960, 98], [970, 98], [991, 98], [1140, 98], [1153, 98], [1160, 98], [1168, 98], [1178, 98], [1191, 98], [1198, 98], [1256, 98], [1280, 98], [1293, 98], [1301, 98], [1309, 98], [1420, 98], [1431, 98], [1439, 98], [432, 98], [1446, 98], [1453, 98], [1465, 98], [1473, 98], [1485, 98], [1493, 98], [1512, 98], [974, 98], [1144, 98], [995, 98], [1284, 98], [1201, 98], [858, 98], [862, 98], [935, 98], [789, 98], [619, 98], [503, 98], [506, 98], [492, 98], [1312, 98], [1517, 113], [1684, 113], [1702, 113], [1694, 113], [1709, 113], [1719, 113], [1691, 113], [1764, 113], [1752, 113], [1749, 113], [1734, 113], [1854, 113], [1873, 113], [1783, 113], [1972, 113], [1742, 113], [1698, 113], [1727, 113], [1731, 113], [1756, 113], [1811, 113], [1839, 113], [1688, 113], [1712, 113], [1706, 113], [1723, 113], [1716, 113], [1924, 113], [1928, 113], [1932, 113], [1888, 113], [1957, 113], [1949, 113], [1953, 113], [1920, 113], [1940, 113], [1936, 113], [1945, 113], [1916, 113], [1912, 113], [1746, 113], [1738, 113], [1760, 113], [1768, 113], [1776, 113], [1772, 113], [1780, 113], [1791, 113], [1815, 113], [1787, 113], [1795, 113], [1799, 113], [1807, 113], [1803, 113], [1823, 113], [1827, 113], [1819, 113], [1831, 113], [1835, 113], [1858, 113], [1851, 113], [1862, 113], [1847, 113], [1885, 113], [1881, 113], [1870, 113], [1866, 113], [1877, 113], [1843, 113], [1896, 113], [1892, 113], [1900, 113], [1904, 113], [1969, 113], [1961, 113], [1965, 113], [1976, 113], [1988, 113], [1984, 113], [1980, 113], [1992, 113], [2000, 113], [1996, 113], [2008, 113], [2004, 113], [1908, 113], [2012, 113], [2016, 113], [2020, 113], [2024, 113], [2028, 113], [2036, 113], [2032, 113], [2040, 113], [745, 121], [182, 103], [179, 104], [176, 105], [278, 105], [274, 105], [444, 105], [458, 105], [448, 105], [270, 105], [266, 105], [764, 105], [768, 105], [148, 101], [291, 101], [314, 101], [451, 118], [281, 107], [288, 107], [454, 119], [849, 97], [956, 97], [966, 97], [986, 97], [1136, 97], [1149, 97], [1156, 97], [1164, 97], [1174, 97], [1187, 97], [1194, 97], [1252, 97], [1276, 97], [1289, 97], [1297, 97], [1305, 97], [1416, 97], [1427, 97], [1435, 97], [1442, 97], [1449, 97], [1461, 97], [1469, 97], [1481, 97], [1489, 97], [1508, 97], []]
theorem am_mok_all : ((am_M.zip am_mps).take 291).all (fun q => am_mok q.2 q.1) = true := by decide +kernel
theorem am_mok_of {mu : Nat} {q : am_Mt} (h : am_M[mu]? = some q) (hm : mu < 291) : ∃ ps, am_mok ps q = true := by
  have hl : mu < am_mps.length := Nat.lt_of_lt_of_le hm (by decide +kernel)
  refine ⟨am_mps[mu], ?_⟩
  refine List.all_eq_true.mp am_mok_all (q, am_mps[mu]) (List.mem_of_getElem? (i := mu) ?_)
  rw [List.getElem?_take, if_pos hm, List.getElem?_zip_eq_some]
  exact ⟨h, List.getElem?_eq_getElem hl⟩
