/-! rows for the instructions: links, constants, places -/
theorem am_h0 : am_ms[0]? = some am_m0 := rfl
theorem am_h1 : am_ms[1]? = some am_m1 := rfl
theorem am_h2 : am_ms[2]? = some am_m2 := rfl
theorem am_h3 : am_ms[3]? = some am_m3 := rfl
theorem am_h4 : am_ms[4]? = some am_m4 := rfl
theorem am_h5 : am_ms[5]? = some am_m5 := rfl
theorem am_h6 : am_ms[6]? = some am_m6 := rfl
theorem am_h7 : am_ms[7]? = some am_m7 := rfl
theorem am_h8 : am_ms[8]? = some am_m8 := rfl
theorem am_h9 : am_ms[9]? = some am_m9 := rfl
theorem am_h10 : am_ms[10]? = some am_m10 := rfl
theorem am_h11 : am_ms[11]? = some am_m11 := rfl
theorem am_h12 : am_ms[12]? = some am_m12 := rfl
theorem am_h13 : am_ms[13]? = some am_m13 := rfl
theorem am_h14 : am_ms[14]? = some am_m14 := rfl
theorem am_h15 : am_ms[15]? = some am_m15 := rfl
theorem am_h16 : am_ms[16]? = some am_m16 := rfl
theorem am_h17 : am_ms[17]? = some am_m17 := rfl
theorem am_h18 : am_ms[18]? = some am_m18 := rfl
theorem am_h19 : am_ms[19]? = some am_m19 := rfl
theorem am_h20 : am_ms[20]? = some am_m20 := rfl
theorem am_h21 : am_ms[21]? = some am_m21 := rfl
theorem am_h22 : am_ms[22]? = some am_m22 := rfl
theorem am_h23 : am_ms[23]? = some am_m23 := rfl
theorem am_h24 : am_ms[24]? = some am_m24 := rfl
theorem am_h25 : am_ms[25]? = some am_m25 := rfl
theorem am_h26 : am_ms[26]? = some am_m26 := rfl
theorem am_h27 : am_ms[27]? = some am_m27 := rfl
theorem am_h28 : am_ms[28]? = some am_m28 := rfl
theorem am_h29 : am_ms[29]? = some am_m29 := rfl
theorem am_h30 : am_ms[30]? = some am_m30 := rfl
theorem am_h31 : am_ms[31]? = some am_m31 := rfl
theorem am_h32 : am_ms[32]? = some am_m32 := rfl
theorem am_h33 : am_ms[33]? = some am_m33 := rfl
theorem am_h34 : am_ms[34]? = some am_m34 := rfl
theorem am_h35 : am_ms[35]? = some am_m35 := rfl
theorem am_h36 : am_ms[36]? = some am_m36 := rfl
theorem am_h37 : am_ms[37]? = some am_m37 := rfl
theorem am_h38 : am_ms[38]? = some am_m38 := rfl
theorem am_h39 : am_ms[39]? = some am_m39 := rfl
theorem am_h40 : am_ms[40]? = some am_m40 := rfl
theorem am_h41 : am_ms[41]? = some am_m41 := rfl
theorem am_h42 : am_ms[42]? = some am_m42 := rfl
theorem am_h43 : am_ms[43]? = some am_m43 := rfl
theorem am_h44 : am_ms[44]? = some am_m44 := rfl
theorem am_h45 : am_ms[45]? = some am_m45 := rfl
theorem am_h46 : am_ms[46]? = some am_m46 := rfl
theorem am_h47 : am_ms[47]? = some am_m47 := rfl
theorem am_h48 : am_ms[48]? = some am_m48 := rfl
theorem am_h49 : am_ms[49]? = some am_m49 := rfl
theorem am_h50 : am_ms[50]? = some am_m50 := rfl
theorem am_h51 : am_ms[51]? = some am_m51 := rfl
theorem am_h52 : am_ms[52]? = some am_m52 := rfl
theorem am_h53 : am_ms[53]? = some am_m53 := rfl
theorem am_h54 : am_ms[54]? = some am_m54 := rfl
theorem am_h55 : am_ms[55]? = some am_m55 := rfl
theorem am_h56 : am_ms[56]? = some am_m56 := rfl
theorem am_h57 : am_ms[57]? = some am_m57 := rfl
theorem am_h58 : am_ms[58]? = some am_m58 := rfl
theorem am_h59 : am_ms[59]? = some am_m59 := rfl
theorem am_h60 : am_ms[60]? = some am_m60 := rfl
theorem am_h61 : am_ms[61]? = some am_m61 := rfl
theorem am_h62 : am_ms[62]? = some am_m62 := rfl
theorem am_h63 : am_ms[63]? = some am_m63 := rfl
theorem am_h64 : am_ms[64]? = some am_m64 := rfl
theorem am_h65 : am_ms[65]? = some am_m65 := rfl
theorem am_h66 : am_ms[66]? = some am_m66 := rfl
theorem am_h67 : am_ms[67]? = some am_m67 := rfl
theorem am_h68 : am_ms[68]? = some am_m68 := rfl
theorem am_h69 : am_ms[69]? = some am_m69 := rfl
theorem am_h70 : am_ms[70]? = some am_m70 := rfl
theorem am_h71 : am_ms[71]? = some am_m71 := rfl
theorem am_h72 : am_ms[72]? = some am_m72 := rfl
theorem am_h73 : am_ms[73]? = some am_m73 := rfl
theorem am_h74 : am_ms[74]? = some am_m74 := rfl
theorem am_h75 : am_ms[75]? = some am_m75 := rfl
theorem am_h76 : am_ms[76]? = some am_m76 := rfl
theorem am_h77 : am_ms[77]? = some am_m77 := rfl
theorem am_h78 : am_ms[78]? = some am_m78 := rfl
theorem am_h79 : am_ms[79]? = some am_m79 := rfl
theorem am_h80 : am_ms[80]? = some am_m80 := rfl
theorem am_h81 : am_ms[81]? = some am_m81 := rfl
theorem am_h82 : am_ms[82]? = some am_m82 := rfl
theorem am_h83 : am_ms[83]? = some am_m83 := rfl
theorem am_h84 : am_ms[84]? = some am_m84 := rfl
theorem am_h85 : am_ms[85]? = some am_m85 := rfl
theorem am_h86 : am_ms[86]? = some am_m86 := rfl
theorem am_h87 : am_ms[87]? = some am_m87 := rfl
theorem am_h88 : am_ms[88]? = some am_m88 := rfl
theorem am_h89 : am_ms[89]? = some am_m89 := rfl
theorem am_h90 : am_ms[90]? = some am_m90 := rfl
theorem am_h91 : am_ms[91]? = some am_m91 := rfl
theorem am_h92 : am_ms[92]? = some am_m92 := rfl
theorem am_h93 : am_ms[93]? = some am_m93 := rfl
theorem am_h94 : am_ms[94]? = some am_m94 := rfl
theorem am_h95 : am_ms[95]? = some am_m95 := rfl
theorem am_h96 : am_ms[96]? = some am_m96 := rfl
theorem am_h97 : am_ms[97]? = some am_m97 := rfl
theorem am_h98 : am_ms[98]? = some am_m98 := rfl
theorem am_h99 : am_ms[99]? = some am_m99 := rfl
theorem am_h100 : am_ms[100]? = some am_m100 := rfl
theorem am_h101 : am_ms[101]? = some am_m101 := rfl
theorem am_h102 : am_ms[102]? = some am_m102 := rfl
theorem am_h103 : am_ms[103]? = some am_m103 := rfl
theorem am_h104 : am_ms[104]? = some am_m104 := rfl
theorem am_h105 : am_ms[105]? = some am_m105 := rfl
theorem am_h106 : am_ms[106]? = some am_m106 := rfl
theorem am_h107 : am_ms[107]? = some am_m107 := rfl
theorem am_h108 : am_ms[108]? = some am_m108 := rfl
theorem am_h109 : am_ms[109]? = some am_m109 := rfl
theorem am_h110 : am_ms[110]? = some am_m110 := rfl
theorem am_h111 : am_ms[111]? = some am_m111 := rfl
theorem am_h112 : am_ms[112]? = some am_m112 := rfl
theorem am_h113 : am_ms[113]? = some am_m113 := rfl
theorem am_h114 : am_ms[114]? = some am_m114 := rfl
theorem am_h115 : am_ms[115]? = some am_m115 := rfl
theorem am_h116 : am_ms[116]? = some am_m116 := rfl
theorem am_h117 : am_ms[117]? = some am_m117 := rfl
theorem am_h118 : am_ms[118]? = some am_m118 := rfl
theorem am_h119 : am_ms[119]? = some am_m119 := rfl
theorem am_h120 : am_ms[120]? = some am_m120 := rfl
theorem am_h121 : am_ms[121]? = some am_m121 := rfl
theorem am_h122 : am_ms[122]? = some am_m122 := rfl
theorem am_h123 : am_ms[123]? = some am_m123 := rfl
theorem am_h124 : am_ms[124]? = some am_m124 := rfl
theorem am_h125 : am_ms[125]? = some am_m125 := rfl
theorem am_h126 : am_ms[126]? = some am_m126 := rfl
theorem am_h127 : am_ms[127]? = some am_m127 := rfl
theorem am_h128 : am_ms[128]? = some am_m128 := rfl
theorem am_h129 : am_ms[129]? = some am_m129 := rfl
theorem am_h130 : am_ms[130]? = some am_m130 := rfl
theorem am_h131 : am_ms[131]? = some am_m131 := rfl
theorem am_h132 : am_ms[132]? = some am_m132 := rfl
theorem am_h133 : am_ms[133]? = some am_m133 := rfl
theorem am_h134 : am_ms[134]? = some am_m134 := rfl
theorem am_h135 : am_ms[135]? = some am_m135 := rfl
theorem am_h136 : am_ms[136]? = some am_m136 := rfl
theorem am_h137 : am_ms[137]? = some am_m137 := rfl
theorem am_h138 : am_ms[138]? = some am_m138 := rfl
theorem am_h139 : am_ms[139]? = some am_m139 := rfl
theorem am_h140 : am_ms[140]? = some am_m140 := rfl
theorem am_h141 : am_ms[141]? = some am_m141 := rfl
theorem am_h142 : am_ms[142]? = some am_m142 := rfl
theorem am_h143 : am_ms[143]? = some am_m143 := rfl
theorem am_h144 : am_ms[144]? = some am_m144 := rfl
theorem am_h145 : am_ms[145]? = some am_m145 := rfl
theorem am_h146 : am_ms[146]? = some am_m146 := rfl
theorem am_h147 : am_ms[147]? = some am_m147 := rfl
theorem am_h148 : am_ms[148]? = some am_m148 := rfl
theorem am_h149 : am_ms[149]? = some am_m149 := rfl
theorem am_h150 : am_ms[150]? = some am_m150 := rfl
theorem am_h151 : am_ms[151]? = some am_m151 := rfl
theorem am_h152 : am_ms[152]? = some am_m152 := rfl
theorem am_h153 : am_ms[153]? = some am_m153 := rfl
theorem am_h154 : am_ms[154]? = some am_m154 := rfl
theorem am_h155 : am_ms[155]? = some am_m155 := rfl
theorem am_h156 : am_ms[156]? = some am_m156 := rfl
theorem am_h157 : am_ms[157]? = some am_m157 := rfl
theorem am_h158 : am_ms[158]? = some am_m158 := rfl
theorem am_h159 : am_ms[159]? = some am_m159 := rfl
theorem am_h160 : am_ms[160]? = some am_m160 := rfl
theorem am_h161 : am_ms[161]? = some am_m161 := rfl
theorem am_h162 : am_ms[162]? = some am_m162 := rfl
theorem am_h163 : am_ms[163]? = some am_m163 := rfl
theorem am_h164 : am_ms[164]? = some am_m164 := rfl
theorem am_h165 : am_ms[165]? = some am_m165 := rfl
theorem am_h166 : am_ms[166]? = some am_m166 := rfl
theorem am_h167 : am_ms[167]? = some am_m167 := rfl
theorem am_h168 : am_ms[168]? = some am_m168 := rfl
theorem am_h169 : am_ms[169]? = some am_m169 := rfl
theorem am_h170 : am_ms[170]? = some am_m170 := rfl
theorem fl_0_9 : am_fl 0 9 = some (0, 0) := by decide +kernel
theorem fl_0_15 : am_fl 0 15 = some (0, 1) := by decide +kernel
theorem fl_0_18 : am_fl 0 18 = some (0, 2) := by decide +kernel
theorem fl_0_21 : am_fl 0 21 = some (0, 3) := by decide +kernel
theorem fl_0_30 : am_fl 0 30 = some (0, 4) := by decide +kernel
theorem fl_0_34 : am_fl 0 34 = some (3, 0) := by decide +kernel
theorem fl_0_39 : am_fl 0 39 = some (3, 2) := by decide +kernel
theorem fl_0_42 : am_fl 0 42 = some (3, 3) := by decide +kernel
theorem fl_0_45 : am_fl 0 45 = some (3, 4) := by decide +kernel
theorem fl_1_9 : am_fl 1 9 = some (1, 0) := by decide +kernel
theorem fl_1_15 : am_fl 1 15 = some (1, 1) := by decide +kernel
theorem fl_1_18 : am_fl 1 18 = some (1, 2) := by decide +kernel
theorem fl_1_27 : am_fl 1 27 = some (1, 3) := by decide +kernel
theorem fl_2_9 : am_fl 2 9 = some (2, 0) := by decide +kernel
theorem fl_2_15 : am_fl 2 15 = some (2, 1) := by decide +kernel
theorem fl_2_24 : am_fl 2 24 = some (2, 2) := by decide +kernel
theorem fl_3_9 : am_fl 3 9 = some (3, 0) := by decide +kernel
theorem fl_3_15 : am_fl 3 15 = some (3, 1) := by decide +kernel
theorem fl_3_18 : am_fl 3 18 = some (3, 2) := by decide +kernel
theorem fl_3_21 : am_fl 3 21 = some (3, 3) := by decide +kernel
theorem fl_3_24 : am_fl 3 24 = some (3, 4) := by decide +kernel
theorem fl_4_9 : am_fl 4 9 = some (4, 0) := by decide +kernel
theorem fl_4_15 : am_fl 4 15 = some (4, 1) := by decide +kernel
theorem fl_4_18 : am_fl 4 18 = some (4, 2) := by decide +kernel
theorem fl_5_12 : am_fl 5 12 = some (5, 0) := by decide +kernel
theorem fl_5_21 : am_fl 5 21 = some (5, 1) := by decide +kernel
theorem fl_5_28 : am_fl 5 28 = some (5, 2) := by decide +kernel
theorem fl_5_35 : am_fl 5 35 = some (5, 3) := by decide +kernel
theorem fl_5_39 : am_fl 5 39 = some (5, 4) := by decide +kernel
theorem fl_5_43 : am_fl 5 43 = some (5, 5) := by decide +kernel
theorem fl_5_47 : am_fl 5 47 = some (5, 6) := by decide +kernel
theorem fl_5_50 : am_fl 5 50 = some (5, 8) := by decide +kernel
theorem fl_5_72 : am_fl 5 72 = some (3, 2) := by decide +kernel
theorem fl_5_75 : am_fl 5 75 = some (3, 3) := by decide +kernel
theorem fl_5_78 : am_fl 5 78 = some (3, 0) := by decide +kernel
theorem fl_5_81 : am_fl 5 81 = some (3, 1) := by decide +kernel
theorem fl_5_84 : am_fl 5 84 = some (1, 1) := by decide +kernel
theorem fl_5_87 : am_fl 5 87 = some (1, 2) := by decide +kernel
theorem fl_5_94 : am_fl 5 94 = some (1, 0) := by decide +kernel
theorem fl_5_107 : am_fl 5 107 = some (5, 7) := by decide +kernel
theorem fl_5_114 : am_fl 5 114 = some (1, 3) := by decide +kernel
theorem fl_5_134 : am_fl 5 134 = some (2, 2) := by decide +kernel
theorem fl_5_135 : am_fl 5 135 = some (2, 0) := by decide +kernel
theorem fl_5_138 : am_fl 5 138 = some (2, 1) := by decide +kernel
theorem fl_6_9 : am_fl 6 9 = some (6, 0) := by decide +kernel
theorem fl_6_21 : am_fl 6 21 = some (6, 1) := by decide +kernel
theorem fl_6_44 : am_fl 6 44 = some (6, 2) := by decide +kernel
theorem fl_6_47 : am_fl 6 47 = some (6, 3) := by decide +kernel
theorem fl_6_58 : am_fl 6 58 = some (3, 0) := by decide +kernel
theorem fl_6_66 : am_fl 6 66 = some (3, 2) := by decide +kernel
theorem fl_6_73 : am_fl 6 73 = some (3, 3) := by decide +kernel
theorem fl_6_76 : am_fl 6 76 = some (3, 4) := by decide +kernel
theorem fl_6_79 : am_fl 6 79 = some (3, 1) := by decide +kernel
theorem fl_7_12 : am_fl 7 12 = some (7, 0) := by decide +kernel
theorem fl_7_22 : am_fl 7 22 = some (5, 0) := by decide +kernel
theorem fl_7_26 : am_fl 7 26 = some (3, 1) := by decide +kernel
theorem fl_7_40 : am_fl 7 40 = some (5, 2) := by decide +kernel
theorem fl_7_54 : am_fl 7 54 = some (0, 4) := by decide +kernel
theorem fl_7_65 : am_fl 7 65 = some (5, 1) := by decide +kernel
theorem fl_7_74 : am_fl 7 74 = some (5, 4) := by decide +kernel
theorem fl_8_10 : am_fl 8 10 = some (8, 0) := by decide +kernel
theorem fl_8_16 : am_fl 8 16 = some (8, 1) := by decide +kernel
theorem fl_8_22 : am_fl 8 22 = some (8, 3) := by decide +kernel
theorem fl_8_29 : am_fl 8 29 = some (8, 4) := by decide +kernel
theorem fl_8_36 : am_fl 8 36 = some (8, 5) := by decide +kernel
theorem fl_8_44 : am_fl 8 44 = some (5, 0) := by decide +kernel
theorem fl_8_48 : am_fl 8 48 = some (3, 0) := by decide +kernel
theorem fl_8_54 : am_fl 8 54 = some (3, 1) := by decide +kernel
theorem fl_8_61 : am_fl 8 61 = some (3, 4) := by decide +kernel
theorem fl_8_64 : am_fl 8 64 = some (3, 2) := by decide +kernel
theorem fl_8_67 : am_fl 8 67 = some (3, 3) := by decide +kernel
theorem fl_8_70 : am_fl 8 70 = some (5, 5) := by decide +kernel
theorem fl_8_77 : am_fl 8 77 = some (5, 4) := by decide +kernel
theorem fl_8_80 : am_fl 8 80 = some (5, 1) := by decide +kernel
theorem fl_8_90 : am_fl 8 90 = some (1, 3) := by decide +kernel
theorem fl_8_97 : am_fl 8 97 = some (1, 1) := by decide +kernel
theorem fl_8_100 : am_fl 8 100 = some (1, 2) := by decide +kernel
theorem fl_8_103 : am_fl 8 103 = some (1, 0) := by decide +kernel
theorem fl_8_118 : am_fl 8 118 = some (6, 1) := by decide +kernel
theorem fl_8_125 : am_fl 8 125 = some (7, 0) := by decide +kernel
theorem fl_8_147 : am_fl 8 147 = some (5, 2) := by decide +kernel
theorem fl_8_151 : am_fl 8 151 = some (0, 4) := by decide +kernel
theorem fl_8_154 : am_fl 8 154 = some (5, 3) := by decide +kernel
theorem fl_8_158 : am_fl 8 158 = some (2, 2) := by decide +kernel
theorem fl_8_168 : am_fl 8 168 = some (5, 6) := by decide +kernel
theorem fl_8_178 : am_fl 8 178 = some (5, 7) := by decide +kernel
theorem fl_8_181 : am_fl 8 181 = some (5, 8) := by decide +kernel
theorem fl_8_245 : am_fl 8 245 = some (8, 2) := by decide +kernel
theorem fl_8_269 : am_fl 8 269 = some (4, 0) := by decide +kernel
theorem fl_8_272 : am_fl 8 272 = some (4, 1) := by decide +kernel
theorem fl_9_7 : am_fl 9 7 = some (9, 0) := by decide +kernel
theorem fl_9_13 : am_fl 9 13 = some (9, 1) := by decide +kernel
theorem fl_9_16 : am_fl 9 16 = some (9, 2) := by decide +kernel
theorem fl_9_19 : am_fl 9 19 = some (9, 3) := by decide +kernel
theorem fl_9_22 : am_fl 9 22 = some (9, 4) := by decide +kernel
theorem fl_9_25 : am_fl 9 25 = some (9, 6) := by decide +kernel
theorem fl_9_28 : am_fl 9 28 = some (9, 8) := by decide +kernel
theorem fl_9_31 : am_fl 9 31 = some (9, 9) := by decide +kernel
theorem fl_9_34 : am_fl 9 34 = some (9, 13) := by decide +kernel
theorem fl_9_37 : am_fl 9 37 = some (9, 17) := by decide +kernel
theorem fl_9_40 : am_fl 9 40 = some (9, 18) := by decide +kernel
theorem fl_9_43 : am_fl 9 43 = some (9, 20) := by decide +kernel
theorem fl_9_46 : am_fl 9 46 = some (9, 21) := by decide +kernel
theorem fl_9_49 : am_fl 9 49 = some (9, 22) := by decide +kernel
theorem fl_9_52 : am_fl 9 52 = some (9, 24) := by decide +kernel
theorem fl_9_55 : am_fl 9 55 = some (9, 25) := by decide +kernel
theorem fl_9_58 : am_fl 9 58 = some (9, 26) := by decide +kernel
theorem fl_9_61 : am_fl 9 61 = some (9, 27) := by decide +kernel
theorem fl_9_64 : am_fl 9 64 = some (9, 5) := by decide +kernel
theorem fl_9_76 : am_fl 9 76 = some (9, 7) := by decide +kernel
theorem fl_9_119 : am_fl 9 119 = some (9, 10) := by decide +kernel
theorem fl_9_122 : am_fl 9 122 = some (9, 11) := by decide +kernel
theorem fl_9_125 : am_fl 9 125 = some (9, 12) := by decide +kernel
theorem fl_9_163 : am_fl 9 163 = some (9, 16) := by decide +kernel
theorem fl_9_166 : am_fl 9 166 = some (9, 19) := by decide +kernel
theorem fl_9_177 : am_fl 9 177 = some (9, 14) := by decide +kernel
theorem fl_9_183 : am_fl 9 183 = some (9, 15) := by decide +kernel
theorem fl_9_222 : am_fl 9 222 = some (9, 23) := by decide +kernel
theorem ml_0_3 : am_ml 0 3 = some (6, 0) := by decide +kernel
theorem ml_0_24 : am_ml 0 24 = some (9, 0) := by decide +kernel
theorem ml_1_3 : am_ml 1 3 = some (6, 0) := by decide +kernel
theorem ml_1_21 : am_ml 1 21 = some (9, 0) := by decide +kernel
theorem ml_2_3 : am_ml 2 3 = some (6, 0) := by decide +kernel
theorem ml_2_18 : am_ml 2 18 = some (9, 0) := by decide +kernel
theorem ml_3_3 : am_ml 3 3 = some (6, 0) := by decide +kernel
theorem ml_3_27 : am_ml 3 27 = some (9, 0) := by decide +kernel
theorem ml_3_33 : am_ml 3 33 = some (8, 0) := by decide +kernel
theorem ml_3_39 : am_ml 3 39 = some (7, 0) := by decide +kernel
theorem ml_4_3 : am_ml 4 3 = some (6, 0) := by decide +kernel
theorem ml_4_21 : am_ml 4 21 = some (0, 19) := by decide +kernel
theorem ml_4_25 : am_ml 4 25 = some (9, 0) := by decide +kernel
theorem ml_4_31 : am_ml 4 31 = some (0, 23) := by decide +kernel
theorem ml_4_35 : am_ml 4 35 = some (1, 97) := by decide +kernel
theorem ml_5_3 : am_ml 5 3 = some (6, 0) := by decide +kernel
theorem ml_5_11 : am_ml 5 11 = some (1, 14) := by decide +kernel
theorem ml_5_20 : am_ml 5 20 = some (1, 5) := by decide +kernel
theorem ml_5_27 : am_ml 5 27 = some (1, 0) := by decide +kernel
theorem ml_5_34 : am_ml 5 34 = some (1, 11) := by decide +kernel
theorem ml_5_53 : am_ml 5 53 = some (0, 15) := by decide +kernel
theorem ml_5_57 : am_ml 5 57 = some (0, 6) := by decide +kernel
theorem ml_5_60 : am_ml 5 60 = some (0, 1) := by decide +kernel
theorem ml_5_63 : am_ml 5 63 = some (0, 12) := by decide +kernel
theorem ml_5_66 : am_ml 5 66 = some (9, 0) := by decide +kernel
theorem ml_5_90 : am_ml 5 90 = some (0, 29) := by decide +kernel
theorem ml_5_97 : am_ml 5 97 = some (7, 0) := by decide +kernel
theorem ml_5_103 : am_ml 5 103 = some (1, 103) := by decide +kernel
theorem ml_5_110 : am_ml 5 110 = some (0, 16) := by decide +kernel
theorem ml_5_117 : am_ml 5 117 = some (0, 30) := by decide +kernel
theorem ml_5_120 : am_ml 5 120 = some (1, 101) := by decide +kernel
theorem ml_5_123 : am_ml 5 123 = some (0, 31) := by decide +kernel
theorem ml_5_126 : am_ml 5 126 = some (0, 17) := by decide +kernel
theorem ml_5_130 : am_ml 5 130 = some (0, 34) := by decide +kernel
theorem ml_6_3 : am_ml 6 3 = some (6, 0) := by decide +kernel
theorem ml_6_15 : am_ml 6 15 = some (0, 39) := by decide +kernel
theorem ml_6_25 : am_ml 6 25 = some (0, 43) := by decide +kernel
theorem ml_6_28 : am_ml 6 28 = some (0, 45) := by decide +kernel
theorem ml_6_32 : am_ml 6 32 = some (0, 49) := by decide +kernel
theorem ml_6_36 : am_ml 6 36 = some (0, 44) := by decide +kernel
theorem ml_6_40 : am_ml 6 40 = some (0, 46) := by decide +kernel
theorem ml_6_51 : am_ml 6 51 = some (0, 48) := by decide +kernel
theorem ml_6_55 : am_ml 6 55 = some (0, 51) := by decide +kernel
theorem ml_6_63 : am_ml 6 63 = some (0, 47) := by decide +kernel
theorem ml_6_69 : am_ml 6 69 = some (0, 50) := by decide +kernel
theorem ml_6_82 : am_ml 6 82 = some (0, 7) := by decide +kernel
theorem ml_6_92 : am_ml 6 92 = some (0, 8) := by decide +kernel
theorem ml_6_96 : am_ml 6 96 = some (8, 0) := by decide +kernel
theorem ml_7_3 : am_ml 7 3 = some (6, 0) := by decide +kernel
theorem ml_7_11 : am_ml 7 11 = some (1, 27) := by decide +kernel
theorem ml_7_18 : am_ml 7 18 = some (0, 28) := by decide +kernel
theorem ml_7_32 : am_ml 7 32 = some (0, 31) := by decide +kernel
theorem ml_7_36 : am_ml 7 36 = some (0, 53) := by decide +kernel
theorem ml_7_44 : am_ml 7 44 = some (0, 4) := by decide +kernel
theorem ml_7_50 : am_ml 7 50 = some (0, 32) := by decide +kernel
theorem ml_7_58 : am_ml 7 58 = some (0, 3) := by decide +kernel
theorem ml_7_61 : am_ml 7 61 = some (0, 55) := by decide +kernel
theorem ml_7_69 : am_ml 7 69 = some (0, 10) := by decide +kernel
theorem ml_7_77 : am_ml 7 77 = some (0, 36) := by decide +kernel
theorem ml_7_81 : am_ml 7 81 = some (0, 58) := by decide +kernel
theorem ml_8_1 : am_ml 8 1 = some (6, 0) := by decide +kernel
theorem ml_8_9 : am_ml 8 9 = some (1, 27) := by decide +kernel
theorem ml_8_21 : am_ml 8 21 = some (1, 52) := by decide +kernel
theorem ml_8_28 : am_ml 8 28 = some (1, 37) := by decide +kernel
theorem ml_8_35 : am_ml 8 35 = some (1, 18) := by decide +kernel
theorem ml_8_40 : am_ml 8 40 = some (0, 97) := by decide +kernel
theorem ml_8_57 : am_ml 8 57 = some (0, 99) := by decide +kernel
theorem ml_8_84 : am_ml 8 84 = some (0, 7) := by decide +kernel
theorem ml_8_93 : am_ml 8 93 = some (0, 8) := by decide +kernel
theorem ml_8_106 : am_ml 8 106 = some (0, 16) := by decide +kernel
theorem ml_8_110 : am_ml 8 110 = some (0, 9) := by decide +kernel
theorem ml_8_114 : am_ml 8 114 = some (0, 38) := by decide +kernel
theorem ml_8_121 : am_ml 8 121 = some (0, 40) := by decide +kernel
theorem ml_8_128 : am_ml 8 128 = some (0, 15) := by decide +kernel
theorem ml_8_132 : am_ml 8 132 = some (0, 41) := by decide +kernel
theorem ml_8_136 : am_ml 8 136 = some (0, 6) := by decide +kernel
theorem ml_8_139 : am_ml 8 139 = some (0, 42) := by decide +kernel
theorem ml_8_143 : am_ml 8 143 = some (0, 100) := by decide +kernel
theorem ml_8_161 : am_ml 8 161 = some (0, 98) := by decide +kernel
theorem ml_8_164 : am_ml 8 164 = some (0, 29) := by decide +kernel
theorem ml_8_171 : am_ml 8 171 = some (0, 103) := by decide +kernel
theorem ml_8_175 : am_ml 8 175 = some (0, 30) := by decide +kernel
theorem ml_8_184 : am_ml 8 184 = some (0, 102) := by decide +kernel
theorem ml_8_188 : am_ml 8 188 = some (0, 32) := by decide +kernel
theorem ml_8_192 : am_ml 8 192 = some (0, 31) := by decide +kernel
theorem ml_8_195 : am_ml 8 195 = some (0, 54) := by decide +kernel
theorem ml_8_199 : am_ml 8 199 = some (0, 53) := by decide +kernel
theorem ml_8_203 : am_ml 8 203 = some (0, 2) := by decide +kernel
theorem ml_8_207 : am_ml 8 207 = some (0, 55) := by decide +kernel
theorem ml_8_210 : am_ml 8 210 = some (0, 56) := by decide +kernel
theorem ml_8_213 : am_ml 8 213 = some (0, 3) := by decide +kernel
theorem ml_8_216 : am_ml 8 216 = some (0, 33) := by decide +kernel
theorem ml_8_220 : am_ml 8 220 = some (0, 57) := by decide +kernel
theorem ml_8_224 : am_ml 8 224 = some (0, 35) := by decide +kernel
theorem ml_8_228 : am_ml 8 228 = some (0, 34) := by decide +kernel
theorem ml_8_231 : am_ml 8 231 = some (0, 13) := by decide +kernel
theorem ml_8_233 : am_ml 8 233 = some (0, 59) := by decide +kernel
theorem ml_8_236 : am_ml 8 236 = some (0, 58) := by decide +kernel
theorem ml_8_239 : am_ml 8 239 = some (0, 101) := by decide +kernel
theorem ml_8_242 : am_ml 8 242 = some (0, 28) := by decide +kernel
theorem ml_8_249 : am_ml 8 249 = some (0, 20) := by decide +kernel
theorem ml_8_252 : am_ml 8 252 = some (0, 21) := by decide +kernel
theorem ml_8_255 : am_ml 8 255 = some (0, 26) := by decide +kernel
theorem ml_8_259 : am_ml 8 259 = some (0, 23) := by decide +kernel
theorem ml_8_262 : am_ml 8 262 = some (0, 22) := by decide +kernel
theorem ml_8_266 : am_ml 8 266 = some (0, 19) := by decide +kernel
theorem ml_8_275 : am_ml 8 275 = some (0, 24) := by decide +kernel
theorem ml_8_277 : am_ml 8 277 = some (0, 25) := by decide +kernel
theorem ml_9_1 : am_ml 9 1 = some (6, 0) := by decide +kernel
theorem ml_9_70 : am_ml 9 70 = some (0, 104) := by decide +kernel
theorem ml_9_79 : am_ml 9 79 = some (0, 106) := by decide +kernel
theorem ml_9_83 : am_ml 9 83 = some (0, 107) := by decide +kernel
theorem ml_9_98 : am_ml 9 98 = some (0, 113) := by decide +kernel
theorem ml_9_101 : am_ml 9 101 = some (0, 114) := by decide +kernel
theorem ml_9_105 : am_ml 9 105 = some (0, 108) := by decide +kernel
theorem ml_9_108 : am_ml 9 108 = some (0, 133) := by decide +kernel
theorem ml_9_129 : am_ml 9 129 = some (0, 120) := by decide +kernel
theorem ml_9_137 : am_ml 9 137 = some (0, 123) := by decide +kernel
theorem ml_9_140 : am_ml 9 140 = some (0, 122) := by decide +kernel
theorem ml_9_144 : am_ml 9 144 = some (0, 121) := by decide +kernel
theorem ml_9_147 : am_ml 9 147 = some (0, 124) := by decide +kernel
theorem ml_9_150 : am_ml 9 150 = some (0, 125) := by decide +kernel
theorem ml_9_154 : am_ml 9 154 = some (0, 126) := by decide +kernel
theorem ml_9_157 : am_ml 9 157 = some (0, 127) := by decide +kernel
theorem ml_9_169 : am_ml 9 169 = some (0, 131) := by decide +kernel
theorem ml_9_173 : am_ml 9 173 = some (0, 135) := by decide +kernel
theorem ml_9_186 : am_ml 9 186 = some (0, 137) := by decide +kernel
theorem ml_9_192 : am_ml 9 192 = some (0, 139) := by decide +kernel
theorem ml_9_195 : am_ml 9 195 = some (0, 140) := by decide +kernel
theorem ml_9_201 : am_ml 9 201 = some (0, 144) := by decide +kernel
theorem ml_9_208 : am_ml 9 208 = some (0, 150) := by decide +kernel
theorem ml_9_211 : am_ml 9 211 = some (0, 152) := by decide +kernel
theorem ml_9_215 : am_ml 9 215 = some (0, 155) := by decide +kernel
theorem ml_9_218 : am_ml 9 218 = some (0, 158) := by decide +kernel
theorem ml_9_225 : am_ml 9 225 = some (0, 159) := by decide +kernel
theorem ml_9_229 : am_ml 9 229 = some (0, 162) := by decide +kernel
theorem ml_9_232 : am_ml 9 232 = some (0, 163) := by decide +kernel
theorem ml_9_237 : am_ml 9 237 = some (0, 164) := by decide +kernel
theorem ml_10_9 : am_ml 10 9 = some (0, 60) := by decide +kernel
theorem ml_10_12 : am_ml 10 12 = some (0, 105) := by decide +kernel
theorem ml_10_13 : am_ml 10 13 = some (0, 61) := by decide +kernel
theorem ml_10_17 : am_ml 10 17 = some (0, 109) := by decide +kernel
theorem ml_10_18 : am_ml 10 18 = some (0, 62) := by decide +kernel
theorem ml_10_22 : am_ml 10 22 = some (0, 110) := by decide +kernel
theorem ml_10_23 : am_ml 10 23 = some (0, 63) := by decide +kernel
theorem ml_10_27 : am_ml 10 27 = some (0, 111) := by decide +kernel
theorem ml_10_28 : am_ml 10 28 = some (0, 64) := by decide +kernel
theorem ml_10_32 : am_ml 10 32 = some (0, 112) := by decide +kernel
theorem ml_10_33 : am_ml 10 33 = some (0, 65) := by decide +kernel
theorem ml_10_36 : am_ml 10 36 = some (0, 115) := by decide +kernel
theorem ml_10_37 : am_ml 10 37 = some (0, 66) := by decide +kernel
theorem ml_10_40 : am_ml 10 40 = some (0, 116) := by decide +kernel
theorem ml_10_41 : am_ml 10 41 = some (0, 67) := by decide +kernel
theorem ml_10_44 : am_ml 10 44 = some (0, 117) := by decide +kernel
theorem ml_10_45 : am_ml 10 45 = some (0, 68) := by decide +kernel
theorem ml_10_48 : am_ml 10 48 = some (0, 118) := by decide +kernel
theorem ml_10_51 : am_ml 10 51 = some (0, 69) := by decide +kernel
theorem ml_10_55 : am_ml 10 55 = some (0, 119) := by decide +kernel
theorem ml_10_56 : am_ml 10 56 = some (0, 70) := by decide +kernel
theorem ml_10_60 : am_ml 10 60 = some (0, 128) := by decide +kernel
theorem ml_10_61 : am_ml 10 61 = some (0, 71) := by decide +kernel
theorem ml_10_64 : am_ml 10 64 = some (0, 129) := by decide +kernel
theorem ml_10_65 : am_ml 10 65 = some (0, 72) := by decide +kernel
theorem ml_10_68 : am_ml 10 68 = some (0, 130) := by decide +kernel
theorem ml_10_69 : am_ml 10 69 = some (0, 73) := by decide +kernel
theorem ml_10_72 : am_ml 10 72 = some (0, 132) := by decide +kernel
theorem ml_10_73 : am_ml 10 73 = some (0, 74) := by decide +kernel
theorem ml_10_76 : am_ml 10 76 = some (0, 134) := by decide +kernel
theorem ml_10_77 : am_ml 10 77 = some (0, 75) := by decide +kernel
theorem ml_10_80 : am_ml 10 80 = some (0, 136) := by decide +kernel
theorem ml_10_81 : am_ml 10 81 = some (0, 76) := by decide +kernel
theorem ml_10_84 : am_ml 10 84 = some (0, 138) := by decide +kernel
theorem ml_10_85 : am_ml 10 85 = some (0, 77) := by decide +kernel
theorem ml_10_88 : am_ml 10 88 = some (0, 141) := by decide +kernel
theorem ml_10_89 : am_ml 10 89 = some (0, 78) := by decide +kernel
theorem ml_10_92 : am_ml 10 92 = some (0, 142) := by decide +kernel
theorem ml_10_93 : am_ml 10 93 = some (0, 79) := by decide +kernel
theorem ml_10_96 : am_ml 10 96 = some (0, 143) := by decide +kernel
theorem ml_10_97 : am_ml 10 97 = some (0, 80) := by decide +kernel
theorem ml_10_100 : am_ml 10 100 = some (0, 145) := by decide +kernel
theorem ml_10_101 : am_ml 10 101 = some (0, 81) := by decide +kernel
theorem ml_10_104 : am_ml 10 104 = some (0, 146) := by decide +kernel
theorem ml_10_105 : am_ml 10 105 = some (0, 82) := by decide +kernel
theorem ml_10_108 : am_ml 10 108 = some (0, 147) := by decide +kernel
theorem ml_10_109 : am_ml 10 109 = some (0, 83) := by decide +kernel
theorem ml_10_112 : am_ml 10 112 = some (0, 148) := by decide +kernel
theorem ml_10_113 : am_ml 10 113 = some (0, 84) := by decide +kernel
theorem ml_10_116 : am_ml 10 116 = some (0, 149) := by decide +kernel
theorem ml_10_117 : am_ml 10 117 = some (0, 85) := by decide +kernel
theorem ml_10_120 : am_ml 10 120 = some (0, 151) := by decide +kernel
theorem ml_10_121 : am_ml 10 121 = some (0, 86) := by decide +kernel
theorem ml_10_124 : am_ml 10 124 = some (0, 153) := by decide +kernel
theorem ml_10_125 : am_ml 10 125 = some (0, 87) := by decide +kernel
theorem ml_10_128 : am_ml 10 128 = some (0, 154) := by decide +kernel
theorem ml_10_129 : am_ml 10 129 = some (0, 88) := by decide +kernel
theorem ml_10_132 : am_ml 10 132 = some (0, 156) := by decide +kernel
theorem ml_10_133 : am_ml 10 133 = some (0, 89) := by decide +kernel
theorem ml_10_136 : am_ml 10 136 = some (0, 157) := by decide +kernel
theorem ml_10_137 : am_ml 10 137 = some (0, 90) := by decide +kernel
theorem ml_10_140 : am_ml 10 140 = some (0, 160) := by decide +kernel
theorem ml_10_141 : am_ml 10 141 = some (0, 91) := by decide +kernel
theorem ml_10_144 : am_ml 10 144 = some (0, 161) := by decide +kernel
theorem ml_10_145 : am_ml 10 145 = some (0, 92) := by decide +kernel
theorem ml_10_149 : am_ml 10 149 = some (0, 165) := by decide +kernel
theorem ml_10_150 : am_ml 10 150 = some (0, 93) := by decide +kernel
theorem ml_10_153 : am_ml 10 153 = some (0, 166) := by decide +kernel
theorem ml_10_154 : am_ml 10 154 = some (0, 94) := by decide +kernel
theorem ml_10_157 : am_ml 10 157 = some (0, 167) := by decide +kernel
theorem ml_10_158 : am_ml 10 158 = some (0, 95) := by decide +kernel
theorem ml_10_161 : am_ml 10 161 = some (0, 168) := by decide +kernel
theorem ml_10_162 : am_ml 10 162 = some (0, 96) := by decide +kernel
theorem ml_10_165 : am_ml 10 165 = some (0, 169) := by decide +kernel
theorem c_bipush_m20 : (Int8.ofInt (-20)).toInt32 = (-20 : Int32) := by decide +kernel
theorem c_bipush_m14 : (Int8.ofInt (-14)).toInt32 = (-14 : Int32) := by decide +kernel
theorem c_bipush_m13 : (Int8.ofInt (-13)).toInt32 = (-13 : Int32) := by decide +kernel
theorem c_bipush_m12 : (Int8.ofInt (-12)).toInt32 = (-12 : Int32) := by decide +kernel
theorem c_bipush_m11 : (Int8.ofInt (-11)).toInt32 = (-11 : Int32) := by decide +kernel
theorem c_bipush_m4 : (Int8.ofInt (-4)).toInt32 = (-4 : Int32) := by decide +kernel
theorem c_bipush_m3 : (Int8.ofInt (-3)).toInt32 = (-3 : Int32) := by decide +kernel
theorem c_bipush_m2 : (Int8.ofInt (-2)).toInt32 = (-2 : Int32) := by decide +kernel
theorem c_bipush_6 : (Int8.ofInt (6)).toInt32 = (6 : Int32) := by decide +kernel
theorem c_bipush_8 : (Int8.ofInt (8)).toInt32 = (8 : Int32) := by decide +kernel
theorem c_bipush_9 : (Int8.ofInt (9)).toInt32 = (9 : Int32) := by decide +kernel
theorem c_bipush_10 : (Int8.ofInt (10)).toInt32 = (10 : Int32) := by decide +kernel
theorem c_bipush_11 : (Int8.ofInt (11)).toInt32 = (11 : Int32) := by decide +kernel
theorem c_bipush_12 : (Int8.ofInt (12)).toInt32 = (12 : Int32) := by decide +kernel
theorem c_bipush_15 : (Int8.ofInt (15)).toInt32 = (15 : Int32) := by decide +kernel
theorem c_bipush_16 : (Int8.ofInt (16)).toInt32 = (16 : Int32) := by decide +kernel
theorem c_bipush_24 : (Int8.ofInt (24)).toInt32 = (24 : Int32) := by decide +kernel
theorem c_bipush_32 : (Int8.ofInt (32)).toInt32 = (32 : Int32) := by decide +kernel
theorem c_bipush_48 : (Int8.ofInt (48)).toInt32 = (48 : Int32) := by decide +kernel
theorem c_bipush_57 : (Int8.ofInt (57)).toInt32 = (57 : Int32) := by decide +kernel
theorem c_bipush_58 : (Int8.ofInt (58)).toInt32 = (58 : Int32) := by decide +kernel
theorem c_bipush_59 : (Int8.ofInt (59)).toInt32 = (59 : Int32) := by decide +kernel
theorem c_bipush_64 : (Int8.ofInt (64)).toInt32 = (64 : Int32) := by decide +kernel
theorem c_bipush_81 : (Int8.ofInt (81)).toInt32 = (81 : Int32) := by decide +kernel
theorem c_bipush_99 : (Int8.ofInt (99)).toInt32 = (99 : Int32) := by decide +kernel
theorem c_bipush_100 : (Int8.ofInt (100)).toInt32 = (100 : Int32) := by decide +kernel
theorem c_bipush_106 : (Int8.ofInt (106)).toInt32 = (106 : Int32) := by decide +kernel
theorem c_bipush_108 : (Int8.ofInt (108)).toInt32 = (108 : Int32) := by decide +kernel
theorem c_bipush_109 : (Int8.ofInt (109)).toInt32 = (109 : Int32) := by decide +kernel
theorem c_bipush_110 : (Int8.ofInt (110)).toInt32 = (110 : Int32) := by decide +kernel
theorem c_bipush_112 : (Int8.ofInt (112)).toInt32 = (112 : Int32) := by decide +kernel
theorem c_bipush_119 : (Int8.ofInt (119)).toInt32 = (119 : Int32) := by decide +kernel
theorem c_bipush_120 : (Int8.ofInt (120)).toInt32 = (120 : Int32) := by decide +kernel
theorem c_bipush_126 : (Int8.ofInt (126)).toInt32 = (126 : Int32) := by decide +kernel
theorem c_iconst_m1 : Int32.ofInt (-1) = (-1 : Int32) := by decide +kernel
theorem c_iconst_0 : Int32.ofInt (0) = (0 : Int32) := by decide +kernel
theorem c_iconst_1 : Int32.ofInt (1) = (1 : Int32) := by decide +kernel
theorem c_iconst_2 : Int32.ofInt (2) = (2 : Int32) := by decide +kernel
theorem c_iconst_3 : Int32.ofInt (3) = (3 : Int32) := by decide +kernel
theorem c_iconst_4 : Int32.ofInt (4) = (4 : Int32) := by decide +kernel
theorem c_iconst_5 : Int32.ofInt (5) = (5 : Int32) := by decide +kernel
theorem c_iconst_6 : Int32.ofInt (6) = (6 : Int32) := by decide +kernel
theorem c_sipush_999 : (Int16.ofInt (999)).toInt32 = (999 : Int32) := by decide +kernel
theorem c_sipush_1000 : (Int16.ofInt (1000)).toInt32 = (1000 : Int32) := by decide +kernel
theorem c_l_0 : Int64.ofNat ((0 : Fin 2) : Nat) = (0 : Int64) := by decide +kernel
theorem c_l_1 : Int64.ofNat ((1 : Fin 2) : Nat) = (1 : Int64) := by decide +kernel
theorem is5 {a : Nat} (hr : am_St a) : am_is 5 a := by
  rcases hr with rfl | rfl | rfl <;> (unfold am_is; decide +kernel)
theorem is3 {a : Nat} (hr : am_St a) : am_is 3 (a + 1) := by
  rcases hr with rfl | rfl | rfl <;> (unfold am_is; decide +kernel)
theorem is1 {a : Nat} (hr : am_St a) : am_is 1 (a + 7) := by
  rcases hr with rfl | rfl | rfl <;> (unfold am_is; decide +kernel)
theorem is0 {a : Nat} (hr : am_St a) : am_is 0 (a + 11) := by
  rcases hr with rfl | rfl | rfl <;> (unfold am_is; decide +kernel)
theorem is2 {a : Nat} (hr : am_St a) : am_is 2 (a + 16) := by
  rcases hr with rfl | rfl | rfl <;> (unfold am_is; decide +kernel)
theorem is8 : am_is 8 0 := by unfold am_is; decide +kernel
theorem is7 : am_is 7 43 := by unfold am_is; decide +kernel
theorem is6 : am_is 6 65 := by unfold am_is; decide +kernel
theorem is4 : am_is 4 67 := by unfold am_is; decide +kernel
theorem is9 : am_is 9 71 := by unfold am_is; decide +kernel
theorem ln2 {a : Nat} (hr : am_St a) : am_ln (a + 2) = 16 := by
  rcases hr with rfl | rfl | rfl <;> decide +kernel
theorem ln3 {a : Nat} (hr : am_St a) : am_ln (a + 3) = 16 := by
  rcases hr with rfl | rfl | rfl <;> decide +kernel
theorem ln4 {a : Nat} (hr : am_St a) : am_ln (a + 4) = 16 := by
  rcases hr with rfl | rfl | rfl <;> decide +kernel
theorem ln5 {a : Nat} (hr : am_St a) : am_ln (a + 5) = 16 := by
  rcases hr with rfl | rfl | rfl <;> decide +kernel
theorem ln6 {a : Nat} (hr : am_St a) : am_ln (a + 6) = 16 := by
  rcases hr with rfl | rfl | rfl <;> decide +kernel
theorem ln8 {a : Nat} (hr : am_St a) : am_ln (a + 8) = 12 := by
  rcases hr with rfl | rfl | rfl <;> decide +kernel
theorem ln9 {a : Nat} (hr : am_St a) : am_ln (a + 9) = 12 := by
  rcases hr with rfl | rfl | rfl <;> decide +kernel
theorem ln10 {a : Nat} (hr : am_St a) : am_ln (a + 10) = 12 := by
  rcases hr with rfl | rfl | rfl <;> decide +kernel
theorem ln12 {a : Nat} (hr : am_St a) : am_ln (a + 12) = 8 := by
  rcases hr with rfl | rfl | rfl <;> decide +kernel
theorem ln13 {a : Nat} (hr : am_St a) : am_ln (a + 13) = 8 := by
  rcases hr with rfl | rfl | rfl <;> decide +kernel
theorem ln14 {a : Nat} (hr : am_St a) : am_ln (a + 14) = 8 := by
  rcases hr with rfl | rfl | rfl <;> decide +kernel
theorem ln15 {a : Nat} (hr : am_St a) : am_ln (a + 15) = 8 := by
  rcases hr with rfl | rfl | rfl <;> decide +kernel
theorem ln17 {a : Nat} (hr : am_St a) : am_ln (a + 17) = 24 := by
  rcases hr with rfl | rfl | rfl <;> decide +kernel
theorem ln18 {a : Nat} (hr : am_St a) : am_ln (a + 18) = 24 := by
  rcases hr with rfl | rfl | rfl <;> decide +kernel
theorem ln19 {a : Nat} (hr : am_St a) : am_ln (a + 19) = 5 := by
  rcases hr with rfl | rfl | rfl <;> decide +kernel
theorem ln20 {a : Nat} (hr : am_St a) : am_ln (a + 20) = 4 := by
  rcases hr with rfl | rfl | rfl <;> decide +kernel
theorem lc3 : am_ln 3 = 16 := by decide +kernel
theorem lc4 : am_ln 4 = 16 := by decide +kernel
theorem lc5 : am_ln 5 = 16 := by decide +kernel
theorem lc6 : am_ln 6 = 16 := by decide +kernel
theorem lc7 : am_ln 7 = 16 := by decide +kernel
theorem lc9 : am_ln 9 = 12 := by decide +kernel
theorem lc10 : am_ln 10 = 12 := by decide +kernel
theorem lc11 : am_ln 11 = 12 := by decide +kernel
theorem lc13 : am_ln 13 = 8 := by decide +kernel
theorem lc14 : am_ln 14 = 8 := by decide +kernel
theorem lc15 : am_ln 15 = 8 := by decide +kernel
theorem lc16 : am_ln 16 = 8 := by decide +kernel
theorem lc18 : am_ln 18 = 24 := by decide +kernel
theorem lc19 : am_ln 19 = 24 := by decide +kernel
theorem lc20 : am_ln 20 = 5 := by decide +kernel
theorem lc21 : am_ln 21 = 4 := by decide +kernel
theorem lc24 : am_ln 24 = 16 := by decide +kernel
theorem lc25 : am_ln 25 = 16 := by decide +kernel
theorem lc26 : am_ln 26 = 16 := by decide +kernel
theorem lc27 : am_ln 27 = 16 := by decide +kernel
theorem lc28 : am_ln 28 = 16 := by decide +kernel
theorem lc30 : am_ln 30 = 12 := by decide +kernel
theorem lc31 : am_ln 31 = 12 := by decide +kernel
theorem lc32 : am_ln 32 = 12 := by decide +kernel
theorem lc34 : am_ln 34 = 8 := by decide +kernel
theorem lc35 : am_ln 35 = 8 := by decide +kernel
theorem lc36 : am_ln 36 = 8 := by decide +kernel
theorem lc37 : am_ln 37 = 8 := by decide +kernel
theorem lc39 : am_ln 39 = 24 := by decide +kernel
theorem lc40 : am_ln 40 = 24 := by decide +kernel
theorem lc41 : am_ln 41 = 5 := by decide +kernel
theorem lc42 : am_ln 42 = 4 := by decide +kernel
theorem lc46 : am_ln 46 = 16 := by decide +kernel
theorem lc47 : am_ln 47 = 16 := by decide +kernel
theorem lc48 : am_ln 48 = 16 := by decide +kernel
theorem lc49 : am_ln 49 = 16 := by decide +kernel
theorem lc50 : am_ln 50 = 16 := by decide +kernel
theorem lc52 : am_ln 52 = 12 := by decide +kernel
theorem lc53 : am_ln 53 = 12 := by decide +kernel
theorem lc54 : am_ln 54 = 12 := by decide +kernel
theorem lc56 : am_ln 56 = 8 := by decide +kernel
theorem lc57 : am_ln 57 = 8 := by decide +kernel
theorem lc58 : am_ln 58 = 8 := by decide +kernel
theorem lc59 : am_ln 59 = 8 := by decide +kernel
theorem lc61 : am_ln 61 = 24 := by decide +kernel
theorem lc62 : am_ln 62 = 24 := by decide +kernel
theorem lc63 : am_ln 63 = 5 := by decide +kernel
theorem lc64 : am_ln 64 = 4 := by decide +kernel
theorem lc66 : am_ln 66 = 100 := by decide +kernel
theorem lc68 : am_ln 68 = 4 := by decide +kernel
theorem lc69 : am_ln 69 = 4 := by decide +kernel
theorem lc70 : am_ln 70 = 64 := by decide +kernel
theorem lc72 : am_ln 72 = 16 := by decide +kernel
theorem lc73 : am_ln 73 = 16 := by decide +kernel
theorem lc74 : am_ln 74 = 16 := by decide +kernel
theorem lc75 : am_ln 75 = 16 := by decide +kernel
theorem lc76 : am_ln 76 = 16 := by decide +kernel
theorem lc77 : am_ln 77 = 5 := by decide +kernel
theorem lc78 : am_ln 78 = 24 := by decide +kernel
theorem lc79 : am_ln 79 = 100 := by decide +kernel
theorem lc80 : am_ln 80 = 48 := by decide +kernel
theorem lc81 : am_ln 81 = 32 := by decide +kernel
theorem lc82 : am_ln 82 = 64 := by decide +kernel
theorem lc83 : am_ln 83 = 24 := by decide +kernel
theorem lc84 : am_ln 84 = 24 := by decide +kernel
theorem lc85 : am_ln 85 = 200 := by decide +kernel
theorem lc86 : am_ln 86 = 4 := by decide +kernel
theorem lc87 : am_ln 87 = 4 := by decide +kernel
theorem lc88 : am_ln 88 = 64 := by decide +kernel
theorem lc89 : am_ln 89 = 16 := by decide +kernel
theorem st1 : am_St 1 := Or.inl rfl
theorem st22 : am_St 22 := Or.inr (Or.inl rfl)
theorem st44 : am_St 44 := Or.inr (Or.inr rfl)
theorem cat_i {x : Int32} : ((Value.int x).category = 1) = True := eq_true rfl
theorem cat_r {x : Nat} : ((Value.ref x).category = 1) = True := eq_true rfl
theorem cat_f {x : UInt32} : ((Value.float x).category = 1) = True := eq_true rfl
theorem cat_n : (Value.null.category = 1) = True := eq_true rfl
theorem cs_n : am_cs [] = 0 := by simp [am_cs]
theorem cs_i {x : Int32} {r : List Value} : am_cs (.int x :: r) = am_cs r + 1 := by simp [am_cs, Value.category, Nat.add_comm]
theorem cs_r {x : Nat} {r : List Value} : am_cs (.ref x :: r) = am_cs r + 1 := by simp [am_cs, Value.category, Nat.add_comm]
theorem cs_l {x : Int64} {r : List Value} : am_cs (.long x :: r) = am_cs r + 2 := by simp [am_cs, Value.category, Nat.add_comm]
theorem cs_f {x : UInt32} {r : List Value} : am_cs (.float x :: r) = am_cs r + 1 := by simp [am_cs, Value.category, Nat.add_comm]
theorem am_vz_bool {x : Int32} (hz : x = 0 ∨ x = 1) : am_vz .boolean (.int x) = true := by rcases hz with rfl | rfl <;> rfl
theorem am_c1_of {ls : List Value} {k : Nat} {v : Value} (hk : ls.getD k .null = v) (hc : v.category = 1) : am_c1 ls (k + 1) = true := by
  show ((ls.getD k .null).category == 1) = true
  rw [hk, hc]; rfl
theorem am_sti_of {ls r : List Value} {k : Nat} {x : Int32} (hk : k < ls.length) (hc : am_c1 ls k = true) : am_sti ls k (.int x :: r) = some (ls.set k (.int x), r) := if_pos ⟨hk, hc⟩
theorem am_sta_of {ls r : List Value} {k : Nat} {x : Nat} (hk : k < ls.length) (hc : am_c1 ls k = true) : am_sta ls k (.ref x :: r) = some (ls.set k (.ref x), r) := if_pos ⟨hk, hc⟩
theorem am_stl_of {ls r : List Value} {k : Nat} {x : Int64} (hk : k + 1 < ls.length) (hc : am_c1 ls k = true) : am_stl ls k (.long x :: r) = some ((ls.set k (.long x)).set (k + 1) .null, r) := if_pos ⟨hk, hc⟩
theorem am_inc_of {ls r : List Value} {k : Nat} {x n : Int32} {d : Int} (hk : ls[k]? = some (.int x)) (hd : Int32.ofInt d = n) (hc : am_c1 ls k = true) : am_inc ls k d r = some (ls.set k (.int (x + n)), r) := by
  subst hd
  unfold am_inc
  rw [hk]
  exact if_pos hc
theorem am_rc_of {M Y : am_M} {r : List Value} (hs : Y.2.2.2.2.2.2.2.frames + 1 ≤ M.2.2.2.2.2.2.2.frames ∧ 8 + (Y.2.2.2.1 + 11) + Y.2.2.2.2.2.2.2.locals ≤ M.2.2.2.2.2.2.2.locals ∧ 0 + Y.2.2.2.2.2.2.2.cells ≤ M.2.2.2.2.2.2.2.cells ∧ 0 + Y.2.2.2.2.2.2.2.slots ≤ M.2.2.2.2.2.2.2.slots) (h8 : am_cs r ≤ 8) : am_rc M Y r 0 0 = true := decide_eq_true ⟨hs.1, hs.2.1, hs.2.2.1, hs.2.2.2, h8⟩
theorem am_rj13 {M : am_M} {r : List Value} (hs : 1 ≤ M.2.2.2.2.2.2.2.frames ∧ 21 ≤ M.2.2.2.2.2.2.2.locals) (h8 : am_cs r ≤ 8) : 1 ≤ M.2.2.2.2.2.2.2.frames ∧ am_cs r + 13 ≤ M.2.2.2.2.2.2.2.locals ∧ 0 ≤ M.2.2.2.2.2.2.2.cells ∧ 0 ≤ M.2.2.2.2.2.2.2.slots := ⟨hs.1, by omega, Nat.zero_le _, Nat.zero_le _⟩
theorem am_rj18 {M : am_M} {r : List Value} (hs : 1 ≤ M.2.2.2.2.2.2.2.frames ∧ 26 ≤ M.2.2.2.2.2.2.2.locals) (h8 : am_cs r ≤ 8) : 1 ≤ M.2.2.2.2.2.2.2.frames ∧ am_cs r + 18 ≤ M.2.2.2.2.2.2.2.locals := ⟨hs.1, by omega⟩
section XH
variable {sv : am_V} {mi pc : Nat} {ls st r : List Value} {h : am_H} {cu su : Nat} {Q : Option Value → am_H → Prop} {M : am_M}
theorem e_iconstv {k : Int} {v : Int32} (hM : am_ms[mi]? = some M) (hd : decode M.2.2.1 pc = .ok (.iconst k, 1)) (hv : Int32.ofInt k = v) : AW sv mi pc ls st h cu su Q = AW sv mi (pc + 1) ls (.int v :: st) h cu su Q := by subst hv; exact e_iconst hM hd
theorem e_bipushv {k : Int} {v : Int32} (hM : am_ms[mi]? = some M) (hd : decode M.2.2.1 pc = .ok (.bipush k, 2)) (hv : (Int8.ofInt k).toInt32 = v) : AW sv mi pc ls st h cu su Q = AW sv mi (pc + 2) ls (.int v :: st) h cu su Q := by subst hv; exact e_bipush hM hd
theorem e_sipushv {k : Int} {v : Int32} (hM : am_ms[mi]? = some M) (hd : decode M.2.2.1 pc = .ok (.sipush k, 3)) (hv : (Int16.ofInt k).toInt32 = v) : AW sv mi pc ls st h cu su Q = AW sv mi (pc + 3) ls (.int v :: st) h cu su Q := by subst hv; exact e_sipush hM hd
theorem e_lconstv {k : Fin 2} {v : Int64} (hM : am_ms[mi]? = some M) (hd : decode M.2.2.1 pc = .ok (.lconst k, 1)) (hv : Int64.ofNat (k : Nat) = v) : AW sv mi pc ls st h cu su Q = AW sv mi (pc + 1) ls (.long v :: st) h cu su Q := by subst hv; exact e_lconst hM hd
theorem e_pv {i : Instr} {ls' st' : List Value} {len : Nat} (hM : am_ms[mi]? = some M) (hd : decode M.2.2.1 pc = .ok (i, len)) (hb : am_br i pc len st = none) (hr : am_rt M.2.2.2.2.1 i len st = none) (hl : len = am_len i) (hp : am_pu M.1 i ls st = some (ls', st')) : AW sv mi pc ls st h cu su Q = AW sv mi (pc + len) ls' st' h cu su Q := e_pu hM hd hb hr hl hp
theorem e_gets {k t : Nat} {w : UInt32} (hM : am_ms[mi]? = some M) (hd : decode M.2.2.1 pc = .ok (.getstatic k, 3)) (ht : am_gs M.1 k = some t) (hw : UInt32.ofNat t = w) : AW sv mi pc ls st h cu su Q = AW sv mi (pc + 3) ls (.float w :: st) h cu su Q := e_hq hM hd rfl rfl rfl rfl rfl rfl (by
  subst hw
  show (am_gs M.1 k).map (fun t => (.float (UInt32.ofNat t) :: st, h, cu, su)) = _
  rw [ht]; rfl)
theorem e_ials {i : Int32} (hM : am_ms[mi]? = some M) (hd : decode M.2.2.1 pc = .ok (.iaload, 1)) (hi : am_in i (sv 0).1 = true) : AW sv mi pc ls (.int i :: .float 0 :: r) h cu su Q = AW sv mi (pc + 1) ls (.int ((sv 0).2 i.toNatClampNeg) :: r) h cu su Q := e_hq hM hd rfl rfl rfl rfl rfl rfl (by
  show (am_ial sv h (.float 0) i r).map (fun st' => (st', h, cu, su)) = _
  unfold am_ial
  simp only
  rw [if_pos ⟨trivial, hi⟩]; rfl)
theorem e_ialx {i : Int32} (hM : am_ms[mi]? = some M) (hd : decode M.2.2.1 pc = .ok (.iaload, 1)) (hi : am_in i (sv 2).1 = true) : AW sv mi pc ls (.int i :: .float 2 :: r) h cu su Q = AW sv mi (pc + 1) ls (.int ((sv 2).2 i.toNatClampNeg) :: r) h cu su Q := e_hq hM hd rfl rfl rfl rfl rfl rfl (by
  show (am_ial sv h (.float 2) i r).map (fun st' => (st', h, cu, su)) = _
  unfold am_ial
  simp only
  rw [if_neg (fun q => absurd q.1 (by decide)), if_pos ⟨trivial, hi⟩]; rfl)
theorem e_cald {i : Int32} (hM : am_ms[mi]? = some M) (hd : decode M.2.2.1 pc = .ok (.caload, 1)) (hi : am_in i (sv 1).1 = true) : AW sv mi pc ls (.int i :: .float 1 :: r) h cu su Q = AW sv mi (pc + 1) ls (.int ((sv 1).2 i.toNatClampNeg) :: r) h cu su Q := e_hq hM hd rfl rfl rfl rfl rfl rfl (if_pos ⟨rfl, hi⟩)
theorem e_z_eq {off : Int} {x : Int32} {t : Nat} (hM : am_ms[mi]? = some M) (hd : decode M.2.2.1 pc = .ok (.ifCond .eq off, 3)) (ht : (pc : Int) + off = (t : Int)) : AW sv mi pc ls (.int x :: r) h cu su Q = if x = 0 then AW sv mi t ls r h cu su Q else AW sv mi (pc + 3) ls r h cu su Q := by
  rw [e_ifz hM hd ht]; simp only [am_z_eq]
theorem e_c_eq {off : Int} {x y : Int32} {t : Nat} (hM : am_ms[mi]? = some M) (hd : decode M.2.2.1 pc = .ok (.if_icmp .eq off, 3)) (ht : (pc : Int) + off = (t : Int)) : AW sv mi pc ls (.int y :: .int x :: r) h cu su Q = if x = y then AW sv mi t ls r h cu su Q else AW sv mi (pc + 3) ls r h cu su Q := by
  rw [e_ifc hM hd ht]; simp only [am_z_eq]
theorem e_z_ne {off : Int} {x : Int32} {t : Nat} (hM : am_ms[mi]? = some M) (hd : decode M.2.2.1 pc = .ok (.ifCond .ne off, 3)) (ht : (pc : Int) + off = (t : Int)) : AW sv mi pc ls (.int x :: r) h cu su Q = if ¬ x = 0 then AW sv mi t ls r h cu su Q else AW sv mi (pc + 3) ls r h cu su Q := by
  rw [e_ifz hM hd ht]; simp only [am_z_ne]
theorem e_c_ne {off : Int} {x y : Int32} {t : Nat} (hM : am_ms[mi]? = some M) (hd : decode M.2.2.1 pc = .ok (.if_icmp .ne off, 3)) (ht : (pc : Int) + off = (t : Int)) : AW sv mi pc ls (.int y :: .int x :: r) h cu su Q = if ¬ x = y then AW sv mi t ls r h cu su Q else AW sv mi (pc + 3) ls r h cu su Q := by
  rw [e_ifc hM hd ht]; simp only [am_z_ne]
theorem e_z_lt {off : Int} {x : Int32} {t : Nat} (hM : am_ms[mi]? = some M) (hd : decode M.2.2.1 pc = .ok (.ifCond .lt off, 3)) (ht : (pc : Int) + off = (t : Int)) : AW sv mi pc ls (.int x :: r) h cu su Q = if x < 0 then AW sv mi t ls r h cu su Q else AW sv mi (pc + 3) ls r h cu su Q := by
  rw [e_ifz hM hd ht]; simp only [am_z_lt]
theorem e_c_lt {off : Int} {x y : Int32} {t : Nat} (hM : am_ms[mi]? = some M) (hd : decode M.2.2.1 pc = .ok (.if_icmp .lt off, 3)) (ht : (pc : Int) + off = (t : Int)) : AW sv mi pc ls (.int y :: .int x :: r) h cu su Q = if x < y then AW sv mi t ls r h cu su Q else AW sv mi (pc + 3) ls r h cu su Q := by
  rw [e_ifc hM hd ht]; simp only [am_z_lt]
theorem e_z_ge {off : Int} {x : Int32} {t : Nat} (hM : am_ms[mi]? = some M) (hd : decode M.2.2.1 pc = .ok (.ifCond .ge off, 3)) (ht : (pc : Int) + off = (t : Int)) : AW sv mi pc ls (.int x :: r) h cu su Q = if 0 ≤ x then AW sv mi t ls r h cu su Q else AW sv mi (pc + 3) ls r h cu su Q := by
  rw [e_ifz hM hd ht]; simp only [am_z_ge]
theorem e_c_ge {off : Int} {x y : Int32} {t : Nat} (hM : am_ms[mi]? = some M) (hd : decode M.2.2.1 pc = .ok (.if_icmp .ge off, 3)) (ht : (pc : Int) + off = (t : Int)) : AW sv mi pc ls (.int y :: .int x :: r) h cu su Q = if y ≤ x then AW sv mi t ls r h cu su Q else AW sv mi (pc + 3) ls r h cu su Q := by
  rw [e_ifc hM hd ht]; simp only [am_z_ge]
theorem e_z_gt {off : Int} {x : Int32} {t : Nat} (hM : am_ms[mi]? = some M) (hd : decode M.2.2.1 pc = .ok (.ifCond .gt off, 3)) (ht : (pc : Int) + off = (t : Int)) : AW sv mi pc ls (.int x :: r) h cu su Q = if 0 < x then AW sv mi t ls r h cu su Q else AW sv mi (pc + 3) ls r h cu su Q := by
  rw [e_ifz hM hd ht]; simp only [am_z_gt]
theorem e_c_gt {off : Int} {x y : Int32} {t : Nat} (hM : am_ms[mi]? = some M) (hd : decode M.2.2.1 pc = .ok (.if_icmp .gt off, 3)) (ht : (pc : Int) + off = (t : Int)) : AW sv mi pc ls (.int y :: .int x :: r) h cu su Q = if y < x then AW sv mi t ls r h cu su Q else AW sv mi (pc + 3) ls r h cu su Q := by
  rw [e_ifc hM hd ht]; simp only [am_z_gt]
theorem e_z_le {off : Int} {x : Int32} {t : Nat} (hM : am_ms[mi]? = some M) (hd : decode M.2.2.1 pc = .ok (.ifCond .le off, 3)) (ht : (pc : Int) + off = (t : Int)) : AW sv mi pc ls (.int x :: r) h cu su Q = if x ≤ 0 then AW sv mi t ls r h cu su Q else AW sv mi (pc + 3) ls r h cu su Q := by
  rw [e_ifz hM hd ht]; simp only [am_z_le]
theorem e_c_le {off : Int} {x y : Int32} {t : Nat} (hM : am_ms[mi]? = some M) (hd : decode M.2.2.1 pc = .ok (.if_icmp .le off, 3)) (ht : (pc : Int) + off = (t : Int)) : AW sv mi pc ls (.int y :: .int x :: r) h cu su Q = if x ≤ y then AW sv mi t ls r h cu su Q else AW sv mi (pc + 3) ls r h cu su Q := by
  rw [e_ifc hM hd ht]; simp only [am_z_le]
theorem e_tin {dflt lo hi off : Int} {offs : Array Int} {len t j : Nat} {x : Int32} (hM : am_ms[mi]? = some M) (hd : decode M.2.2.1 pc = .ok (.tableswitch dflt lo hi offs, len)) (hx : x.toInt = lo + j) (hj : lo + j ≤ hi) (ho : offs[j]? = some off) (ht : (pc : Int) + off = (t : Int)) : AW sv mi pc ls (.int x :: r) h cu su Q = AW sv mi t ls r h cu su Q := AW_nx hM hd (by
  have e1 : am_br (.tableswitch dflt lo hi offs) pc len (.int x :: r) = some (t, r) := by
    show am_sw pc dflt lo hi offs x r = _
    unfold am_sw
    rw [if_neg (by omega), show (x.toInt - lo).toNat = j by omega, ho]
    simp only
    rw [if_pos (by omega), ht]
    rfl
  unfold am_step
  rw [e1])
theorem e_tout {dflt lo hi : Int} {offs : Array Int} {len t : Nat} {x : Int32} (hM : am_ms[mi]? = some M) (hd : decode M.2.2.1 pc = .ok (.tableswitch dflt lo hi offs, len)) (hx : x.toInt < lo ∨ hi < x.toInt) (ht : (pc : Int) + dflt = (t : Int)) : AW sv mi pc ls (.int x :: r) h cu su Q = AW sv mi t ls r h cu su Q := AW_nx hM hd (by
  have e1 : am_br (.tableswitch dflt lo hi offs) pc len (.int x :: r) = some (t, r) := by
    show am_sw pc dflt lo hi offs x r = _
    unfold am_sw
    rw [if_pos hx, if_pos (by omega), ht]
    rfl
  unfold am_step
  rw [e1])
end XH
