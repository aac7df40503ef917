theorem fl_4_9 : pmFld 4 9 = some (4, 0, 83) := by decide +kernel
theorem fl_7_58 : pmFld 7 58 = some (4, 0, 84) := by decide +kernel
theorem fl_4_15 : pmFld 4 15 = some (4, 1, 85) := by decide +kernel
theorem fl_10_33 : pmFld 10 33 = some (4, 1, 86) := by decide +kernel
theorem fl_7_62 : pmFld 7 62 = some (4, 1, 87) := by decide +kernel
theorem fl_4_18 : pmFld 4 18 = some (4, 2, 88) := by decide +kernel
theorem fl_10_37 : pmFld 10 37 = some (4, 2, 89) := by decide +kernel
theorem fl_7_65 : pmFld 7 65 = some (4, 2, 90) := by decide +kernel
theorem fl_4_21 : pmFld 4 21 = some (4, 3, 91) := by decide +kernel
theorem fl_6_66 : pmFld 6 66 = some (4, 3, 92) := by decide +kernel
theorem fl_11_141 : pmFld 11 141 = some (4, 3, 93) := by decide +kernel
theorem fl_7_68 : pmFld 7 68 = some (4, 3, 94) := by decide +kernel
theorem fl_10_111 : pmFld 10 111 = some (4, 3, 95) := by decide +kernel
theorem fl_4_24 : pmFld 4 24 = some (4, 4, 96) := by decide +kernel
theorem fl_11_162 : pmFld 11 162 = some (4, 4, 97) := by decide +kernel
theorem fl_7_75 : pmFld 7 75 = some (4, 4, 98) := by decide +kernel
theorem fl_4_27 : pmFld 4 27 = some (4, 5, 99) := by decide +kernel
theorem fl_11_165 : pmFld 11 165 = some (4, 5, 100) := by decide +kernel
theorem fl_7_78 : pmFld 7 78 = some (4, 5, 101) := by decide +kernel
theorem fl_10_102 : pmFld 10 102 = some (4, 5, 102) := by decide +kernel
theorem fl_4_30 : pmFld 4 30 = some (4, 6, 103) := by decide +kernel
theorem fl_6_62 : pmFld 6 62 = some (4, 6, 104) := by decide +kernel
theorem fl_11_168 : pmFld 11 168 = some (4, 6, 105) := by decide +kernel
theorem fl_7_81 : pmFld 7 81 = some (4, 6, 106) := by decide +kernel
theorem fl_10_105 : pmFld 10 105 = some (4, 6, 107) := by decide +kernel
theorem fl_4_33 : pmFld 4 33 = some (4, 7, 108) := by decide +kernel
theorem fl_7_49 : pmFld 7 49 = some (4, 7, 109) := by decide +kernel
theorem fl_11_117 : pmFld 11 117 = some (4, 7, 110) := by decide +kernel
theorem fl_4_37 : pmFld 4 37 = some (4, 8, 111) := by decide +kernel
theorem fl_10_29 : pmFld 10 29 = some (4, 8, 112) := by decide +kernel
theorem fl_9_35 : pmFld 9 35 = some (4, 8, 113) := by decide +kernel
theorem fl_7_52 : pmFld 7 52 = some (4, 8, 114) := by decide +kernel
theorem fl_11_120 : pmFld 11 120 = some (4, 8, 115) := by decide +kernel
theorem fl_8_28 : pmFld 8 28 = some (4, 9, 116) := by decide +kernel
theorem fl_4_40 : pmFld 4 40 = some (4, 9, 117) := by decide +kernel
theorem fl_7_55 : pmFld 7 55 = some (4, 9, 118) := by decide +kernel
theorem fl_11_123 : pmFld 11 123 = some (4, 9, 119) := by decide +kernel
theorem fl_10_96 : pmFld 10 96 = some (4, 9, 120) := by decide +kernel
theorem fl_7_9 : pmFld 7 9 = some (7, 0, 149) := by decide +kernel
theorem fl_7_20 : pmFld 7 20 = some (7, 1, 150) := by decide +kernel
theorem fl_7_34 : pmFld 7 34 = some (7, 2, 151) := by decide +kernel
theorem fl_1_15 : pmFld 1 15 = some (1, 0, 172) := by decide +kernel
theorem fl_11_138 : pmFld 11 138 = some (1, 0, 173) := by decide +kernel
theorem fl_1_18 : pmFld 1 18 = some (1, 1, 174) := by decide +kernel
theorem fl_5_58 : pmFld 5 58 = some (1, 1, 175) := by decide +kernel
theorem fl_11_133 : pmFld 11 133 = some (1, 1, 176) := by decide +kernel
theorem fl_10_81 : pmFld 10 81 = some (1, 1, 177) := by decide +kernel
theorem fl_1_21 : pmFld 1 21 = some (1, 2, 178) := by decide +kernel
theorem fl_5_41 : pmFld 5 41 = some (1, 2, 179) := by decide +kernel
theorem fl_10_52 : pmFld 10 52 = some (1, 2, 180) := by decide +kernel
theorem fl_11_144 : pmFld 11 144 = some (1, 2, 181) := by decide +kernel
theorem fl_1_9 : pmFld 1 9 = some (1, 3, 182) := by decide +kernel
theorem fl_2_54 : pmFld 2 54 = some (1, 3, 183) := by decide +kernel
theorem fl_3_49 : pmFld 3 49 = some (1, 3, 184) := by decide +kernel
theorem fl_6_47 : pmFld 6 47 = some (1, 3, 185) := by decide +kernel
theorem fl_11_147 : pmFld 11 147 = some (1, 3, 186) := by decide +kernel
theorem fl_10_93 : pmFld 10 93 = some (1, 3, 187) := by decide +kernel
theorem fl_1_24 : pmFld 1 24 = some (1, 4, 188) := by decide +kernel
theorem fl_10_99 : pmFld 10 99 = some (1, 4, 189) := by decide +kernel
theorem fl_1_27 : pmFld 1 27 = some (1, 5, 190) := by decide +kernel
theorem fl_1_30 : pmFld 1 30 = some (1, 6, 191) := by decide +kernel
theorem fl_9_51 : pmFld 9 51 = some (1, 6, 192) := by decide +kernel
theorem fl_11_150 : pmFld 11 150 = some (1, 6, 193) := by decide +kernel
theorem fl_10_63 : pmFld 10 63 = some (1, 6, 194) := by decide +kernel
theorem fl_10_21 : pmFld 10 21 = some (10, 0, 210) := by decide +kernel
theorem fl_8_22 : pmFld 8 22 = some (10, 0, 211) := by decide +kernel
theorem fl_9_29 : pmFld 9 29 = some (10, 0, 212) := by decide +kernel
theorem fl_6_53 : pmFld 6 53 = some (10, 0, 213) := by decide +kernel
theorem fl_10_11 : pmFld 10 11 = some (10, 1, 214) := by decide +kernel
theorem fl_2_50 : pmFld 2 50 = some (10, 1, 215) := by decide +kernel
theorem fl_9_48 : pmFld 9 48 = some (10, 1, 216) := by decide +kernel
theorem fl_3_45 : pmFld 3 45 = some (10, 1, 217) := by decide +kernel
theorem fl_6_43 : pmFld 6 43 = some (10, 1, 218) := by decide +kernel
theorem fl_11_130 : pmFld 11 130 = some (10, 1, 219) := by decide +kernel
theorem fl_10_26 : pmFld 10 26 = some (10, 2, 220) := by decide +kernel
theorem fl_11_284 : pmFld 11 284 = some (10, 2, 221) := by decide +kernel
theorem fl_10_17 : pmFld 10 17 = some (10, 3, 222) := by decide +kernel
theorem fl_0_11 : pmFld 0 11 = some (0, 0, 241) := by decide +kernel
theorem fl_0_20 : pmFld 0 20 = some (0, 1, 242) := by decide +kernel
theorem fl_0_24 : pmFld 0 24 = some (0, 2, 243) := by decide +kernel
theorem fl_11_206 : pmFld 11 206 = some (0, 2, 244) := by decide +kernel
theorem fl_6_9 : pmFld 6 9 = some (6, 0, 258) := by decide +kernel
theorem fl_6_15 : pmFld 6 15 = some (6, 1, 259) := by decide +kernel
theorem fl_9_15 : pmFld 9 15 = some (9, 0, 272) := by decide +kernel
theorem fl_9_9 : pmFld 9 9 = some (9, 1, 273) := by decide +kernel
theorem fl_9_19 : pmFld 9 19 = some (9, 2, 274) := by decide +kernel
theorem fl_11_225 : pmFld 11 225 = some (9, 2, 275) := by decide +kernel
theorem fl_9_23 : pmFld 9 23 = some (9, 3, 276) := by decide +kernel
theorem fl_11_228 : pmFld 11 228 = some (9, 3, 277) := by decide +kernel
theorem fl_5_25 : pmFld 5 25 = some (5, 0, 295) := by decide +kernel
theorem fl_5_9 : pmFld 5 9 = some (5, 1, 296) := by decide +kernel
theorem fl_5_15 : pmFld 5 15 = some (5, 2, 297) := by decide +kernel
theorem fl_5_21 : pmFld 5 21 = some (5, 3, 298) := by decide +kernel
theorem fl_5_29 : pmFld 5 29 = some (5, 4, 299) := by decide +kernel
theorem fl_11_239 : pmFld 11 239 = some (5, 4, 300) := by decide +kernel
theorem fl_8_15 : pmFld 8 15 = some (8, 0, 318) := by decide +kernel
theorem fl_8_19 : pmFld 8 19 = some (8, 1, 319) := by decide +kernel
theorem fl_8_9 : pmFld 8 9 = some (8, 2, 320) := by decide +kernel
theorem fl_2_18 : pmFld 2 18 = some (2, 0, 334) := by decide +kernel
theorem fl_2_22 : pmFld 2 22 = some (2, 1, 335) := by decide +kernel
theorem fl_2_11 : pmFld 2 11 = some (2, 2, 336) := by decide +kernel
theorem fl_2_15 : pmFld 2 15 = some (2, 3, 337) := by decide +kernel
theorem fl_3_9 : pmFld 3 9 = some (3, 0, 353) := by decide +kernel
theorem fl_3_15 : pmFld 3 15 = some (3, 1, 354) := by decide +kernel
theorem fl_3_55 : pmFld 3 55 = some (3, 2, 355) := by decide +kernel
theorem fl_11_274 : pmFld 11 274 = some (3, 2, 356) := by decide +kernel
theorem fl_11_9 : pmFld 11 9 = some (11, 0, 364) := by decide +kernel
theorem fl_11_103 : pmFld 11 103 = some (11, 1, 365) := by decide +kernel
theorem fl_11_16 : pmFld 11 16 = some (11, 2, 366) := by decide +kernel
theorem fl_11_25 : pmFld 11 25 = some (11, 3, 367) := by decide +kernel
theorem fl_11_29 : pmFld 11 29 = some (11, 4, 368) := by decide +kernel
theorem fl_11_35 : pmFld 11 35 = some (11, 5, 369) := by decide +kernel
theorem fl_11_39 : pmFld 11 39 = some (11, 6, 370) := by decide +kernel
theorem fl_11_45 : pmFld 11 45 = some (11, 7, 371) := by decide +kernel
theorem fl_11_49 : pmFld 11 49 = some (11, 8, 372) := by decide +kernel
theorem fl_11_53 : pmFld 11 53 = some (11, 9, 373) := by decide +kernel
theorem fl_11_62 : pmFld 11 62 = some (11, 10, 374) := by decide +kernel
theorem fl_11_71 : pmFld 11 71 = some (11, 11, 375) := by decide +kernel
theorem fl_11_78 : pmFld 11 78 = some (11, 12, 376) := by decide +kernel
theorem fl_11_85 : pmFld 11 85 = some (11, 13, 377) := by decide +kernel
theorem fl_11_92 : pmFld 11 92 = some (11, 14, 378) := by decide +kernel
theorem fl_11_99 : pmFld 11 99 = some (11, 15, 379) := by decide +kernel
theorem fl_12_117 : pmFld 12 117 = some (12, 0, 865) := by decide +kernel
theorem fl_12_120 : pmFld 12 120 = some (12, 1, 866) := by decide +kernel
theorem fl_12_123 : pmFld 12 123 = some (12, 2, 867) := by decide +kernel
theorem fl_12_7 : pmFld 12 7 = some (12, 3, 868) := by decide +kernel
theorem fl_12_13 : pmFld 12 13 = some (12, 4, 869) := by decide +kernel
theorem fl_12_16 : pmFld 12 16 = some (12, 5, 870) := by decide +kernel
theorem fl_12_19 : pmFld 12 19 = some (12, 6, 871) := by decide +kernel
theorem fl_12_22 : pmFld 12 22 = some (12, 7, 872) := by decide +kernel
theorem fl_12_25 : pmFld 12 25 = some (12, 8, 873) := by decide +kernel
theorem fl_12_28 : pmFld 12 28 = some (12, 9, 874) := by decide +kernel
theorem fl_12_31 : pmFld 12 31 = some (12, 10, 875) := by decide +kernel
theorem fl_12_34 : pmFld 12 34 = some (12, 11, 876) := by decide +kernel
theorem fl_12_37 : pmFld 12 37 = some (12, 12, 877) := by decide +kernel
theorem fl_12_90 : pmFld 12 90 = some (12, 13, 878) := by decide +kernel
theorem fl_12_93 : pmFld 12 93 = some (12, 14, 879) := by decide +kernel
theorem fl_12_96 : pmFld 12 96 = some (12, 15, 880) := by decide +kernel
theorem fl_12_99 : pmFld 12 99 = some (12, 16, 881) := by decide +kernel
theorem fl_12_40 : pmFld 12 40 = some (12, 17, 882) := by decide +kernel
theorem fl_12_75 : pmFld 12 75 = some (12, 18, 883) := by decide +kernel
theorem fl_12_81 : pmFld 12 81 = some (12, 19, 884) := by decide +kernel
theorem fl_12_78 : pmFld 12 78 = some (12, 20, 885) := by decide +kernel
theorem fl_12_43 : pmFld 12 43 = some (12, 21, 886) := by decide +kernel
theorem fl_12_126 : pmFld 12 126 = some (12, 22, 887) := by decide +kernel
theorem fl_12_165 : pmFld 12 165 = some (12, 23, 888) := by decide +kernel
theorem fl_12_47 : pmFld 12 47 = some (12, 24, 889) := by decide +kernel
theorem fl_12_50 : pmFld 12 50 = some (12, 25, 890) := by decide +kernel
theorem fl_12_53 : pmFld 12 53 = some (12, 26, 891) := by decide +kernel
theorem fl_12_224 : pmFld 12 224 = some (12, 27, 892) := by decide +kernel
theorem fl_12_56 : pmFld 12 56 = some (12, 28, 893) := by decide +kernel
theorem fl_12_59 : pmFld 12 59 = some (12, 29, 894) := by decide +kernel
theorem fl_12_257 : pmFld 12 257 = some (12, 30, 895) := by decide +kernel
theorem fl_12_62 : pmFld 12 62 = some (12, 31, 896) := by decide +kernel
theorem fl_12_66 : pmFld 12 66 = some (12, 32, 897) := by decide +kernel
theorem sl_9_26 : pmSta 9 26 = some (1, 1, 671) := by decide +kernel
theorem sl_11_231 : pmSta 11 231 = some (2, 0, 686) := by decide +kernel
theorem sl_6_69 : pmSta 6 69 = some (2, 1, 692) := by decide +kernel
theorem sl_8_48 : pmSta 8 48 = some (1, 1, 753) := by decide +kernel
theorem sl_11_250 : pmSta 11 250 = some (1, 0, 754) := by decide +kernel
theorem ol_11_1 : pmObj 11 1 = some 74 := by decide +kernel
theorem ol_4_3 : pmObj 4 3 = some 82 := by decide +kernel
theorem ol_7_3 : pmObj 7 3 = some 148 := by decide +kernel
theorem ol_10_3 : pmObj 10 3 = some 164 := by decide +kernel
theorem ol_1_3 : pmObj 1 3 = some 171 := by decide +kernel
theorem ol_0_3 : pmObj 0 3 = some 237 := by decide +kernel
theorem ol_6_3 : pmObj 6 3 = some 257 := by decide +kernel
theorem ol_9_3 : pmObj 9 3 = some 271 := by decide +kernel
theorem ol_5_3 : pmObj 5 3 = some 292 := by decide +kernel
theorem ol_8_3 : pmObj 8 3 = some 317 := by decide +kernel
theorem ol_2_3 : pmObj 2 3 = some 333 := by decide +kernel
theorem ol_3_3 : pmObj 3 3 = some 352 := by decide +kernel
theorem ol_12_1 : pmObj 12 1 = some 864 := by decide +kernel
theorem cl_15_7 : pmCls 15 7 = some (11, 69) := by decide +kernel
theorem cl_11_13 : pmCls 11 13 = some (4, 77) := by decide +kernel
theorem cl_11_20 : pmCls 11 20 = some (7, 143) := by decide +kernel
theorem cl_11_32 : pmCls 11 32 = some (10, 159) := by decide +kernel
theorem cl_10_9 : pmCls 10 9 = some (1, 165) := by decide +kernel
theorem cl_11_42 : pmCls 11 42 = some (0, 232) := by decide +kernel
theorem cl_0_9 : pmCls 0 9 = some (10, 238) := by decide +kernel
theorem cl_11_57 : pmCls 11 57 = some (6, 252) := by decide +kernel
theorem cl_11_66 : pmCls 11 66 = some (9, 266) := by decide +kernel
theorem cl_11_75 : pmCls 11 75 = some (5, 287) := by decide +kernel
theorem cl_5_18 : pmCls 5 18 = some (1, 293) := by decide +kernel
theorem cl_11_82 : pmCls 11 82 = some (8, 312) := by decide +kernel
theorem cl_11_89 : pmCls 11 89 = some (2, 328) := by decide +kernel
theorem cl_11_96 : pmCls 11 96 = some (3, 347) := by decide +kernel
theorem cl_15_10 : pmCls 15 10 = some (12, 859) := by decide +kernel
set_option maxRecDepth 20000 in
theorem ml_15_9 : pmMth 15 9 = some (2, 0, mX11_init, 71, 72, 0, 54, 73) := rfl
theorem nl_15_9 : pmObj 15 9 = none := by decide +kernel
set_option maxRecDepth 20000 in
theorem ml_11_15 : pmMth 11 15 = some (4, 0, mX4_init, 79, 80, 0, 55, 81) := rfl
theorem nl_11_15 : pmObj 11 15 = none := by decide +kernel
set_option maxRecDepth 20000 in
theorem ml_11_22 : pmMth 11 22 = some (2, 1, mX7_init, 145, 146, 0, 56, 147) := rfl
theorem nl_11_22 : pmObj 11 22 = none := by decide +kernel
set_option maxRecDepth 20000 in
theorem ml_11_34 : pmMth 11 34 = some (2, 1, mX10_init, 161, 162, 0, 57, 163) := rfl
theorem nl_11_34 : pmObj 11 34 = none := by decide +kernel
set_option maxRecDepth 20000 in
theorem ml_10_25 : pmMth 10 25 = some (4, 0, mX1_init, 168, 169, 0, 58, 170) := rfl
theorem nl_10_25 : pmObj 10 25 = none := by decide +kernel
set_option maxRecDepth 20000 in
theorem ml_11_44 : pmMth 11 44 = some (2, 1, mX0_init, 234, 235, 0, 59, 236) := rfl
theorem nl_11_44 : pmObj 11 44 = none := by decide +kernel
set_option maxRecDepth 20000 in
theorem ml_0_17 : pmMth 0 17 = some (2, 1, mX10_init, 240, 162, 0, 57, 163) := rfl
theorem nl_0_17 : pmObj 0 17 = none := by decide +kernel
set_option maxRecDepth 20000 in
theorem ml_11_59 : pmMth 11 59 = some (2, 2, mX6_init, 254, 255, 0, 60, 256) := rfl
theorem nl_11_59 : pmObj 11 59 = none := by decide +kernel
set_option maxRecDepth 20000 in
theorem ml_11_68 : pmMth 11 68 = some (2, 1, mX9_init, 268, 269, 0, 61, 270) := rfl
theorem nl_11_68 : pmObj 11 68 = none := by decide +kernel
set_option maxRecDepth 20000 in
theorem ml_11_77 : pmMth 11 77 = some (2, 1, mX5_init, 289, 290, 0, 62, 291) := rfl
theorem nl_11_77 : pmObj 11 77 = none := by decide +kernel
set_option maxRecDepth 20000 in
theorem ml_5_20 : pmMth 5 20 = some (4, 0, mX1_init, 294, 169, 0, 58, 170) := rfl
theorem nl_5_20 : pmObj 5 20 = none := by decide +kernel
set_option maxRecDepth 20000 in
theorem ml_11_84 : pmMth 11 84 = some (2, 2, mX8_init, 314, 315, 0, 63, 316) := rfl
theorem nl_11_84 : pmObj 11 84 = none := by decide +kernel
set_option maxRecDepth 20000 in
theorem ml_11_91 : pmMth 11 91 = some (2, 2, mX2_init, 330, 331, 0, 64, 332) := rfl
theorem nl_11_91 : pmObj 11 91 = none := by decide +kernel
set_option maxRecDepth 20000 in
theorem ml_11_98 : pmMth 11 98 = some (2, 2, mX3_init, 349, 350, 0, 65, 351) := rfl
theorem nl_11_98 : pmObj 11 98 = none := by decide +kernel
set_option maxRecDepth 20000 in
theorem ml_15_13 : pmMth 15 13 = some (0, 1, mX11_write, 413, 414, 415, 54, 416) := rfl
set_option maxRecDepth 20000 in
theorem ml_15_18 : pmMth 15 18 = some (0, 0, mX11_wipe, 417, 418, 419, 54, 420) := rfl
set_option maxRecDepth 20000 in
theorem ml_15_23 : pmMth 15 23 = some (0, 0, mX11_fault, 421, 422, 423, 54, 424) := rfl
set_option maxRecDepth 20000 in
theorem ml_11_107 : pmMth 11 107 = some (0, 2, mX7_read, 425, 426, 427, 56, 428) := rfl
set_option maxRecDepth 20000 in
theorem ml_7_15 : pmMth 7 15 = some (0, 0, mX4_clear, 429, 430, 431, 55, 432) := rfl
set_option maxRecDepth 20000 in
theorem ml_7_24 : pmMth 7 24 = some (0, 1, mX7_takes, 433, 435, 0, 56, 436) := rfl
set_option maxRecDepth 20000 in
theorem ml_7_28 : pmMth 7 28 = some (0, 1, mX7_opensPart, 437, 439, 1, 56, 440) := rfl
set_option maxRecDepth 20000 in
theorem ml_7_31 : pmMth 7 31 = some (0, 1, mX7_takesWind, 441, 443, 2, 56, 444) := rfl
set_option maxRecDepth 20000 in
theorem ml_7_37 : pmMth 7 37 = some (0, 1, mX7_takesStart, 445, 447, 3, 56, 448) := rfl
set_option maxRecDepth 20000 in
theorem ml_7_40 : pmMth 7 40 = some (0, 1, mX7_takesOfBalloon, 449, 451, 4, 56, 452) := rfl
set_option maxRecDepth 20000 in
theorem ml_7_43 : pmMth 7 43 = some (0, 1, mX7_takesHedgeCell, 453, 455, 5, 56, 456) := rfl
set_option maxRecDepth 20000 in
theorem ml_7_71 : pmMth 7 71 = some (0, 1, mX4_hedgeAt, 457, 458, 459, 55, 460) := rfl
set_option maxRecDepth 20000 in
theorem ml_7_46 : pmMth 7 46 = some (0, 1, mX7_takesOfHedge, 461, 463, 6, 56, 464) := rfl
set_option maxRecDepth 20000 in
theorem ml_15_27 : pmMth 15 27 = some (0, 0, mX11_city, 465, 466, 467, 54, 468) := rfl
set_option maxRecDepth 20000 in
theorem ml_11_111 : pmMth 11 111 = some (0, 0, mX10_begin, 469, 470, 471, 57, 472) := rfl
set_option maxRecDepth 20000 in
theorem ml_10_40 : pmMth 10 40 = some (0, 3, mX1_holdAt, 473, 474, 475, 58, 476) := rfl
set_option maxRecDepth 20000 in
theorem ml_11_114 : pmMth 11 114 = some (0, 0, mX0_forget, 477, 478, 479, 59, 480) := rfl
set_option maxRecDepth 20000 in
theorem ml_15_31 : pmMth 15 31 = some (0, 2, mX11_balloon, 481, 482, 483, 54, 484) := rfl
set_option maxRecDepth 20000 in
theorem ml_11_126 : pmMth 11 126 = some (0, 1, mX10_hasBalloon, 485, 486, 487, 57, 488) := rfl
set_option maxRecDepth 20000 in
theorem ml_11_153 : pmMth 11 153 = some (0, 1, mX10_isAnswered, 489, 490, 491, 57, 492) := rfl
set_option maxRecDepth 20000 in
theorem ml_10_108 : pmMth 10 108 = some (0, 1, mX10_whatCame, 493, 494, 495, 57, 496) := rfl
set_option maxRecDepth 20000 in
theorem ml_11_156 : pmMth 11 156 = some (0, 1, mX10_isGlad, 497, 498, 499, 57, 500) := rfl
set_option maxRecDepth 20000 in
theorem ml_10_114 : pmMth 10 114 = some (0, 0, mX10_gladChildren, 501, 502, 503, 57, 504) := rfl
set_option maxRecDepth 20000 in
theorem ml_10_118 : pmMth 10 118 = some (0, 2, mX10_gladdens, 505, 506, 507, 57, 508) := rfl
set_option maxRecDepth 20000 in
theorem ml_15_36 : pmMth 15 36 = some (0, 2, mX11_hedge, 509, 510, 511, 54, 512) := rfl
set_option maxRecDepth 20000 in
theorem ml_11_159 : pmMth 11 159 = some (0, 1, mX4_hasHedge, 513, 514, 515, 55, 516) := rfl
set_option maxRecDepth 20000 in
theorem ml_11_171 : pmMth 11 171 = some (0, 1, mX10_caughtIn, 517, 518, 519, 57, 520) := rfl
set_option maxRecDepth 20000 in
theorem ml_15_40 : pmMth 15 40 = some (0, 1, mX11_let, 521, 522, 523, 54, 524) := rfl
set_option maxRecDepth 20000 in
theorem ml_11_175 : pmMth 11 175 = some (0, 2, mX10_is, 525, 526, 527, 57, 528) := rfl
set_option maxRecDepth 20000 in
theorem ml_10_48 : pmMth 10 48 = some (0, 1, mX10_hasBalloon, 529, 486, 487, 57, 488) := rfl
set_option maxRecDepth 20000 in
theorem ml_11_179 : pmMth 11 179 = some (0, 1, mX0_remember, 530, 531, 532, 59, 533) := rfl
set_option maxRecDepth 20000 in
theorem ml_0_27 : pmMth 0 27 = some (0, 1, mX10_takeFrom, 534, 535, 536, 57, 537) := rfl
set_option maxRecDepth 20000 in
theorem ml_10_44 : pmMth 10 44 = some (0, 1, mX1_takeFrom, 538, 539, 540, 58, 541) := rfl
set_option maxRecDepth 20000 in
theorem ml_11_182 : pmMth 11 182 = some (0, 1, mX10_letGo, 542, 543, 544, 57, 545) := rfl
set_option maxRecDepth 20000 in
theorem ml_10_55 : pmMth 10 55 = some (0, 2, mX10_is, 546, 526, 527, 57, 528) := rfl
set_option maxRecDepth 20000 in
theorem ml_11_185 : pmMth 11 185 = some (0, 1, mX10_allThatAre, 547, 548, 549, 57, 550) := rfl
set_option maxRecDepth 20000 in
theorem ml_11_188 : pmMth 11 188 = some (1, 1, mJ6_bitCount_0f7a4, 551, 552, 0, 67, 553) := rfl
set_option maxRecDepth 20000 in
theorem ml_15_44 : pmMth 15 44 = some (0, 0, mX11_hour, 557, 558, 559, 54, 560) := rfl
set_option maxRecDepth 20000 in
theorem ml_11_193 : pmMth 11 193 = some (0, 0, mX10_passHour, 561, 562, 563, 57, 564) := rfl
set_option maxRecDepth 20000 in
theorem ml_10_66 : pmMth 10 66 = some (0, 1, mX4_windOf, 565, 566, 567, 55, 568) := rfl
set_option maxRecDepth 20000 in
theorem ml_4_43 : pmMth 4 43 = some (1, 2, mJ9_floorMod_7cf53, 569, 570, 0, 68, 571) := rfl
set_option maxRecDepth 20000 in
theorem ml_10_70 : pmMth 10 70 = some (0, 1, mX10_passHourBy, 572, 573, 574, 57, 575) := rfl
set_option maxRecDepth 20000 in
theorem ml_10_73 : pmMth 10 73 = some (0, 2, mX1_goBy, 576, 577, 578, 58, 579) := rfl
set_option maxRecDepth 20000 in
theorem ml_1_33 : pmMth 1 33 = some (0, 1, mX1_goOneCell, 580, 582, 7, 58, 583) := rfl
set_option maxRecDepth 20000 in
theorem ml_10_77 : pmMth 10 77 = some (0, 1, mX10_catches, 584, 586, 8, 57, 587) := rfl
set_option maxRecDepth 20000 in
theorem ml_10_84 : pmMth 10 84 = some (0, 1, mX4_hedgeAt, 588, 458, 459, 55, 460) := rfl
set_option maxRecDepth 20000 in
theorem ml_10_87 : pmMth 10 87 = some (0, 1, mX10_stands, 589, 591, 9, 57, 592) := rfl
set_option maxRecDepth 20000 in
theorem ml_10_90 : pmMth 10 90 = some (0, 2, mX1_catchIn, 593, 594, 595, 58, 596) := rfl
set_option maxRecDepth 20000 in
theorem ml_15_48 : pmMth 15 48 = some (0, 1, mX11_free, 597, 598, 599, 54, 600) := rfl
set_option maxRecDepth 20000 in
theorem ml_11_197 : pmMth 11 197 = some (0, 1, mX10_setFree, 601, 602, 603, 57, 604) := rfl
set_option maxRecDepth 20000 in
theorem ml_10_59 : pmMth 10 59 = some (0, 1, mX1_leaveHedge, 605, 606, 607, 58, 608) := rfl
set_option maxRecDepth 20000 in
theorem ml_15_52 : pmMth 15 52 = some (0, 2, mX11_right, 609, 610, 611, 54, 612) := rfl
set_option maxRecDepth 20000 in
theorem ml_11_200 : pmMth 11 200 = some (0, 2, mX10_putRight, 613, 614, 615, 57, 616) := rfl
set_option maxRecDepth 20000 in
theorem ml_11_203 : pmMth 11 203 = some (0, 0, mX10_gladChildren, 617, 502, 503, 57, 504) := rfl
set_option maxRecDepth 20000 in
theorem ml_15_56 : pmMth 15 56 = some (0, 0, mX11_undo, 618, 619, 620, 54, 621) := rfl
set_option maxRecDepth 20000 in
theorem ml_11_209 : pmMth 11 209 = some (0, 1, mX0_takeBack, 622, 623, 624, 59, 625) := rfl
set_option maxRecDepth 20000 in
theorem ml_15_60 : pmMth 15 60 = some (0, 3, mX11_later, 626, 627, 628, 54, 629) := rfl
set_option maxRecDepth 20000 in
theorem ml_11_212 : pmMth 11 212 = some (0, 1, mX6_lookAhead, 630, 631, 632, 60, 633) := rfl
set_option maxRecDepth 20000 in
theorem ml_6_18 : pmMth 6 18 = some (0, 1, mX10_takeFrom, 634, 535, 536, 57, 537) := rfl
set_option maxRecDepth 20000 in
theorem ml_6_24 : pmMth 6 24 = some (0, 1, mX10_passHours, 635, 636, 637, 57, 638) := rfl
set_option maxRecDepth 20000 in
theorem ml_15_65 : pmMth 15 65 = some (0, 1, mX11_comes, 639, 640, 641, 54, 642) := rfl
set_option maxRecDepth 20000 in
theorem ml_11_216 : pmMth 11 216 = some (0, 1, mX6_hoursToAnswer, 643, 644, 645, 60, 646) := rfl
set_option maxRecDepth 20000 in
theorem ml_6_28 : pmMth 6 28 = some (0, 1, mX10_isAnswered, 647, 490, 491, 57, 492) := rfl
set_option maxRecDepth 20000 in
theorem ml_6_32 : pmMth 6 32 = some (0, 0, mX10_passHour, 648, 562, 563, 57, 564) := rfl
set_option maxRecDepth 20000 in
theorem ml_15_69 : pmMth 15 69 = some (0, 1, mX11_best, 649, 650, 651, 54, 652) := rfl
set_option maxRecDepth 20000 in
theorem ml_11_219 : pmMth 11 219 = some (0, 1, mX6_hoursToLetting, 653, 654, 655, 60, 656) := rfl
set_option maxRecDepth 20000 in
theorem ml_6_36 : pmMth 6 36 = some (0, 2, mX6_endsWellIfLetIn, 657, 659, 10, 60, 660) := rfl
set_option maxRecDepth 20000 in
theorem ml_6_40 : pmMth 6 40 = some (0, 1, mX10_letGo, 661, 543, 544, 57, 545) := rfl
set_option maxRecDepth 20000 in
theorem ml_6_57 : pmMth 6 57 = some (0, 1, mX4_hasHedge, 662, 514, 515, 55, 516) := rfl
set_option maxRecDepth 20000 in
theorem ml_15_73 : pmMth 15 73 = some (0, 1, mX11_most, 663, 664, 665, 54, 666) := rfl
set_option maxRecDepth 20000 in
theorem ml_11_222 : pmMth 11 222 = some (0, 0, mX9_tryAllOrders, 667, 668, 669, 61, 670) := rfl
set_option maxRecDepth 20000 in
theorem ml_9_40 : pmMth 9 40 = some (0, 1, mX9_layOut, 673, 675, 11, 61, 676) := rfl
set_option maxRecDepth 20000 in
theorem ml_9_44 : pmMth 9 44 = some (0, 0, mX9_gladByOrder, 677, 679, 12, 61, 680) := rfl
set_option maxRecDepth 20000 in
theorem ml_9_56 : pmMth 9 56 = some (0, 2, mX10_gladdens, 681, 506, 507, 57, 508) := rfl
set_option maxRecDepth 20000 in
theorem ml_15_79 : pmMth 15 79 = some (0, 2, mX11_judge, 682, 683, 684, 54, 685) := rfl
set_option maxRecDepth 20000 in
theorem ml_11_235 : pmMth 11 235 = some (0, 2, mX6_firstThatCannotBe, 688, 689, 690, 60, 691) := rfl
set_option maxRecDepth 20000 in
theorem ml_6_75 : pmMth 6 75 = some (0, 3, mX6_canBe, 694, 696, 13, 60, 697) := rfl
set_option maxRecDepth 20000 in
theorem ml_6_79 : pmMth 6 79 = some (0, 1, mX10_setFree, 698, 602, 603, 57, 604) := rfl
set_option maxRecDepth 20000 in
theorem ml_6_82 : pmMth 6 82 = some (0, 2, mX10_putRight, 699, 614, 615, 57, 616) := rfl
set_option maxRecDepth 20000 in
theorem ml_6_85 : pmMth 6 85 = some (0, 1, mX10_isGlad, 700, 498, 499, 57, 500) := rfl
set_option maxRecDepth 20000 in
theorem ml_15_84 : pmMth 15 84 = some (0, 2, mX11_find, 701, 702, 703, 54, 704) := rfl
set_option maxRecDepth 20000 in
theorem ml_11_240 : pmMth 11 240 = some (0, 2, mX5_add, 705, 706, 707, 62, 708) := rfl
set_option maxRecDepth 20000 in
theorem ml_15_88 : pmMth 15 88 = some (0, 0, mX11_lose, 709, 710, 711, 54, 712) := rfl
set_option maxRecDepth 20000 in
theorem ml_15_92 : pmMth 15 92 = some (0, 1, mX11_began, 713, 714, 715, 54, 716) := rfl
set_option maxRecDepth 20000 in
theorem ml_11_244 : pmMth 11 244 = some (0, 1, mX5_cellsOfLetting, 717, 718, 719, 62, 720) := rfl
set_option maxRecDepth 20000 in
theorem ml_5_33 : pmMth 5 33 = some (0, 2, mX5_agreesFrom, 721, 723, 14, 62, 724) := rfl
set_option maxRecDepth 20000 in
theorem ml_5_37 : pmMth 5 37 = some (0, 3, mX1_holdAt, 725, 474, 475, 58, 476) := rfl
set_option maxRecDepth 20000 in
theorem ml_5_44 : pmMth 5 44 = some (0, 1, mX5_agreesBehind, 726, 728, 15, 62, 729) := rfl
set_option maxRecDepth 20000 in
theorem ml_5_48 : pmMth 5 48 = some (0, 1, mX4_windOf, 730, 566, 567, 55, 568) := rfl
set_option maxRecDepth 20000 in
theorem ml_5_54 : pmMth 5 54 = some (0, 2, mX1_goBy, 731, 577, 578, 58, 579) := rfl
set_option maxRecDepth 20000 in
theorem ml_15_96 : pmMth 15 96 = some (0, 2, mX11_share, 732, 733, 734, 54, 735) := rfl
set_option maxRecDepth 20000 in
theorem ml_11_247 : pmMth 11 247 = some (0, 1, mX8_sumOverOrders, 736, 737, 738, 63, 739) := rfl
set_option maxRecDepth 20000 in
theorem ml_8_34 : pmMth 8 34 = some (0, 1, mX4_hasHedge, 740, 514, 515, 55, 516) := rfl
set_option maxRecDepth 20000 in
theorem ml_8_38 : pmMth 8 38 = some (0, 1, mX8_weighAllSets, 741, 743, 16, 63, 744) := rfl
set_option maxRecDepth 20000 in
theorem ml_8_51 : pmMth 8 51 = some (0, 1, mX10_takeFrom, 745, 535, 536, 57, 537) := rfl
set_option maxRecDepth 20000 in
theorem ml_8_55 : pmMth 8 55 = some (0, 1, mX10_leaveStanding, 746, 747, 748, 57, 749) := rfl
set_option maxRecDepth 20000 in
theorem ml_8_58 : pmMth 8 58 = some (0, 1, mX10_passHours, 750, 636, 637, 57, 638) := rfl
set_option maxRecDepth 20000 in
theorem ml_8_61 : pmMth 8 61 = some (0, 0, mX10_gladChildren, 751, 502, 503, 57, 504) := rfl
set_option maxRecDepth 20000 in
theorem ml_8_42 : pmMth 8 42 = some (1, 1, mJ6_bitCount_0f7a4, 752, 552, 0, 67, 553) := rfl
set_option maxRecDepth 20000 in
theorem ml_11_253 : pmMth 11 253 = some (1, 3, mX11_inLeastTerms, 755, 756, 0, 54, 757) := rfl
set_option maxRecDepth 20000 in
theorem ml_11_293 : pmMth 11 293 = some (1, 1, mJ9_abs_0f7a4, 758, 759, 0, 68, 760) := rfl
set_option maxRecDepth 20000 in
theorem ml_11_298 : pmMth 11 298 = some (1, 2, mX11_greatestCommon, 761, 762, 0, 54, 763) := rfl
set_option maxRecDepth 20000 in
theorem ml_15_101 : pmMth 15 101 = some (0, 3, mX11_rests, 764, 765, 766, 54, 767) := rfl
set_option maxRecDepth 20000 in
theorem ml_11_257 : pmMth 11 257 = some (0, 2, mX2_tryAllPairs, 768, 769, 770, 64, 771) := rfl
set_option maxRecDepth 20000 in
theorem ml_2_25 : pmMth 2 25 = some (0, 1, mX10_takeFrom, 772, 535, 536, 57, 537) := rfl
set_option maxRecDepth 20000 in
theorem ml_2_31 : pmMth 2 31 = some (0, 1, mX10_letGo, 773, 543, 544, 57, 545) := rfl
set_option maxRecDepth 20000 in
theorem ml_2_35 : pmMth 2 35 = some (0, 1, mX10_passHours, 774, 636, 637, 57, 638) := rfl
set_option maxRecDepth 20000 in
theorem ml_2_39 : pmMth 2 39 = some (0, 2, mX2_caughtTogether, 775, 777, 17, 64, 778) := rfl
set_option maxRecDepth 20000 in
theorem ml_2_47 : pmMth 2 47 = some (0, 2, mX10_is, 779, 526, 527, 57, 528) := rfl
set_option maxRecDepth 20000 in
theorem ml_2_43 : pmMth 2 43 = some (0, 1, mX2_ownJoy, 780, 782, 18, 64, 783) := rfl
set_option maxRecDepth 20000 in
theorem ml_2_60 : pmMth 2 60 = some (0, 1, mX10_isGlad, 784, 498, 499, 57, 500) := rfl
set_option maxRecDepth 20000 in
theorem ml_11_260 : pmMth 11 260 = some (0, 0, mX2_howManyRest, 785, 786, 787, 64, 788) := rfl
set_option maxRecDepth 20000 in
theorem ml_2_63 : pmMth 2 63 = some (0, 1, mX2_isAtRest, 789, 791, 19, 64, 792) := rfl
set_option maxRecDepth 20000 in
theorem ml_11_263 : pmMth 11 263 = some (0, 0, mX2_firstAtRest, 793, 794, 795, 64, 796) := rfl
set_option maxRecDepth 20000 in
theorem ml_15_105 : pmMth 15 105 = some (0, 5, mX11_fails, 797, 798, 799, 54, 800) := rfl
set_option maxRecDepth 20000 in
theorem ml_11_266 : pmMth 11 266 = some (0, 4, mX3_waysCaught, 801, 802, 803, 65, 804) := rfl
set_option maxRecDepth 20000 in
theorem ml_3_18 : pmMth 3 18 = some (1, 1, mJ6_bitCount_0f7a4, 805, 552, 0, 67, 553) := rfl
set_option maxRecDepth 20000 in
theorem ml_3_24 : pmMth 3 24 = some (5, 2, mX11_power, 806, 807, 0, 54, 808) := rfl
set_option maxRecDepth 20000 in
theorem ml_3_28 : pmMth 3 28 = some (0, 4, mX3_isCaughtIf, 809, 811, 20, 65, 812) := rfl
set_option maxRecDepth 20000 in
theorem ml_3_32 : pmMth 3 32 = some (0, 1, mX10_takeFrom, 813, 535, 536, 57, 537) := rfl
set_option maxRecDepth 20000 in
theorem ml_3_38 : pmMth 3 38 = some (0, 1, mX10_passHourBy, 814, 573, 574, 57, 575) := rfl
set_option maxRecDepth 20000 in
theorem ml_3_41 : pmMth 3 41 = some (0, 0, mX10_passHour, 815, 562, 563, 57, 564) := rfl
set_option maxRecDepth 20000 in
theorem ml_11_270 : pmMth 11 270 = some (1, 2, mX11_power, 816, 807, 0, 54, 808) := rfl
set_option maxRecDepth 20000 in
theorem ml_15_110 : pmMth 15 110 = some (0, 1, mX11_seed, 817, 818, 819, 54, 820) := rfl
set_option maxRecDepth 20000 in
theorem ml_15_115 : pmMth 15 115 = some (0, 1, mX11_years, 821, 822, 823, 54, 824) := rfl
set_option maxRecDepth 20000 in
theorem ml_11_278 : pmMth 11 278 = some (0, 1, mX3_gladOverYears, 825, 826, 827, 65, 828) := rfl
set_option maxRecDepth 20000 in
theorem ml_3_65 : pmMth 3 65 = some (0, 1, mX3_doIfItCanBe, 832, 834, 21, 65, 835) := rfl
set_option maxRecDepth 20000 in
theorem ml_3_72 : pmMth 3 72 = some (0, 1, mX10_letGo, 836, 543, 544, 57, 545) := rfl
set_option maxRecDepth 20000 in
theorem ml_3_76 : pmMth 3 76 = some (0, 1, mX10_setFree, 837, 602, 603, 57, 604) := rfl
set_option maxRecDepth 20000 in
theorem ml_3_79 : pmMth 3 79 = some (0, 2, mX10_putRight, 838, 614, 615, 57, 616) := rfl
set_option maxRecDepth 20000 in
theorem ml_3_69 : pmMth 3 69 = some (0, 0, mX10_gladChildren, 839, 502, 503, 57, 504) := rfl
set_option maxRecDepth 20000 in
theorem ml_15_119 : pmMth 15 119 = some (0, 1, mX11_keep, 840, 841, 842, 54, 843) := rfl
set_option maxRecDepth 20000 in
theorem ml_11_281 : pmMth 11 281 = some (0, 1, mX10_takeFrom, 844, 535, 536, 57, 537) := rfl
set_option maxRecDepth 20000 in
theorem ml_15_123 : pmMth 15 123 = some (0, 1, mX11_again, 845, 846, 847, 54, 848) := rfl
set_option maxRecDepth 20000 in
theorem ml_15_127 : pmMth 15 127 = some (0, 1, mX11_count, 849, 850, 851, 54, 852) := rfl
set_option maxRecDepth 20000 in
theorem ml_11_287 : pmMth 11 287 = some (0, 1, mX4_windOf, 853, 566, 567, 55, 568) := rfl
set_option maxRecDepth 20000 in
theorem ml_11_290 : pmMth 11 290 = some (0, 0, mX10_answeredBalloons, 854, 855, 856, 57, 857) := rfl
set_option maxRecDepth 20000 in
theorem ml_10_121 : pmMth 10 121 = some (0, 1, mX10_isAnswered, 858, 490, 491, 57, 492) := rfl
set_option maxRecDepth 20000 in
theorem ml_15_12 : pmMth 15 12 = some (2, 0, mX12_init, 861, 862, 0, 66, 863) := rfl
theorem nl_15_12 : pmObj 15 12 = none := by decide +kernel
set_option maxRecDepth 20000 in
theorem ml_15_17 : pmMth 15 17 = some (0, 1, mX12_write, 965, 966, 967, 66, 968) := rfl
set_option maxRecDepth 20000 in
theorem ml_12_71 : pmMth 12 71 = some (1, 3, mX12_in, 970, 971, 0, 66, 972) := rfl
set_option maxRecDepth 20000 in
theorem ml_15_22 : pmMth 15 22 = some (0, 0, mX12_wipe, 973, 974, 975, 66, 976) := rfl
set_option maxRecDepth 20000 in
theorem ml_15_26 : pmMth 15 26 = some (0, 0, mX12_fault, 977, 978, 979, 66, 980) := rfl
set_option maxRecDepth 20000 in
theorem ml_12_113 : pmMth 12 113 = some (0, 0, mX12_readText, 981, 983, 22, 66, 984) := rfl
set_option maxRecDepth 20000 in
theorem ml_12_102 : pmMth 12 102 = some (0, 1, mX12_readPart, 985, 987, 23, 66, 988) := rfl
set_option maxRecDepth 20000 in
theorem ml_12_106 : pmMth 12 106 = some (0, 1, mX12_figureOf, 989, 991, 24, 66, 992) := rfl
set_option maxRecDepth 20000 in
theorem ml_12_110 : pmMth 12 110 = some (0, 1, mX12_cellOf, 993, 995, 25, 66, 996) := rfl
set_option maxRecDepth 20000 in
theorem ml_12_86 : pmMth 12 86 = some (1, 2, mX12_has, 998, 999, 0, 66, 1000) := rfl
set_option maxRecDepth 20000 in
theorem ml_15_30 : pmMth 15 30 = some (0, 0, mX12_city, 1001, 1002, 1003, 66, 1004) := rfl
set_option maxRecDepth 20000 in
theorem ml_15_35 : pmMth 15 35 = some (0, 2, mX12_balloon, 1005, 1006, 1007, 66, 1008) := rfl
set_option maxRecDepth 20000 in
theorem ml_12_152 : pmMth 12 152 = some (0, 1, mX12_isBalloon, 1009, 1011, 26, 66, 1012) := rfl
set_option maxRecDepth 20000 in
theorem ml_12_146 : pmMth 12 146 = some (0, 2, mX12_isAnswered, 1013, 1015, 27, 66, 1016) := rfl
set_option maxRecDepth 20000 in
theorem ml_12_156 : pmMth 12 156 = some (0, 1, mX12_glad, 1017, 1019, 28, 66, 1020) := rfl
set_option maxRecDepth 20000 in
theorem ml_12_149 : pmMth 12 149 = some (0, 2, mX12_brings, 1021, 1023, 29, 66, 1024) := rfl
set_option maxRecDepth 20000 in
theorem ml_15_39 : pmMth 15 39 = some (0, 2, mX12_hedge, 1025, 1026, 1027, 66, 1028) := rfl
set_option maxRecDepth 20000 in
theorem ml_12_159 : pmMth 12 159 = some (0, 1, mX12_isHedge, 1029, 1031, 30, 66, 1032) := rfl
set_option maxRecDepth 20000 in
theorem ml_12_162 : pmMth 12 162 = some (0, 1, mX12_caughtIn, 1033, 1035, 31, 66, 1036) := rfl
set_option maxRecDepth 20000 in
theorem ml_15_43 : pmMth 15 43 = some (0, 1, mX12_let, 1037, 1038, 1039, 66, 1040) := rfl
set_option maxRecDepth 20000 in
theorem ml_12_168 : pmMth 12 168 = some (0, 0, mX12_keepAct, 1041, 1043, 32, 66, 1044) := rfl
set_option maxRecDepth 20000 in
theorem ml_12_171 : pmMth 12 171 = some (0, 2, mX12_whoIs, 1045, 1047, 33, 66, 1048) := rfl
set_option maxRecDepth 20000 in
theorem ml_12_174 : pmMth 12 174 = some (1, 1, mX12_ones, 1049, 1050, 0, 66, 1051) := rfl
set_option maxRecDepth 20000 in
theorem ml_15_47 : pmMth 15 47 = some (0, 0, mX12_hour, 1052, 1053, 1054, 66, 1055) := rfl
set_option maxRecDepth 20000 in
theorem ml_12_177 : pmMth 12 177 = some (0, 2, mX12_passOn, 1056, 1058, 34, 66, 1059) := rfl
set_option maxRecDepth 20000 in
theorem ml_12_137 : pmMth 12 137 = some (0, 1, mX12_windOf, 1060, 1062, 35, 66, 1063) := rfl
set_option maxRecDepth 20000 in
theorem ml_12_140 : pmMth 12 140 = some (0, 3, mX12_go, 1064, 1066, 36, 66, 1067) := rfl
set_option maxRecDepth 20000 in
theorem ml_12_133 : pmMth 12 133 = some (0, 3, mX12_goOne, 1068, 1070, 37, 66, 1071) := rfl
set_option maxRecDepth 20000 in
theorem ml_12_129 : pmMth 12 129 = some (1, 2, mX12_blown, 1072, 1073, 0, 66, 1074) := rfl
set_option maxRecDepth 20000 in
theorem ml_12_143 : pmMth 12 143 = some (0, 1, mX12_hedgeAt, 1075, 1077, 38, 66, 1078) := rfl
set_option maxRecDepth 20000 in
theorem ml_15_51 : pmMth 15 51 = some (0, 1, mX12_free, 1079, 1080, 1081, 66, 1082) := rfl
set_option maxRecDepth 20000 in
theorem ml_15_55 : pmMth 15 55 = some (0, 2, mX12_right, 1083, 1084, 1085, 66, 1086) := rfl
set_option maxRecDepth 20000 in
theorem ml_12_181 : pmMth 12 181 = some (0, 3, mX12_exchange, 1087, 1089, 39, 66, 1090) := rfl
set_option maxRecDepth 20000 in
theorem ml_15_59 : pmMth 15 59 = some (0, 0, mX12_undo, 1091, 1092, 1093, 66, 1094) := rfl
set_option maxRecDepth 20000 in
theorem ml_15_64 : pmMth 15 64 = some (0, 3, mX12_later, 1095, 1096, 1097, 66, 1098) := rfl
set_option maxRecDepth 20000 in
theorem ml_12_186 : pmMth 12 186 = some (0, 0, mX12_layTrial, 1100, 1102, 40, 66, 1103) := rfl
set_option maxRecDepth 20000 in
theorem ml_12_189 : pmMth 12 189 = some (0, 1, mX12_goOn, 1104, 1106, 41, 66, 1107) := rfl
set_option maxRecDepth 20000 in
theorem ml_15_68 : pmMth 15 68 = some (0, 1, mX12_comes, 1108, 1109, 1110, 66, 1111) := rfl
set_option maxRecDepth 20000 in
theorem ml_15_72 : pmMth 15 72 = some (0, 1, mX12_best, 1112, 1113, 1114, 66, 1115) := rfl
set_option maxRecDepth 20000 in
theorem ml_12_192 : pmMth 12 192 = some (0, 2, mX12_isWellLet, 1116, 1118, 42, 66, 1119) := rfl
set_option maxRecDepth 20000 in
theorem ml_15_76 : pmMth 15 76 = some (0, 1, mX12_most, 1120, 1121, 1122, 66, 1123) := rfl
set_option maxRecDepth 20000 in
theorem ml_12_198 : pmMth 12 198 = some (0, 1, mX12_isOrder, 1124, 1126, 43, 66, 1127) := rfl
set_option maxRecDepth 20000 in
theorem ml_12_201 : pmMth 12 201 = some (0, 0, mX12_gladBy, 1128, 1130, 44, 66, 1131) := rfl
set_option maxRecDepth 20000 in
theorem ml_12_204 : pmMth 12 204 = some (0, 0, mX12_exchanges, 1132, 1134, 45, 66, 1135) := rfl
set_option maxRecDepth 20000 in
theorem ml_12_195 : pmMth 12 195 = some (0, 1, mX12_balloonTo, 1136, 1138, 46, 66, 1139) := rfl
set_option maxRecDepth 20000 in
theorem ml_15_83 : pmMth 15 83 = some (0, 2, mX12_judge, 1140, 1141, 1142, 66, 1143) := rfl
set_option maxRecDepth 20000 in
theorem ml_12_211 : pmMth 12 211 = some (1, 1, mX12_thousandTo, 1145, 1146, 0, 66, 1147) := rfl
set_option maxRecDepth 20000 in
theorem ml_12_215 : pmMth 12 215 = some (0, 3, mX12_tryThing, 1149, 1151, 47, 66, 1152) := rfl
set_option maxRecDepth 20000 in
theorem ml_15_87 : pmMth 15 87 = some (0, 2, mX12_find, 1153, 1154, 1155, 66, 1156) := rfl
set_option maxRecDepth 20000 in
theorem ml_12_219 : pmMth 12 219 = some (1, 1, mX12_isCell, 1157, 1158, 0, 66, 1159) := rfl
set_option maxRecDepth 20000 in
theorem ml_15_91 : pmMth 15 91 = some (0, 0, mX12_lose, 1161, 1162, 1163, 66, 1164) := rfl
set_option maxRecDepth 20000 in
theorem ml_15_95 : pmMth 15 95 = some (0, 1, mX12_began, 1165, 1166, 1167, 66, 1168) := rfl
set_option maxRecDepth 20000 in
theorem ml_12_229 : pmMth 12 229 = some (0, 3, mX12_behind, 1170, 1172, 48, 66, 1173) := rfl
set_option maxRecDepth 20000 in
theorem ml_15_100 : pmMth 15 100 = some (0, 2, mX12_share, 1174, 1175, 1176, 66, 1177) := rfl
set_option maxRecDepth 20000 in
theorem ml_12_233 : pmMth 12 233 = some (1, 1, mX12_factorial, 1178, 1179, 0, 66, 1180) := rfl
set_option maxRecDepth 20000 in
theorem ml_12_236 : pmMth 12 236 = some (0, 1, mX12_gladOf, 1181, 1183, 49, 66, 1184) := rfl
set_option maxRecDepth 20000 in
theorem ml_12_239 : pmMth 12 239 = some (1, 2, mX12_common, 1185, 1186, 0, 66, 1187) := rfl
set_option maxRecDepth 20000 in
theorem ml_15_104 : pmMth 15 104 = some (0, 3, mX12_rests, 1188, 1189, 1190, 66, 1191) := rfl
set_option maxRecDepth 20000 in
theorem ml_12_246 : pmMth 12 246 = some (0, 4, mX12_isRest, 1192, 1194, 50, 66, 1195) := rfl
set_option maxRecDepth 20000 in
theorem ml_12_242 : pmMth 12 242 = some (0, 4, mX12_gain, 1196, 1198, 51, 66, 1199) := rfl
set_option maxRecDepth 20000 in
theorem ml_15_109 : pmMth 15 109 = some (0, 5, mX12_fails, 1200, 1201, 1202, 66, 1203) := rfl
set_option maxRecDepth 20000 in
theorem ml_12_254 : pmMth 12 254 = some (1, 2, mX12_power, 1206, 1207, 0, 66, 1208) := rfl
set_option maxRecDepth 20000 in
theorem ml_15_114 : pmMth 15 114 = some (0, 1, mX12_seed, 1209, 1210, 1211, 66, 1212) := rfl
set_option maxRecDepth 20000 in
theorem ml_15_118 : pmMth 15 118 = some (0, 1, mX12_years, 1213, 1214, 1215, 66, 1216) := rfl
set_option maxRecDepth 20000 in
theorem ml_15_122 : pmMth 15 122 = some (0, 1, mX12_keep, 1221, 1222, 1223, 66, 1224) := rfl
set_option maxRecDepth 20000 in
theorem ml_15_126 : pmMth 15 126 = some (0, 1, mX12_again, 1225, 1226, 1227, 66, 1228) := rfl
set_option maxRecDepth 20000 in
theorem ml_15_130 : pmMth 15 130 = some (0, 1, mX12_count, 1229, 1230, 1231, 66, 1232) := rfl
set_option maxRecDepth 20000 in
theorem ml_12_269 : pmMth 12 269 = some (0, 1, mX12_answered, 1233, 1235, 52, 66, 1236) := rfl
theorem il_13_265 : pmKI 13 265 = some (nI 1431655765, 554) := by decide +kernel
theorem il_13_266 : pmKI 13 266 = some (nI 858993459, 555) := by decide +kernel
theorem il_13_267 : pmKI 13 267 = some (nI 252645135, 556) := by decide +kernel
theorem jl_6_73 : pmKJ 6 73 = some (lN 1000, 693) := by decide +kernel
theorem jl_3_59 : pmKJ 3 59 = some (lN 6364136223846793005, 829) := by decide +kernel
theorem jl_3_61 : pmKJ 3 61 = some (lN 1442695040888963407, 830) := by decide +kernel
theorem jl_3_63 : pmKJ 3 63 = some (lN 24, 831) := by decide +kernel
theorem jl_12_69 : pmKJ 12 69 = some (lN 255, 969) := by decide +kernel
theorem jl_12_84 : pmKJ 12 84 = some (lN 19, 997) := by decide +kernel
theorem jl_12_184 : pmKJ 12 184 = some (lN 20, 1099) := by decide +kernel
theorem jl_12_209 : pmKJ 12 209 = some (lN 4, 1144) := by decide +kernel
theorem jl_12_207 : pmKJ 12 207 = some (lN 1000, 1148) := by decide +kernel
theorem jl_12_222 : pmKJ 12 222 = some (lN 9, 1160) := by decide +kernel
theorem jl_12_227 : pmKJ 12 227 = some (lN 3, 1169) := by decide +kernel
theorem jl_12_250 : pmKJ 12 250 = some (lN 6, 1204) := by decide +kernel
theorem jl_12_252 : pmKJ 12 252 = some (lN 10, 1205) := by decide +kernel
theorem jl_12_261 : pmKJ 12 261 = some (lN 30, 1217) := by decide +kernel
theorem jl_12_263 : pmKJ 12 263 = some (lN 6364136223846793005, 1218) := by decide +kernel
theorem jl_12_265 : pmKJ 12 265 = some (lN 1442695040888963407, 1219) := by decide +kernel
theorem jl_12_267 : pmKJ 12 267 = some (lN 24, 1220) := by decide +kernel
theorem jl_15_77 : pmKJ 15 77 = some (lN 4294967295, 1237) := by decide +kernel
theorem kcX0_init : mX0_init.2.2.1 = cX0_init := rfl
theorem kcX0_forget : mX0_forget.2.2.1 = cX0_forget := rfl
theorem kcX0_remember : mX0_remember.2.2.1 = cX0_remember := rfl
theorem kcX0_takeBack : mX0_takeBack.2.2.1 = cX0_takeBack := rfl
theorem kcX1_init : mX1_init.2.2.1 = cX1_init := rfl
theorem kcX1_holdAt : mX1_holdAt.2.2.1 = cX1_holdAt := rfl
theorem kcX1_takeFrom : mX1_takeFrom.2.2.1 = cX1_takeFrom := rfl
theorem kcX1_goBy : mX1_goBy.2.2.1 = cX1_goBy := rfl
theorem kcX1_goOneCell : mX1_goOneCell.2.2.1 = cX1_goOneCell := rfl
theorem kcX1_catchIn : mX1_catchIn.2.2.1 = cX1_catchIn := rfl
theorem kcX1_leaveHedge : mX1_leaveHedge.2.2.1 = cX1_leaveHedge := rfl
theorem kcX2_init : mX2_init.2.2.1 = cX2_init := rfl
theorem kcX2_tryAllPairs : mX2_tryAllPairs.2.2.1 = cX2_tryAllPairs := rfl
theorem kcX2_caughtTogether : mX2_caughtTogether.2.2.1 = cX2_caughtTogether := rfl
theorem kcX2_ownJoy : mX2_ownJoy.2.2.1 = cX2_ownJoy := rfl
theorem kcX2_isAtRest : mX2_isAtRest.2.2.1 = cX2_isAtRest := rfl
theorem kcX2_howManyRest : mX2_howManyRest.2.2.1 = cX2_howManyRest := rfl
theorem kcX2_firstAtRest : mX2_firstAtRest.2.2.1 = cX2_firstAtRest := rfl
theorem kcX3_init : mX3_init.2.2.1 = cX3_init := rfl
theorem kcX3_waysCaught : mX3_waysCaught.2.2.1 = cX3_waysCaught := rfl
theorem kcX3_isCaughtIf : mX3_isCaughtIf.2.2.1 = cX3_isCaughtIf := rfl
theorem kcX3_gladOverYears : mX3_gladOverYears.2.2.1 = cX3_gladOverYears := rfl
theorem kcX3_doIfItCanBe : mX3_doIfItCanBe.2.2.1 = cX3_doIfItCanBe := rfl
theorem kcX4_init : mX4_init.2.2.1 = cX4_init := rfl
theorem kcX4_clear : mX4_clear.2.2.1 = cX4_clear := rfl
theorem kcX4_windOf : mX4_windOf.2.2.1 = cX4_windOf := rfl
theorem kcX4_hasHedge : mX4_hasHedge.2.2.1 = cX4_hasHedge := rfl
theorem kcX4_hedgeAt : mX4_hedgeAt.2.2.1 = cX4_hedgeAt := rfl
theorem kcX5_init : mX5_init.2.2.1 = cX5_init := rfl
theorem kcX5_add : mX5_add.2.2.1 = cX5_add := rfl
theorem kcX5_cellsOfLetting : mX5_cellsOfLetting.2.2.1 = cX5_cellsOfLetting := rfl
theorem kcX5_agreesFrom : mX5_agreesFrom.2.2.1 = cX5_agreesFrom := rfl
theorem kcX5_agreesBehind : mX5_agreesBehind.2.2.1 = cX5_agreesBehind := rfl
theorem kcX6_init : mX6_init.2.2.1 = cX6_init := rfl
theorem kcX6_lookAhead : mX6_lookAhead.2.2.1 = cX6_lookAhead := rfl
theorem kcX6_hoursToAnswer : mX6_hoursToAnswer.2.2.1 = cX6_hoursToAnswer := rfl
theorem kcX6_hoursToLetting : mX6_hoursToLetting.2.2.1 = cX6_hoursToLetting := rfl
theorem kcX6_endsWellIfLetIn : mX6_endsWellIfLetIn.2.2.1 = cX6_endsWellIfLetIn := rfl
theorem kcX6_firstThatCannotBe : mX6_firstThatCannotBe.2.2.1 = cX6_firstThatCannotBe := rfl
theorem kcX6_canBe : mX6_canBe.2.2.1 = cX6_canBe := rfl
theorem kcX7_init : mX7_init.2.2.1 = cX7_init := rfl
theorem kcX7_read : mX7_read.2.2.1 = cX7_read := rfl
theorem kcX7_takes : mX7_takes.2.2.1 = cX7_takes := rfl
theorem kcX7_opensPart : mX7_opensPart.2.2.1 = cX7_opensPart := rfl
theorem kcX7_takesWind : mX7_takesWind.2.2.1 = cX7_takesWind := rfl
theorem kcX7_takesStart : mX7_takesStart.2.2.1 = cX7_takesStart := rfl
theorem kcX7_takesOfBalloon : mX7_takesOfBalloon.2.2.1 = cX7_takesOfBalloon := rfl
theorem kcX7_takesHedgeCell : mX7_takesHedgeCell.2.2.1 = cX7_takesHedgeCell := rfl
theorem kcX7_takesOfHedge : mX7_takesOfHedge.2.2.1 = cX7_takesOfHedge := rfl
theorem kcX8_init : mX8_init.2.2.1 = cX8_init := rfl
theorem kcX8_sumOverOrders : mX8_sumOverOrders.2.2.1 = cX8_sumOverOrders := rfl
theorem kcX8_weighAllSets : mX8_weighAllSets.2.2.1 = cX8_weighAllSets := rfl
theorem kcX9_init : mX9_init.2.2.1 = cX9_init := rfl
theorem kcX9_tryAllOrders : mX9_tryAllOrders.2.2.1 = cX9_tryAllOrders := rfl
theorem kcX9_layOut : mX9_layOut.2.2.1 = cX9_layOut := rfl
theorem kcX9_gladByOrder : mX9_gladByOrder.2.2.1 = cX9_gladByOrder := rfl
theorem kcX10_init : mX10_init.2.2.1 = cX10_init := rfl
theorem kcX10_begin : mX10_begin.2.2.1 = cX10_begin := rfl
theorem kcX10_takeFrom : mX10_takeFrom.2.2.1 = cX10_takeFrom := rfl
theorem kcX10_hasBalloon : mX10_hasBalloon.2.2.1 = cX10_hasBalloon := rfl
theorem kcX10_is : mX10_is.2.2.1 = cX10_is := rfl
theorem kcX10_letGo : mX10_letGo.2.2.1 = cX10_letGo := rfl
theorem kcX10_setFree : mX10_setFree.2.2.1 = cX10_setFree := rfl
theorem kcX10_putRight : mX10_putRight.2.2.1 = cX10_putRight := rfl
theorem kcX10_passHour : mX10_passHour.2.2.1 = cX10_passHour := rfl
theorem kcX10_passHours : mX10_passHours.2.2.1 = cX10_passHours := rfl
theorem kcX10_passHourBy : mX10_passHourBy.2.2.1 = cX10_passHourBy := rfl
theorem kcX10_catches : mX10_catches.2.2.1 = cX10_catches := rfl
theorem kcX10_stands : mX10_stands.2.2.1 = cX10_stands := rfl
theorem kcX10_leaveStanding : mX10_leaveStanding.2.2.1 = cX10_leaveStanding := rfl
theorem kcX10_whatCame : mX10_whatCame.2.2.1 = cX10_whatCame := rfl
theorem kcX10_isAnswered : mX10_isAnswered.2.2.1 = cX10_isAnswered := rfl
theorem kcX10_gladdens : mX10_gladdens.2.2.1 = cX10_gladdens := rfl
theorem kcX10_isGlad : mX10_isGlad.2.2.1 = cX10_isGlad := rfl
theorem kcX10_gladChildren : mX10_gladChildren.2.2.1 = cX10_gladChildren := rfl
theorem kcX10_answeredBalloons : mX10_answeredBalloons.2.2.1 = cX10_answeredBalloons := rfl
theorem kcX10_allThatAre : mX10_allThatAre.2.2.1 = cX10_allThatAre := rfl
theorem kcX10_caughtIn : mX10_caughtIn.2.2.1 = cX10_caughtIn := rfl
theorem kcX11_init : mX11_init.2.2.1 = cX11_init := rfl
theorem kcX11_write : mX11_write.2.2.1 = cX11_write := rfl
theorem kcX11_wipe : mX11_wipe.2.2.1 = cX11_wipe := rfl
theorem kcX11_fault : mX11_fault.2.2.1 = cX11_fault := rfl
theorem kcX11_city : mX11_city.2.2.1 = cX11_city := rfl
theorem kcX11_balloon : mX11_balloon.2.2.1 = cX11_balloon := rfl
theorem kcX11_hedge : mX11_hedge.2.2.1 = cX11_hedge := rfl
theorem kcX11_let : mX11_let.2.2.1 = cX11_let := rfl
theorem kcX11_hour : mX11_hour.2.2.1 = cX11_hour := rfl
theorem kcX11_free : mX11_free.2.2.1 = cX11_free := rfl
theorem kcX11_right : mX11_right.2.2.1 = cX11_right := rfl
theorem kcX11_undo : mX11_undo.2.2.1 = cX11_undo := rfl
theorem kcX11_later : mX11_later.2.2.1 = cX11_later := rfl
theorem kcX11_comes : mX11_comes.2.2.1 = cX11_comes := rfl
theorem kcX11_best : mX11_best.2.2.1 = cX11_best := rfl
theorem kcX11_most : mX11_most.2.2.1 = cX11_most := rfl
theorem kcX11_judge : mX11_judge.2.2.1 = cX11_judge := rfl
theorem kcX11_find : mX11_find.2.2.1 = cX11_find := rfl
theorem kcX11_lose : mX11_lose.2.2.1 = cX11_lose := rfl
theorem kcX11_began : mX11_began.2.2.1 = cX11_began := rfl
theorem kcX11_share : mX11_share.2.2.1 = cX11_share := rfl
theorem kcX11_rests : mX11_rests.2.2.1 = cX11_rests := rfl
theorem kcX11_fails : mX11_fails.2.2.1 = cX11_fails := rfl
theorem kcX11_seed : mX11_seed.2.2.1 = cX11_seed := rfl
theorem kcX11_years : mX11_years.2.2.1 = cX11_years := rfl
theorem kcX11_keep : mX11_keep.2.2.1 = cX11_keep := rfl
theorem kcX11_again : mX11_again.2.2.1 = cX11_again := rfl
theorem kcX11_count : mX11_count.2.2.1 = cX11_count := rfl
theorem kcX11_power : mX11_power.2.2.1 = cX11_power := rfl
theorem kcX11_inLeastTerms : mX11_inLeastTerms.2.2.1 = cX11_inLeastTerms := rfl
theorem kcX11_greatestCommon : mX11_greatestCommon.2.2.1 = cX11_greatestCommon := rfl
theorem kcX12_init : mX12_init.2.2.1 = cX12_init := rfl
theorem kcX12_in : mX12_in.2.2.1 = cX12_in := rfl
theorem kcX12_has : mX12_has.2.2.1 = cX12_has := rfl
theorem kcX12_ones : mX12_ones.2.2.1 = cX12_ones := rfl
theorem kcX12_write : mX12_write.2.2.1 = cX12_write := rfl
theorem kcX12_wipe : mX12_wipe.2.2.1 = cX12_wipe := rfl
theorem kcX12_cellOf : mX12_cellOf.2.2.1 = cX12_cellOf := rfl
theorem kcX12_figureOf : mX12_figureOf.2.2.1 = cX12_figureOf := rfl
theorem kcX12_readText : mX12_readText.2.2.1 = cX12_readText := rfl
theorem kcX12_readPart : mX12_readPart.2.2.1 = cX12_readPart := rfl
theorem kcX12_fault : mX12_fault.2.2.1 = cX12_fault := rfl
theorem kcX12_city : mX12_city.2.2.1 = cX12_city := rfl
theorem kcX12_isBalloon : mX12_isBalloon.2.2.1 = cX12_isBalloon := rfl
theorem kcX12_isHedge : mX12_isHedge.2.2.1 = cX12_isHedge := rfl
theorem kcX12_isCell : mX12_isCell.2.2.1 = cX12_isCell := rfl
theorem kcX12_windOf : mX12_windOf.2.2.1 = cX12_windOf := rfl
theorem kcX12_blown : mX12_blown.2.2.1 = cX12_blown := rfl
theorem kcX12_hedgeAt : mX12_hedgeAt.2.2.1 = cX12_hedgeAt := rfl
theorem kcX12_goOne : mX12_goOne.2.2.1 = cX12_goOne := rfl
theorem kcX12_go : mX12_go.2.2.1 = cX12_go := rfl
theorem kcX12_passOn : mX12_passOn.2.2.1 = cX12_passOn := rfl
theorem kcX12_whoIs : mX12_whoIs.2.2.1 = cX12_whoIs := rfl
theorem kcX12_isAnswered : mX12_isAnswered.2.2.1 = cX12_isAnswered := rfl
theorem kcX12_answered : mX12_answered.2.2.1 = cX12_answered := rfl
theorem kcX12_brings : mX12_brings.2.2.1 = cX12_brings := rfl
theorem kcX12_glad : mX12_glad.2.2.1 = cX12_glad := rfl
theorem kcX12_balloon : mX12_balloon.2.2.1 = cX12_balloon := rfl
theorem kcX12_caughtIn : mX12_caughtIn.2.2.1 = cX12_caughtIn := rfl
theorem kcX12_hedge : mX12_hedge.2.2.1 = cX12_hedge := rfl
theorem kcX12_keepAct : mX12_keepAct.2.2.1 = cX12_keepAct := rfl
theorem kcX12_let : mX12_let.2.2.1 = cX12_let := rfl
theorem kcX12_hour : mX12_hour.2.2.1 = cX12_hour := rfl
theorem kcX12_free : mX12_free.2.2.1 = cX12_free := rfl
theorem kcX12_exchange : mX12_exchange.2.2.1 = cX12_exchange := rfl
theorem kcX12_right : mX12_right.2.2.1 = cX12_right := rfl
theorem kcX12_undo : mX12_undo.2.2.1 = cX12_undo := rfl
theorem kcX12_layTrial : mX12_layTrial.2.2.1 = cX12_layTrial := rfl
theorem kcX12_goOn : mX12_goOn.2.2.1 = cX12_goOn := rfl
theorem kcX12_later : mX12_later.2.2.1 = cX12_later := rfl
theorem kcX12_comes : mX12_comes.2.2.1 = cX12_comes := rfl
theorem kcX12_isWellLet : mX12_isWellLet.2.2.1 = cX12_isWellLet := rfl
theorem kcX12_best : mX12_best.2.2.1 = cX12_best := rfl
theorem kcX12_isOrder : mX12_isOrder.2.2.1 = cX12_isOrder := rfl
theorem kcX12_gladBy : mX12_gladBy.2.2.1 = cX12_gladBy := rfl
theorem kcX12_exchanges : mX12_exchanges.2.2.1 = cX12_exchanges := rfl
theorem kcX12_balloonTo : mX12_balloonTo.2.2.1 = cX12_balloonTo := rfl
theorem kcX12_most : mX12_most.2.2.1 = cX12_most := rfl
theorem kcX12_tryThing : mX12_tryThing.2.2.1 = cX12_tryThing := rfl
theorem kcX12_thousandTo : mX12_thousandTo.2.2.1 = cX12_thousandTo := rfl
theorem kcX12_judge : mX12_judge.2.2.1 = cX12_judge := rfl
theorem kcX12_find : mX12_find.2.2.1 = cX12_find := rfl
theorem kcX12_lose : mX12_lose.2.2.1 = cX12_lose := rfl
theorem kcX12_behind : mX12_behind.2.2.1 = cX12_behind := rfl
theorem kcX12_began : mX12_began.2.2.1 = cX12_began := rfl
theorem kcX12_factorial : mX12_factorial.2.2.1 = cX12_factorial := rfl
theorem kcX12_common : mX12_common.2.2.1 = cX12_common := rfl
theorem kcX12_gladOf : mX12_gladOf.2.2.1 = cX12_gladOf := rfl
theorem kcX12_share : mX12_share.2.2.1 = cX12_share := rfl
theorem kcX12_gain : mX12_gain.2.2.1 = cX12_gain := rfl
theorem kcX12_isRest : mX12_isRest.2.2.1 = cX12_isRest := rfl
theorem kcX12_rests : mX12_rests.2.2.1 = cX12_rests := rfl
theorem kcX12_power : mX12_power.2.2.1 = cX12_power := rfl
theorem kcX12_fails : mX12_fails.2.2.1 = cX12_fails := rfl
theorem kcX12_seed : mX12_seed.2.2.1 = cX12_seed := rfl
theorem kcX12_years : mX12_years.2.2.1 = cX12_years := rfl
theorem kcX12_keep : mX12_keep.2.2.1 = cX12_keep := rfl
theorem kcX12_again : mX12_again.2.2.1 = cX12_again := rfl
theorem kcX12_count : mX12_count.2.2.1 = cX12_count := rfl
theorem kcJ6_bitCount_0f7a4 : mJ6_bitCount_0f7a4.2.2.1 = cJ6_bitCount_0f7a4 := rfl
theorem kcJ9_floorMod_7cf53 : mJ9_floorMod_7cf53.2.2.1 = cJ9_floorMod_7cf53 := rfl
theorem kcJ9_abs_0f7a4 : mJ9_abs_0f7a4.2.2.1 = cJ9_abs_0f7a4 := rfl
theorem kcL_law : mL_law.2.2.1 = cL_law := rfl
section YV
variable {M N : pmM} {cc : ByteArray} {pc nx t : Nat} {L : pmL} {S R : List Value} {g : pmH}
/-- a call, with the callee's numbers in it: receiver's class ci, ml locals -/
noncomputable def yV (M : pmM) (nx n : Nat) (N : pmM) (ci ml : Nat) (L : pmL) (S : List Value) (g : pmH) : Option (Option Value × pmH) :=
  if pmIsObj g ci (S[n]?) = true ∧ n + 1 ≤ S.length ∧ (S.drop (n + 1)).length ≤ 4 ∧ (pmSl (S.take (n + 1)).reverse).length ≤ ml then (pmV N 0 (pmEnt ml (S.take (n + 1)).reverse) [] g).bind (fun q => pmV M nx L (q.1.toList ++ S.drop (n + 1)) q.2) else none
noncomputable def yS (M : pmM) (nx n : Nat) (N : pmM) (ml : Nat) (L : pmL) (S : List Value) (g : pmH) : Option (Option Value × pmH) :=
  if n ≤ S.length ∧ (S.drop n).length ≤ 4 ∧ (pmSl (S.take n).reverse).length ≤ ml then (pmV N 0 (pmEnt ml (S.take n).reverse) [] g).bind (fun q => pmV M nx L (q.1.toList ++ S.drop n) q.2) else none
theorem zCallV_y {n ci ml : Nat} (h1 : N.2.1 = ci) (h2 : N.2.2.2.1 = ml) (h3 : N.2.2.2.2.2 < M.2.2.2.2.2) (L : pmL) (S : List Value) (g : pmH) : zCallV M nx n N L S g = yV M nx n N ci ml L S g := by
  subst h1
  subst h2
  unfold zCallV zCall yV
  by_cases a : pmIsObj g N.2.1 (S[n]?) = true
  · rw [if_pos a]
    by_cases b : n + 1 ≤ S.length ∧ (S.drop (n + 1)).length ≤ 4 ∧ (pmSl (S.take (n + 1)).reverse).length ≤ N.2.2.2.1
    · rw [if_pos ⟨b.1, b.2.1, h3, b.2.2⟩, if_pos ⟨a, b⟩]
    · rw [if_neg (fun z => b ⟨z.1, z.2.1, z.2.2.2⟩), if_neg (fun z => b z.2)]
  · rw [if_neg a, if_neg (fun z => a z.1)]
theorem zCall_y {n ml : Nat} (h2 : N.2.2.2.1 = ml) (h3 : N.2.2.2.2.2 < M.2.2.2.2.2) (L : pmL) (S : List Value) (g : pmH) : zCall M nx n N L S g = yS M nx n N ml L S g := by
  subst h2
  unfold zCall yS
  by_cases b : n ≤ S.length ∧ (S.drop n).length ≤ 4 ∧ (pmSl (S.take n).reverse).length ≤ N.2.2.2.1
  · rw [if_pos ⟨b.1, b.2.1, h3, b.2.2⟩, if_pos b]
  · rw [if_neg (fun z => b ⟨z.1, z.2.1, z.2.2.2⟩), if_neg b]
theorem yV_0 {ci ml a : Nat} (h : pmIsObj g ci (some (.ref a)) = true) (hr : R.length ≤ 4) (hm : 1 ≤ ml) : yV M nx 0 N ci ml L (.ref a :: R) g = (pmV N 0 (pmEnt ml [.ref a]) [] g).bind (fun q => pmV M nx L (q.1.toList ++ R) q.2) := if_pos ⟨h, by simp, by simpa using hr, hm⟩
theorem yV_1 {ci ml a : Nat} {x : Int32} (h : pmIsObj g ci (some (.ref a)) = true) (hr : R.length ≤ 4) (hm : 2 ≤ ml) : yV M nx 1 N ci ml L (.int x :: .ref a :: R) g = (pmV N 0 (pmEnt ml [.ref a, .int x]) [] g).bind (fun q => pmV M nx L (q.1.toList ++ R) q.2) := if_pos ⟨h, by simp, by simpa using hr, hm⟩
theorem yV_1a {ci ml a b : Nat} (h : pmIsObj g ci (some (.ref a)) = true) (hr : R.length ≤ 4) (hm : 2 ≤ ml) : yV M nx 1 N ci ml L (.ref b :: .ref a :: R) g = (pmV N 0 (pmEnt ml [.ref a, .ref b]) [] g).bind (fun q => pmV M nx L (q.1.toList ++ R) q.2) := if_pos ⟨h, by simp, by simpa using hr, hm⟩
theorem yV_2 {ci ml a : Nat} {x y : Int32} (h : pmIsObj g ci (some (.ref a)) = true) (hr : R.length ≤ 4) (hm : 3 ≤ ml) : yV M nx 2 N ci ml L (.int y :: .int x :: .ref a :: R) g = (pmV N 0 (pmEnt ml [.ref a, .int x, .int y]) [] g).bind (fun q => pmV M nx L (q.1.toList ++ R) q.2) := if_pos ⟨h, by simp, by simpa using hr, hm⟩
theorem yV_2a {ci ml a b : Nat} {y : Int32} (h : pmIsObj g ci (some (.ref a)) = true) (hr : R.length ≤ 4) (hm : 3 ≤ ml) : yV M nx 2 N ci ml L (.int y :: .ref b :: .ref a :: R) g = (pmV N 0 (pmEnt ml [.ref a, .ref b, .int y]) [] g).bind (fun q => pmV M nx L (q.1.toList ++ R) q.2) := if_pos ⟨h, by simp, by simpa using hr, hm⟩
theorem yV_2b {ci ml a b d : Nat} (h : pmIsObj g ci (some (.ref a)) = true) (hr : R.length ≤ 4) (hm : 3 ≤ ml) : yV M nx 2 N ci ml L (.ref d :: .ref b :: .ref a :: R) g = (pmV N 0 (pmEnt ml [.ref a, .ref b, .ref d]) [] g).bind (fun q => pmV M nx L (q.1.toList ++ R) q.2) := if_pos ⟨h, by simp, by simpa using hr, hm⟩
theorem yV_2j {ci ml a : Nat} {x : Int32} {y : Int64} (h : pmIsObj g ci (some (.ref a)) = true) (hr : R.length ≤ 4) (hm : 4 ≤ ml) : yV M nx 2 N ci ml L (.long y :: .int x :: .ref a :: R) g = (pmV N 0 (pmEnt ml [.ref a, .int x, .long y]) [] g).bind (fun q => pmV M nx L (q.1.toList ++ R) q.2) := if_pos ⟨h, by simp, by simpa using hr, hm⟩
theorem yV_1j {ci ml a : Nat} {y : Int64} (h : pmIsObj g ci (some (.ref a)) = true) (hr : R.length ≤ 4) (hm : 3 ≤ ml) : yV M nx 1 N ci ml L (.long y :: .ref a :: R) g = (pmV N 0 (pmEnt ml [.ref a, .long y]) [] g).bind (fun q => pmV M nx L (q.1.toList ++ R) q.2) := if_pos ⟨h, by simp, by simpa using hr, hm⟩
theorem yV_3 {ci ml a : Nat} {x y z : Int32} (h : pmIsObj g ci (some (.ref a)) = true) (hr : R.length ≤ 4) (hm : 4 ≤ ml) : yV M nx 3 N ci ml L (.int z :: .int y :: .int x :: .ref a :: R) g = (pmV N 0 (pmEnt ml [.ref a, .int x, .int y, .int z]) [] g).bind (fun q => pmV M nx L (q.1.toList ++ R) q.2) := if_pos ⟨h, by simp, by simpa using hr, hm⟩
theorem yV_4 {ci ml a : Nat} {x y z w : Int32} (h : pmIsObj g ci (some (.ref a)) = true) (hr : R.length ≤ 4) (hm : 5 ≤ ml) : yV M nx 4 N ci ml L (.int w :: .int z :: .int y :: .int x :: .ref a :: R) g = (pmV N 0 (pmEnt ml [.ref a, .int x, .int y, .int z, .int w]) [] g).bind (fun q => pmV M nx L (q.1.toList ++ R) q.2) := if_pos ⟨h, by simp, by simpa using hr, hm⟩
theorem yV_5 {ci ml a : Nat} {x y z w u : Int32} (h : pmIsObj g ci (some (.ref a)) = true) (hr : R.length ≤ 4) (hm : 6 ≤ ml) : yV M nx 5 N ci ml L (.int u :: .int w :: .int z :: .int y :: .int x :: .ref a :: R) g = (pmV N 0 (pmEnt ml [.ref a, .int x, .int y, .int z, .int w, .int u]) [] g).bind (fun q => pmV M nx L (q.1.toList ++ R) q.2) := if_pos ⟨h, by simp, by simpa using hr, hm⟩
theorem yS_1 {ml : Nat} {x : Int32} (hr : R.length ≤ 4) (hm : 1 ≤ ml) : yS M nx 1 N ml L (.int x :: R) g = (pmV N 0 (pmEnt ml [.int x]) [] g).bind (fun q => pmV M nx L (q.1.toList ++ R) q.2) := if_pos ⟨by simp, by simpa using hr, hm⟩
theorem yS_2 {ml : Nat} {x y : Int32} (hr : R.length ≤ 4) (hm : 2 ≤ ml) : yS M nx 2 N ml L (.int y :: .int x :: R) g = (pmV N 0 (pmEnt ml [.int x, .int y]) [] g).bind (fun q => pmV M nx L (q.1.toList ++ R) q.2) := if_pos ⟨by simp, by simpa using hr, hm⟩
theorem yS_3 {ml : Nat} {x y z : Int32} (hr : R.length ≤ 4) (hm : 3 ≤ ml) : yS M nx 3 N ml L (.int z :: .int y :: .int x :: R) g = (pmV N 0 (pmEnt ml [.int x, .int y, .int z]) [] g).bind (fun q => pmV M nx L (q.1.toList ++ R) q.2) := if_pos ⟨by simp, by simpa using hr, hm⟩
theorem yS_3j {ml : Nat} {x y z : Int64} (hr : R.length ≤ 4) (hm : 6 ≤ ml) : yS M nx 3 N ml L (.long z :: .long y :: .long x :: R) g = (pmV N 0 (pmEnt ml [.long x, .long y, .long z]) [] g).bind (fun q => pmV M nx L (q.1.toList ++ R) q.2) := if_pos ⟨by simp, by simpa using hr, hm⟩
/-! locals -/
theorem ld_0 {v : Option Value} : pmLd (v :: L) 0 = v := rfl
theorem ld_s {v : Option Value} {i : Nat} : pmLd (v :: L) (i + 1) = pmLd L i := rfl
theorem zIret_b {b : Int32} {y : MethodName} {o ml rk : Nat} (h : M = (y, o, cc, ml, some .boolean, rk)) (hb : b = nI 0 ∨ b = nI 1) : zIret M [.int b] g = some (some (.int b), g) := by
  subst h
  rcases hb with rfl | rfl <;> rfl
theorem zIret_i {b : Int32} {y : MethodName} {o ml rk : Nat} (h : M = (y, o, cc, ml, some .int, rk)) : zIret M [.int b] g = some (some (.int b), g) := by
  subst h
  exact if_pos rfl
theorem zVret_eq : zVret [] g = some (none, g) := rfl
theorem zLret_eq {x : Int64} : zLret [.long x] g = some (some (.long x), g) := rfl
theorem zPush_eq {v : Value} : zPush M nx v L S g = pmV M nx L (v :: S) g := rfl
theorem zNx_eq : zNx M nx L S g = pmV M nx L S g := rfl
end YV
theorem tX0_init : mX0_init = (yX0_init, 0, cX0_init, 3, none, 3) := rfl
theorem tX0_forget : mX0_forget = (yX0_forget, 0, cX0_forget, 1, none, 1) := rfl
theorem tX0_remember : mX0_remember = (yX0_remember, 0, cX0_remember, 2, none, 3) := rfl
theorem tX0_takeBack : mX0_takeBack = (yX0_takeBack, 0, cX0_takeBack, 2, none, 3) := rfl
theorem tX1_init : mX1_init = (yX1_init, 1, cX1_init, 1, none, 1) := rfl
theorem tX1_holdAt : mX1_holdAt = (yX1_holdAt, 1, cX1_holdAt, 4, none, 1) := rfl
theorem tX1_takeFrom : mX1_takeFrom = (yX1_takeFrom, 1, cX1_takeFrom, 2, none, 1) := rfl
theorem tX1_goBy : mX1_goBy = (yX1_goBy, 1, cX1_goBy, 4, none, 2) := rfl
theorem tX1_goOneCell : mX1_goOneCell = (yX1_goOneCell, 1, cX1_goOneCell, 3, none, 1) := rfl
theorem tX1_catchIn : mX1_catchIn = (yX1_catchIn, 1, cX1_catchIn, 3, none, 1) := rfl
theorem tX1_leaveHedge : mX1_leaveHedge = (yX1_leaveHedge, 1, cX1_leaveHedge, 2, none, 1) := rfl
theorem tX2_init : mX2_init = (yX2_init, 2, cX2_init, 3, none, 1) := rfl
theorem tX2_tryAllPairs : mX2_tryAllPairs = (yX2_tryAllPairs, 2, cX2_tryAllPairs, 5, none, 6) := rfl
theorem tX2_caughtTogether : mX2_caughtTogether = (yX2_caughtTogether, 2, cX2_caughtTogether, 3, (some .boolean), 3) := rfl
theorem tX2_ownJoy : mX2_ownJoy = (yX2_ownJoy, 2, cX2_ownJoy, 2, (some .int), 5) := rfl
theorem tX2_isAtRest : mX2_isAtRest = (yX2_isAtRest, 2, cX2_isAtRest, 2, (some .boolean), 1) := rfl
theorem tX2_howManyRest : mX2_howManyRest = (yX2_howManyRest, 2, cX2_howManyRest, 3, (some .int), 2) := rfl
theorem tX2_firstAtRest : mX2_firstAtRest = (yX2_firstAtRest, 2, cX2_firstAtRest, 2, (some .int), 2) := rfl
theorem tX3_init : mX3_init = (yX3_init, 3, cX3_init, 3, none, 1) := rfl
theorem tX3_waysCaught : mX3_waysCaught = (yX3_waysCaught, 3, cX3_waysCaught, 9, (some .int), 6) := rfl
theorem tX3_isCaughtIf : mX3_isCaughtIf = (yX3_isCaughtIf, 3, cX3_isCaughtIf, 6, (some .boolean), 5) := rfl
theorem tX3_gladOverYears : mX3_gladOverYears = (yX3_gladOverYears, 3, cX3_gladOverYears, 4, (some .int), 6) := rfl
theorem tX3_doIfItCanBe : mX3_doIfItCanBe = (yX3_doIfItCanBe, 3, cX3_doIfItCanBe, 2, none, 5) := rfl
theorem tX4_init : mX4_init = (yX4_init, 4, cX4_init, 1, none, 1) := rfl
theorem tX4_clear : mX4_clear = (yX4_clear, 4, cX4_clear, 1, none, 1) := rfl
theorem tX4_windOf : mX4_windOf = (yX4_windOf, 4, cX4_windOf, 2, (some .int), 2) := rfl
theorem tX4_hasHedge : mX4_hasHedge = (yX4_hasHedge, 4, cX4_hasHedge, 2, (some .boolean), 1) := rfl
theorem tX4_hedgeAt : mX4_hedgeAt = (yX4_hedgeAt, 4, cX4_hedgeAt, 3, (some .int), 1) := rfl
theorem tX5_init : mX5_init = (yX5_init, 5, cX5_init, 2, none, 2) := rfl
theorem tX5_add : mX5_add = (yX5_add, 5, cX5_add, 3, none, 1) := rfl
theorem tX5_cellsOfLetting : mX5_cellsOfLetting = (yX5_cellsOfLetting, 5, cX5_cellsOfLetting, 4, (some .int), 4) := rfl
theorem tX5_agreesFrom : mX5_agreesFrom = (yX5_agreesFrom, 5, cX5_agreesFrom, 4, (some .boolean), 3) := rfl
theorem tX5_agreesBehind : mX5_agreesBehind = (yX5_agreesBehind, 5, cX5_agreesBehind, 3, (some .boolean), 1) := rfl
theorem tX6_init : mX6_init = (yX6_init, 6, cX6_init, 3, none, 1) := rfl
theorem tX6_lookAhead : mX6_lookAhead = (yX6_lookAhead, 6, cX6_lookAhead, 2, none, 5) := rfl
theorem tX6_hoursToAnswer : mX6_hoursToAnswer = (yX6_hoursToAnswer, 6, cX6_hoursToAnswer, 3, (some .int), 5) := rfl
theorem tX6_hoursToLetting : mX6_hoursToLetting = (yX6_hoursToLetting, 6, cX6_hoursToLetting, 3, (some .int), 6) := rfl
theorem tX6_endsWellIfLetIn : mX6_endsWellIfLetIn = (yX6_endsWellIfLetIn, 6, cX6_endsWellIfLetIn, 4, (some .boolean), 5) := rfl
theorem tX6_firstThatCannotBe : mX6_firstThatCannotBe = (yX6_firstThatCannotBe, 6, cX6_firstThatCannotBe, 6, (some .int), 6) := rfl
theorem tX6_canBe : mX6_canBe = (yX6_canBe, 6, cX6_canBe, 4, (some .boolean), 5) := rfl
theorem tX7_init : mX7_init = (yX7_init, 7, cX7_init, 2, none, 1) := rfl
theorem tX7_read : mX7_read = (yX7_read, 7, cX7_read, 4, (some .int), 4) := rfl
theorem tX7_takes : mX7_takes = (yX7_takes, 7, cX7_takes, 2, (some .boolean), 3) := rfl
theorem tX7_opensPart : mX7_opensPart = (yX7_opensPart, 7, cX7_opensPart, 2, (some .boolean), 1) := rfl
theorem tX7_takesWind : mX7_takesWind = (yX7_takesWind, 7, cX7_takesWind, 2, (some .boolean), 1) := rfl
theorem tX7_takesStart : mX7_takesStart = (yX7_takesStart, 7, cX7_takesStart, 2, (some .boolean), 1) := rfl
theorem tX7_takesOfBalloon : mX7_takesOfBalloon = (yX7_takesOfBalloon, 7, cX7_takesOfBalloon, 2, (some .boolean), 1) := rfl
theorem tX7_takesHedgeCell : mX7_takesHedgeCell = (yX7_takesHedgeCell, 7, cX7_takesHedgeCell, 2, (some .boolean), 2) := rfl
theorem tX7_takesOfHedge : mX7_takesOfHedge = (yX7_takesOfHedge, 7, cX7_takesOfHedge, 2, (some .boolean), 1) := rfl
theorem tX8_init : mX8_init = (yX8_init, 8, cX8_init, 3, none, 1) := rfl
theorem tX8_sumOverOrders : mX8_sumOverOrders = (yX8_sumOverOrders, 8, cX8_sumOverOrders, 7, (some .int), 6) := rfl
theorem tX8_weighAllSets : mX8_weighAllSets = (yX8_weighAllSets, 8, cX8_weighAllSets, 3, none, 5) := rfl
theorem tX9_init : mX9_init = (yX9_init, 9, cX9_init, 2, none, 1) := rfl
theorem tX9_tryAllOrders : mX9_tryAllOrders = (yX9_tryAllOrders, 9, cX9_tryAllOrders, 5, none, 4) := rfl
theorem tX9_layOut : mX9_layOut = (yX9_layOut, 9, cX9_layOut, 8, (some .int), 1) := rfl
theorem tX9_gladByOrder : mX9_gladByOrder = (yX9_gladByOrder, 9, cX9_gladByOrder, 3, (some .int), 3) := rfl
theorem tX10_init : mX10_init = (yX10_init, 10, cX10_init, 3, none, 2) := rfl
theorem tX10_begin : mX10_begin = (yX10_begin, 10, cX10_begin, 2, none, 2) := rfl
theorem tX10_takeFrom : mX10_takeFrom = (yX10_takeFrom, 10, cX10_takeFrom, 3, none, 2) := rfl
theorem tX10_hasBalloon : mX10_hasBalloon = (yX10_hasBalloon, 10, cX10_hasBalloon, 2, (some .boolean), 1) := rfl
theorem tX10_is : mX10_is = (yX10_is, 10, cX10_is, 3, (some .boolean), 2) := rfl
theorem tX10_letGo : mX10_letGo = (yX10_letGo, 10, cX10_letGo, 2, (some .boolean), 3) := rfl
theorem tX10_setFree : mX10_setFree = (yX10_setFree, 10, cX10_setFree, 2, (some .boolean), 3) := rfl
theorem tX10_putRight : mX10_putRight = (yX10_putRight, 10, cX10_putRight, 4, (some .boolean), 2) := rfl
theorem tX10_passHour : mX10_passHour = (yX10_passHour, 10, cX10_passHour, 1, (some .int), 4) := rfl
theorem tX10_passHours : mX10_passHours = (yX10_passHours, 10, cX10_passHours, 3, none, 4) := rfl
theorem tX10_passHourBy : mX10_passHourBy = (yX10_passHourBy, 10, cX10_passHourBy, 4, (some .int), 3) := rfl
theorem tX10_catches : mX10_catches = (yX10_catches, 10, cX10_catches, 3, (some .boolean), 2) := rfl
theorem tX10_stands : mX10_stands = (yX10_stands, 10, cX10_stands, 2, (some .boolean), 1) := rfl
theorem tX10_leaveStanding : mX10_leaveStanding = (yX10_leaveStanding, 10, cX10_leaveStanding, 3, none, 2) := rfl
theorem tX10_whatCame : mX10_whatCame = (yX10_whatCame, 10, cX10_whatCame, 3, (some .int), 1) := rfl
theorem tX10_isAnswered : mX10_isAnswered = (yX10_isAnswered, 10, cX10_isAnswered, 2, (some .boolean), 2) := rfl
theorem tX10_gladdens : mX10_gladdens = (yX10_gladdens, 10, cX10_gladdens, 3, (some .boolean), 2) := rfl
theorem tX10_isGlad : mX10_isGlad = (yX10_isGlad, 10, cX10_isGlad, 2, (some .boolean), 4) := rfl
theorem tX10_gladChildren : mX10_gladChildren = (yX10_gladChildren, 10, cX10_gladChildren, 3, (some .int), 3) := rfl
theorem tX10_answeredBalloons : mX10_answeredBalloons = (yX10_answeredBalloons, 10, cX10_answeredBalloons, 3, (some .int), 3) := rfl
theorem tX10_allThatAre : mX10_allThatAre = (yX10_allThatAre, 10, cX10_allThatAre, 4, (some .int), 1) := rfl
theorem tX10_caughtIn : mX10_caughtIn = (yX10_caughtIn, 10, cX10_caughtIn, 4, (some .int), 1) := rfl
theorem tX11_init : mX11_init = (yX11_init, 11, cX11_init, 2, none, 4) := rfl
theorem tX11_write : mX11_write = (yX11_write, 11, cX11_write, 2, (some .int), 1) := rfl
theorem tX11_wipe : mX11_wipe = (yX11_wipe, 11, cX11_wipe, 2, (some .int), 1) := rfl
theorem tX11_fault : mX11_fault = (yX11_fault, 11, cX11_fault, 1, (some .int), 5) := rfl
theorem tX11_city : mX11_city = (yX11_city, 11, cX11_city, 2, (some .int), 5) := rfl
theorem tX11_balloon : mX11_balloon = (yX11_balloon, 11, cX11_balloon, 4, (some .int), 5) := rfl
theorem tX11_hedge : mX11_hedge = (yX11_hedge, 11, cX11_hedge, 3, (some .int), 2) := rfl
theorem tX11_let : mX11_let = (yX11_let, 11, cX11_let, 2, (some .int), 4) := rfl
theorem tX11_hour : mX11_hour = (yX11_hour, 11, cX11_hour, 1, (some .int), 5) := rfl
theorem tX11_free : mX11_free = (yX11_free, 11, cX11_free, 3, (some .int), 4) := rfl
theorem tX11_right : mX11_right = (yX11_right, 11, cX11_right, 3, (some .int), 4) := rfl
theorem tX11_undo : mX11_undo = (yX11_undo, 11, cX11_undo, 1, (some .int), 4) := rfl
theorem tX11_later : mX11_later = (yX11_later, 11, cX11_later, 5, (some .int), 6) := rfl
theorem tX11_comes : mX11_comes = (yX11_comes, 11, cX11_comes, 2, (some .int), 6) := rfl
theorem tX11_best : mX11_best = (yX11_best, 11, cX11_best, 2, (some .int), 7) := rfl
theorem tX11_most : mX11_most = (yX11_most, 11, cX11_most, 2, (some .int), 6) := rfl
theorem tX11_judge : mX11_judge = (yX11_judge, 11, cX11_judge, 4, (some .int), 7) := rfl
theorem tX11_find : mX11_find = (yX11_find, 11, cX11_find, 3, (some .int), 2) := rfl
theorem tX11_lose : mX11_lose = (yX11_lose, 11, cX11_lose, 2, (some .int), 1) := rfl
theorem tX11_began : mX11_began = (yX11_began, 11, cX11_began, 2, (some .int), 5) := rfl
theorem tX11_share : mX11_share = (yX11_share, 11, cX11_share, 4, (some .int), 7) := rfl
theorem tX11_rests : mX11_rests = (yX11_rests, 11, cX11_rests, 4, (some .int), 7) := rfl
theorem tX11_fails : mX11_fails = (yX11_fails, 11, cX11_fails, 7, (some .int), 7) := rfl
theorem tX11_seed : mX11_seed = (yX11_seed, 11, cX11_seed, 5, (some .long), 1) := rfl
theorem tX11_years : mX11_years = (yX11_years, 11, cX11_years, 2, (some .int), 7) := rfl
theorem tX11_keep : mX11_keep = (yX11_keep, 11, cX11_keep, 2, (some .int), 3) := rfl
theorem tX11_again : mX11_again = (yX11_again, 11, cX11_again, 2, (some .int), 3) := rfl
theorem tX11_count : mX11_count = (yX11_count, 11, cX11_count, 2, (some .int), 4) := rfl
theorem tX11_power : mX11_power = (yX11_power, 11, cX11_power, 4, (some .int), 1) := rfl
theorem tX11_inLeastTerms : mX11_inLeastTerms = (yX11_inLeastTerms, 11, cX11_inLeastTerms, 4, (some .int), 2) := rfl
theorem tX11_greatestCommon : mX11_greatestCommon = (yX11_greatestCommon, 11, cX11_greatestCommon, 6, (some .int), 1) := rfl
theorem tX12_init : mX12_init = (yX12_init, 12, cX12_init, 1, none, 1) := rfl
theorem tX12_in : mX12_in = (yX12_in, 12, cX12_in, 6, (some .boolean), 1) := rfl
theorem tX12_has : mX12_has = (yX12_has, 12, cX12_has, 2, (some .boolean), 1) := rfl
theorem tX12_ones : mX12_ones = (yX12_ones, 12, cX12_ones, 3, (some .int), 1) := rfl
theorem tX12_write : mX12_write = (yX12_write, 12, cX12_write, 2, (some .int), 2) := rfl
theorem tX12_wipe : mX12_wipe = (yX12_wipe, 12, cX12_wipe, 2, (some .int), 1) := rfl
theorem tX12_cellOf : mX12_cellOf = (yX12_cellOf, 12, cX12_cellOf, 4, (some .int), 2) := rfl
theorem tX12_figureOf : mX12_figureOf = (yX12_figureOf, 12, cX12_figureOf, 4, (some .int), 2) := rfl
theorem tX12_readText : mX12_readText = (yX12_readText, 12, cX12_readText, 1, (some .int), 4) := rfl
theorem tX12_readPart : mX12_readPart = (yX12_readPart, 12, cX12_readPart, 2, none, 3) := rfl
theorem tX12_fault : mX12_fault = (yX12_fault, 12, cX12_fault, 1, (some .int), 5) := rfl
theorem tX12_city : mX12_city = (yX12_city, 12, cX12_city, 2, (some .int), 5) := rfl
theorem tX12_isBalloon : mX12_isBalloon = (yX12_isBalloon, 12, cX12_isBalloon, 2, (some .boolean), 2) := rfl
theorem tX12_isHedge : mX12_isHedge = (yX12_isHedge, 12, cX12_isHedge, 2, (some .boolean), 2) := rfl
theorem tX12_isCell : mX12_isCell = (yX12_isCell, 12, cX12_isCell, 1, (some .boolean), 2) := rfl
theorem tX12_windOf : mX12_windOf = (yX12_windOf, 12, cX12_windOf, 2, (some .int), 1) := rfl
theorem tX12_blown : mX12_blown = (yX12_blown, 12, cX12_blown, 2, (some .int), 1) := rfl
theorem tX12_hedgeAt : mX12_hedgeAt = (yX12_hedgeAt, 12, cX12_hedgeAt, 3, (some .int), 2) := rfl
theorem tX12_goOne : mX12_goOne = (yX12_goOne, 12, cX12_goOne, 6, none, 2) := rfl
theorem tX12_go : mX12_go = (yX12_go, 12, cX12_go, 6, none, 3) := rfl
theorem tX12_passOn : mX12_passOn = (yX12_passOn, 12, cX12_passOn, 8, (some .int), 4) := rfl
theorem tX12_whoIs : mX12_whoIs = (yX12_whoIs, 12, cX12_whoIs, 5, (some .int), 1) := rfl
theorem tX12_isAnswered : mX12_isAnswered = (yX12_isAnswered, 12, cX12_isAnswered, 4, (some .boolean), 1) := rfl
theorem tX12_answered : mX12_answered = (yX12_answered, 12, cX12_answered, 4, (some .int), 2) := rfl
theorem tX12_brings : mX12_brings = (yX12_brings, 12, cX12_brings, 3, (some .int), 2) := rfl
theorem tX12_glad : mX12_glad = (yX12_glad, 12, cX12_glad, 5, (some .int), 3) := rfl
theorem tX12_balloon : mX12_balloon = (yX12_balloon, 12, cX12_balloon, 3, (some .int), 4) := rfl
theorem tX12_caughtIn : mX12_caughtIn = (yX12_caughtIn, 12, cX12_caughtIn, 4, (some .int), 1) := rfl
theorem tX12_hedge : mX12_hedge = (yX12_hedge, 12, cX12_hedge, 3, (some .int), 3) := rfl
theorem tX12_keepAct : mX12_keepAct = (yX12_keepAct, 12, cX12_keepAct, 2, none, 1) := rfl
theorem tX12_let : mX12_let = (yX12_let, 12, cX12_let, 2, (some .int), 3) := rfl
theorem tX12_hour : mX12_hour = (yX12_hour, 12, cX12_hour, 1, (some .int), 5) := rfl
theorem tX12_free : mX12_free = (yX12_free, 12, cX12_free, 2, (some .int), 3) := rfl
theorem tX12_exchange : mX12_exchange = (yX12_exchange, 12, cX12_exchange, 6, none, 1) := rfl
theorem tX12_right : mX12_right = (yX12_right, 12, cX12_right, 3, (some .int), 4) := rfl
theorem tX12_undo : mX12_undo = (yX12_undo, 12, cX12_undo, 2, (some .int), 1) := rfl
theorem tX12_layTrial : mX12_layTrial = (yX12_layTrial, 12, cX12_layTrial, 2, none, 1) := rfl
theorem tX12_goOn : mX12_goOn = (yX12_goOn, 12, cX12_goOn, 3, none, 5) := rfl
theorem tX12_later : mX12_later = (yX12_later, 12, cX12_later, 4, (some .int), 6) := rfl
theorem tX12_comes : mX12_comes = (yX12_comes, 12, cX12_comes, 3, (some .int), 5) := rfl
theorem tX12_isWellLet : mX12_isWellLet = (yX12_isWellLet, 12, cX12_isWellLet, 3, (some .boolean), 6) := rfl
theorem tX12_best : mX12_best = (yX12_best, 12, cX12_best, 3, (some .int), 7) := rfl
theorem tX12_isOrder : mX12_isOrder = (yX12_isOrder, 12, cX12_isOrder, 5, (some .boolean), 1) := rfl
theorem tX12_gladBy : mX12_gladBy = (yX12_gladBy, 12, cX12_gladBy, 3, (some .int), 1) := rfl
theorem tX12_exchanges : mX12_exchanges = (yX12_exchanges, 12, cX12_exchanges, 6, (some .int), 2) := rfl
theorem tX12_balloonTo : mX12_balloonTo = (yX12_balloonTo, 12, cX12_balloonTo, 4, (some .int), 1) := rfl
theorem tX12_most : mX12_most = (yX12_most, 12, cX12_most, 7, (some .int), 6) := rfl
theorem tX12_tryThing : mX12_tryThing = (yX12_tryThing, 12, cX12_tryThing, 7, (some .boolean), 5) := rfl
theorem tX12_thousandTo : mX12_thousandTo = (yX12_thousandTo, 12, cX12_thousandTo, 4, (some .long), 1) := rfl
theorem tX12_judge : mX12_judge = (yX12_judge, 12, cX12_judge, 6, (some .int), 6) := rfl
theorem tX12_find : mX12_find = (yX12_find, 12, cX12_find, 3, (some .int), 3) := rfl
theorem tX12_lose : mX12_lose = (yX12_lose, 12, cX12_lose, 2, (some .int), 1) := rfl
theorem tX12_behind : mX12_behind = (yX12_behind, 12, cX12_behind, 8, (some .int), 2) := rfl
theorem tX12_began : mX12_began = (yX12_began, 12, cX12_began, 6, (some .int), 3) := rfl
theorem tX12_factorial : mX12_factorial = (yX12_factorial, 12, cX12_factorial, 3, (some .int), 1) := rfl
theorem tX12_common : mX12_common = (yX12_common, 12, cX12_common, 5, (some .int), 1) := rfl
theorem tX12_gladOf : mX12_gladOf = (yX12_gladOf, 12, cX12_gladOf, 4, (some .int), 6) := rfl
theorem tX12_share : mX12_share = (yX12_share, 12, cX12_share, 6, (some .int), 7) := rfl
theorem tX12_gain : mX12_gain = (yX12_gain, 12, cX12_gain, 7, (some .int), 6) := rfl
theorem tX12_isRest : mX12_isRest = (yX12_isRest, 12, cX12_isRest, 5, (some .boolean), 7) := rfl
theorem tX12_rests : mX12_rests = (yX12_rests, 12, cX12_rests, 7, (some .int), 8) := rfl
theorem tX12_power : mX12_power = (yX12_power, 12, cX12_power, 4, (some .int), 1) := rfl
theorem tX12_fails : mX12_fails = (yX12_fails, 12, cX12_fails, 11, (some .int), 5) := rfl
theorem tX12_seed : mX12_seed = (yX12_seed, 12, cX12_seed, 5, (some .long), 1) := rfl
theorem tX12_years : mX12_years = (yX12_years, 12, cX12_years, 5, (some .int), 6) := rfl
theorem tX12_keep : mX12_keep = (yX12_keep, 12, cX12_keep, 3, (some .int), 2) := rfl
theorem tX12_again : mX12_again = (yX12_again, 12, cX12_again, 3, (some .int), 2) := rfl
theorem tX12_count : mX12_count = (yX12_count, 12, cX12_count, 2, (some .int), 4) := rfl
theorem tJ6_bitCount_0f7a4 : mJ6_bitCount_0f7a4 = (yJ6_bitCount_0f7a4, 13, cJ6_bitCount_0f7a4, 1, (some .int), 1) := rfl
theorem tJ9_floorMod_7cf53 : mJ9_floorMod_7cf53 = (yJ9_floorMod_7cf53, 14, cJ9_floorMod_7cf53, 3, (some .int), 1) := rfl
theorem tJ9_abs_0f7a4 : mJ9_abs_0f7a4 = (yJ9_abs_0f7a4, 14, cJ9_abs_0f7a4, 1, (some .int), 1) := rfl
theorem tL_law : mL_law = (yL_law, 15, cL_law, 4, (some .boolean), 9) := rfl
