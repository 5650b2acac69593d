/-! ===== what each place of the pools means ===== -/
theorem fF_0_9 : jfind2 jFl 0 9 = some (0, 0, 344) := by decide +kernel
theorem fF_0_15 : jfind2 jFl 0 15 = some (0, 1, 345) := by decide +kernel
theorem fF_0_18 : jfind2 jFl 0 18 = some (0, 2, 346) := by decide +kernel
theorem fF_0_21 : jfind2 jFl 0 21 = some (0, 3, 347) := by decide +kernel
theorem fF_0_24 : jfind2 jFl 0 24 = some (0, 4, 348) := by decide +kernel
theorem fF_0_27 : jfind2 jFl 0 27 = some (0, 5, 349) := by decide +kernel
theorem fF_1_9 : jfind2 jFl 1 9 = some (1, 0, 227) := by decide +kernel
theorem fF_1_15 : jfind2 jFl 1 15 = some (1, 1, 228) := by decide +kernel
theorem fF_1_18 : jfind2 jFl 1 18 = some (1, 2, 229) := by decide +kernel
theorem fF_2_12 : jfind2 jFl 2 12 = some (2, 0, 401) := by decide +kernel
theorem fF_2_18 : jfind2 jFl 2 18 = some (2, 1, 402) := by decide +kernel
theorem fF_2_22 : jfind2 jFl 2 22 = some (2, 2, 403) := by decide +kernel
theorem fF_2_25 : jfind2 jFl 2 25 = some (2, 3, 404) := by decide +kernel
theorem fF_2_29 : jfind2 jFl 2 29 = some (2, 4, 405) := by decide +kernel
theorem fF_3_9 : jfind2 jFl 3 9 = some (3, 0, 148) := by decide +kernel
theorem fF_3_15 : jfind2 jFl 3 15 = some (3, 1, 149) := by decide +kernel
theorem fF_3_19 : jfind2 jFl 3 19 = some (3, 2, 150) := by decide +kernel
theorem fF_3_22 : jfind2 jFl 3 22 = some (3, 3, 151) := by decide +kernel
theorem fF_3_25 : jfind2 jFl 3 25 = some (3, 4, 152) := by decide +kernel
theorem fF_3_28 : jfind2 jFl 3 28 = some (3, 5, 153) := by decide +kernel
theorem fF_3_31 : jfind2 jFl 3 31 = some (3, 6, 154) := by decide +kernel
theorem fF_3_34 : jfind2 jFl 3 34 = some (3, 7, 155) := by decide +kernel
theorem fF_3_37 : jfind2 jFl 3 37 = some (3, 8, 156) := by decide +kernel
theorem fF_3_40 : jfind2 jFl 3 40 = some (3, 9, 157) := by decide +kernel
theorem fF_4_9 : jfind2 jFl 4 9 = some (4, 1, 215) := by decide +kernel
theorem fF_4_23 : jfind2 jFl 4 23 = some (4, 0, 214) := by decide +kernel
theorem fF_5_12 : jfind2 jFl 5 12 = some (5, 0, 275) := by decide +kernel
theorem fF_5_18 : jfind2 jFl 5 18 = some (5, 1, 276) := by decide +kernel
theorem fF_5_22 : jfind2 jFl 5 22 = some (5, 2, 277) := by decide +kernel
theorem fF_5_25 : jfind2 jFl 5 25 = some (5, 3, 278) := by decide +kernel
theorem fF_5_29 : jfind2 jFl 5 29 = some (5, 4, 279) := by decide +kernel
theorem fF_5_33 : jfind2 jFl 5 33 = some (5, 5, 280) := by decide +kernel
theorem fF_5_36 : jfind2 jFl 5 36 = some (5, 6, 281) := by decide +kernel
theorem fF_5_39 : jfind2 jFl 5 39 = some (5, 7, 282) := by decide +kernel
theorem fF_5_42 : jfind2 jFl 5 42 = some (5, 8, 283) := by decide +kernel
theorem fF_5_45 : jfind2 jFl 5 45 = some (5, 9, 284) := by decide +kernel
theorem fF_5_48 : jfind2 jFl 5 48 = some (5, 10, 285) := by decide +kernel
theorem fF_5_51 : jfind2 jFl 5 51 = some (5, 11, 286) := by decide +kernel
theorem fF_5_54 : jfind2 jFl 5 54 = some (5, 12, 287) := by decide +kernel
theorem fF_5_58 : jfind2 jFl 5 58 = some (5, 13, 288) := by decide +kernel
theorem fF_5_61 : jfind2 jFl 5 61 = some (5, 14, 289) := by decide +kernel
theorem fF_5_64 : jfind2 jFl 5 64 = some (5, 15, 290) := by decide +kernel
theorem fF_5_67 : jfind2 jFl 5 67 = some (5, 16, 291) := by decide +kernel
theorem fF_5_71 : jfind2 jFl 5 71 = some (5, 17, 292) := by decide +kernel
theorem fF_5_75 : jfind2 jFl 5 75 = some (5, 18, 293) := by decide +kernel
theorem fF_6_12 : jfind2 jFl 6 12 = some (6, 0, 179) := by decide +kernel
theorem fF_6_21 : jfind2 jFl 6 21 = some (6, 1, 180) := by decide +kernel
theorem fF_6_25 : jfind2 jFl 6 25 = some (6, 2, 181) := by decide +kernel
theorem fF_6_29 : jfind2 jFl 6 29 = some (6, 3, 182) := by decide +kernel
theorem fF_6_33 : jfind2 jFl 6 33 = some (6, 4, 183) := by decide +kernel
theorem fF_6_36 : jfind2 jFl 6 36 = some (6, 5, 184) := by decide +kernel
theorem fF_7_9 : jfind2 jFl 7 9 = some (7, 0, 369) := by decide +kernel
theorem fF_7_15 : jfind2 jFl 7 15 = some (7, 1, 370) := by decide +kernel
theorem fF_7_18 : jfind2 jFl 7 18 = some (7, 2, 371) := by decide +kernel
theorem fF_7_21 : jfind2 jFl 7 21 = some (7, 3, 372) := by decide +kernel
theorem fF_7_24 : jfind2 jFl 7 24 = some (7, 4, 373) := by decide +kernel
theorem fF_7_28 : jfind2 jFl 7 28 = some (7, 5, 374) := by decide +kernel
theorem fF_7_32 : jfind2 jFl 7 32 = some (7, 6, 375) := by decide +kernel
theorem fF_7_35 : jfind2 jFl 7 35 = some (7, 7, 376) := by decide +kernel
theorem fF_8_9 : jfind2 jFl 8 9 = some (8, 0, 250) := by decide +kernel
theorem fF_8_15 : jfind2 jFl 8 15 = some (8, 1, 251) := by decide +kernel
theorem fF_8_18 : jfind2 jFl 8 18 = some (8, 2, 252) := by decide +kernel
theorem fF_8_21 : jfind2 jFl 8 21 = some (8, 3, 253) := by decide +kernel
theorem fF_8_24 : jfind2 jFl 8 24 = some (8, 4, 254) := by decide +kernel
theorem fF_8_27 : jfind2 jFl 8 27 = some (8, 5, 255) := by decide +kernel
theorem fF_8_30 : jfind2 jFl 8 30 = some (8, 6, 256) := by decide +kernel
theorem fF_8_34 : jfind2 jFl 8 34 = some (8, 7, 257) := by decide +kernel
theorem fF_9_9 : jfind2 jFl 9 9 = some (9, 0, 134) := by decide +kernel
theorem fF_9_15 : jfind2 jFl 9 15 = some (9, 1, 135) := by decide +kernel
theorem fF_10_7 : jfind2 jFl 10 7 = some (10, 0, 422) := by decide +kernel
theorem fF_10_13 : jfind2 jFl 10 13 = some (10, 1, 423) := by decide +kernel
theorem fF_10_16 : jfind2 jFl 10 16 = some (10, 2, 424) := by decide +kernel
theorem fF_10_19 : jfind2 jFl 10 19 = some (10, 3, 425) := by decide +kernel
theorem fF_10_22 : jfind2 jFl 10 22 = some (10, 4, 426) := by decide +kernel
theorem fF_10_25 : jfind2 jFl 10 25 = some (10, 5, 427) := by decide +kernel
theorem fF_11_10 : jfind2 jFl 11 10 = some (11, 0, 441) := by decide +kernel
theorem fF_11_20 : jfind2 jFl 11 20 = some (11, 1, 442) := by decide +kernel
theorem fF_11_28 : jfind2 jFl 11 28 = some (11, 2, 443) := by decide +kernel
theorem fF_11_32 : jfind2 jFl 11 32 = some (11, 3, 444) := by decide +kernel
theorem fF_11_38 : jfind2 jFl 11 38 = some (11, 4, 445) := by decide +kernel
theorem fF_11_42 : jfind2 jFl 11 42 = some (11, 5, 446) := by decide +kernel
theorem fF_11_46 : jfind2 jFl 11 46 = some (11, 6, 447) := by decide +kernel
theorem fF_11_49 : jfind2 jFl 11 49 = some (11, 7, 448) := by decide +kernel
theorem fF_11_56 : jfind2 jFl 11 56 = some (11, 8, 449) := by decide +kernel
theorem fF_11_60 : jfind2 jFl 11 60 = some (11, 9, 450) := by decide +kernel
theorem fF_11_65 : jfind2 jFl 11 65 = some (11, 10, 451) := by decide +kernel
theorem fF_11_71 : jfind2 jFl 11 71 = some (11, 11, 452) := by decide +kernel
theorem fF_11_75 : jfind2 jFl 11 75 = some (11, 12, 453) := by decide +kernel
theorem fF_11_81 : jfind2 jFl 11 81 = some (11, 13, 454) := by decide +kernel
theorem fF_11_88 : jfind2 jFl 11 88 = some (11, 14, 455) := by decide +kernel
theorem fF_11_92 : jfind2 jFl 11 92 = some (11, 15, 456) := by decide +kernel
theorem fF_11_96 : jfind2 jFl 11 96 = some (11, 16, 457) := by decide +kernel
theorem fF_11_99 : jfind2 jFl 11 99 = some (11, 17, 458) := by decide +kernel
theorem fF_11_102 : jfind2 jFl 11 102 = some (11, 18, 459) := by decide +kernel
theorem fF_12_7 : jfind2 jFl 12 7 = some (12, 0, 1332) := by decide +kernel
theorem fF_12_13 : jfind2 jFl 12 13 = some (12, 2, 1334) := by decide +kernel
theorem fF_12_17 : jfind2 jFl 12 17 = some (12, 3, 1335) := by decide +kernel
theorem fF_12_20 : jfind2 jFl 12 20 = some (12, 4, 1336) := by decide +kernel
theorem fF_12_23 : jfind2 jFl 12 23 = some (12, 5, 1337) := by decide +kernel
theorem fF_12_26 : jfind2 jFl 12 26 = some (12, 6, 1338) := by decide +kernel
theorem fF_12_29 : jfind2 jFl 12 29 = some (12, 7, 1339) := by decide +kernel
theorem fF_12_32 : jfind2 jFl 12 32 = some (12, 8, 1340) := by decide +kernel
theorem fF_12_35 : jfind2 jFl 12 35 = some (12, 17, 1349) := by decide +kernel
theorem fF_12_38 : jfind2 jFl 12 38 = some (12, 20, 1352) := by decide +kernel
theorem fF_12_42 : jfind2 jFl 12 42 = some (12, 22, 1354) := by decide +kernel
theorem fF_12_45 : jfind2 jFl 12 45 = some (12, 23, 1355) := by decide +kernel
theorem fF_12_48 : jfind2 jFl 12 48 = some (12, 24, 1356) := by decide +kernel
theorem fF_12_51 : jfind2 jFl 12 51 = some (12, 25, 1357) := by decide +kernel
theorem fF_12_54 : jfind2 jFl 12 54 = some (12, 26, 1358) := by decide +kernel
theorem fF_12_57 : jfind2 jFl 12 57 = some (12, 27, 1359) := by decide +kernel
theorem fF_12_60 : jfind2 jFl 12 60 = some (12, 28, 1360) := by decide +kernel
theorem fF_12_63 : jfind2 jFl 12 63 = some (12, 29, 1361) := by decide +kernel
theorem fF_12_66 : jfind2 jFl 12 66 = some (12, 30, 1362) := by decide +kernel
theorem fF_12_69 : jfind2 jFl 12 69 = some (12, 31, 1363) := by decide +kernel
theorem fF_12_73 : jfind2 jFl 12 73 = some (12, 33, 1365) := by decide +kernel
theorem fF_12_76 : jfind2 jFl 12 76 = some (12, 34, 1366) := by decide +kernel
theorem fF_12_79 : jfind2 jFl 12 79 = some (12, 35, 1367) := by decide +kernel
theorem fF_12_82 : jfind2 jFl 12 82 = some (12, 36, 1368) := by decide +kernel
theorem fF_12_85 : jfind2 jFl 12 85 = some (12, 38, 1370) := by decide +kernel
theorem fF_12_88 : jfind2 jFl 12 88 = some (12, 41, 1373) := by decide +kernel
theorem fF_12_91 : jfind2 jFl 12 91 = some (12, 42, 1374) := by decide +kernel
theorem fF_12_94 : jfind2 jFl 12 94 = some (12, 43, 1375) := by decide +kernel
theorem fF_12_98 : jfind2 jFl 12 98 = some (12, 48, 1380) := by decide +kernel
theorem fF_12_101 : jfind2 jFl 12 101 = some (12, 1, 1333) := by decide +kernel
theorem fF_12_108 : jfind2 jFl 12 108 = some (12, 12, 1344) := by decide +kernel
theorem fF_12_111 : jfind2 jFl 12 111 = some (12, 11, 1343) := by decide +kernel
theorem fF_12_136 : jfind2 jFl 12 136 = some (12, 13, 1345) := by decide +kernel
theorem fF_12_157 : jfind2 jFl 12 157 = some (12, 14, 1346) := by decide +kernel
theorem fF_12_160 : jfind2 jFl 12 160 = some (12, 15, 1347) := by decide +kernel
theorem fF_12_163 : jfind2 jFl 12 163 = some (12, 16, 1348) := by decide +kernel
theorem fF_12_166 : jfind2 jFl 12 166 = some (12, 18, 1350) := by decide +kernel
theorem fF_12_238 : jfind2 jFl 12 238 = some (12, 19, 1351) := by decide +kernel
theorem fF_12_251 : jfind2 jFl 12 251 = some (12, 9, 1341) := by decide +kernel
theorem fF_12_257 : jfind2 jFl 12 257 = some (12, 10, 1342) := by decide +kernel
theorem fF_12_260 : jfind2 jFl 12 260 = some (12, 21, 1353) := by decide +kernel
theorem fF_12_349 : jfind2 jFl 12 349 = some (12, 32, 1364) := by decide +kernel
theorem fF_12_352 : jfind2 jFl 12 352 = some (12, 47, 1379) := by decide +kernel
theorem fF_12_355 : jfind2 jFl 12 355 = some (12, 37, 1369) := by decide +kernel
theorem fF_12_413 : jfind2 jFl 12 413 = some (12, 39, 1371) := by decide +kernel
theorem fF_12_416 : jfind2 jFl 12 416 = some (12, 40, 1372) := by decide +kernel
theorem fF_12_430 : jfind2 jFl 12 430 = some (12, 44, 1376) := by decide +kernel
theorem fF_12_433 : jfind2 jFl 12 433 = some (12, 45, 1377) := by decide +kernel
theorem fF_12_436 : jfind2 jFl 12 436 = some (12, 46, 1378) := by decide +kernel
theorem fS_0_3 : jfind2 jSt 0 3 = some (7, 0, 0, 343, 120, 121) := by decide +kernel
theorem fS_0_31 : jfind2 jSt 0 31 = some (1, 74, 0, 1115, 940, 941) := by decide +kernel
theorem fS_0_36 : jfind2 jSt 0 36 = some (11, 0, 2, 1116, 520, 521) := by decide +kernel
theorem fS_0_42 : jfind2 jSt 0 42 = some (1, 83, 1, 1117, 989, 990) := by decide +kernel
theorem fS_0_46 : jfind2 jSt 0 46 = some (1, 63, 1, 1118, 1009, 1010) := by decide +kernel
theorem fS_0_49 : jfind2 jSt 0 49 = some (1, 62, 0, 1119, 1017, 1018) := by decide +kernel
theorem fS_0_52 : jfind2 jSt 0 52 = some (1, 139, 4, 1120, 1121, 1122) := by decide +kernel
theorem fS_0_58 : jfind2 jSt 0 58 = some (1, 2, 3, 1126, 1128, 31) := by decide +kernel
theorem fS_0_62 : jfind2 jSt 0 62 = some (1, 137, 0, 1130, 1131, 1132) := by decide +kernel
theorem fS_0_65 : jfind2 jSt 0 65 = some (1, 138, 0, 1134, 1135, 1136) := by decide +kernel
theorem fS_0_68 : jfind2 jSt 0 68 = some (1, 3, 4, 1138, 1140, 32) := by decide +kernel
theorem fS_0_72 : jfind2 jSt 0 72 = some (10, 0, 2, 1154, 209, 210) := by decide +kernel
theorem fS_0_75 : jfind2 jSt 0 75 = some (1, 8, 1, 1263, 1256, 1257) := by decide +kernel
theorem fS_1_3 : jfind2 jSt 1 3 = some (7, 0, 0, 226, 120, 121) := by decide +kernel
theorem fS_1_22 : jfind2 jSt 1 22 = some (1, 32, 0, 838, 839, 840) := by decide +kernel
theorem fS_1_28 : jfind2 jSt 1 28 = some (1, 38, 1, 842, 843, 844) := by decide +kernel
theorem fS_1_32 : jfind2 jSt 1 32 = some (1, 39, 1, 846, 847, 848) := by decide +kernel
theorem fS_1_35 : jfind2 jSt 1 35 = some (1, 40, 1, 850, 851, 852) := by decide +kernel
theorem fS_1_38 : jfind2 jSt 1 38 = some (1, 37, 1, 854, 855, 856) := by decide +kernel
theorem fS_1_41 : jfind2 jSt 1 41 = some (1, 13, 3, 858, 860, 22) := by decide +kernel
theorem fS_1_45 : jfind2 jSt 1 45 = some (1, 36, 1, 862, 863, 864) := by decide +kernel
theorem fS_1_48 : jfind2 jSt 1 48 = some (1, 16, 1, 866, 868, 23) := by decide +kernel
theorem fS_1_52 : jfind2 jSt 1 52 = some (1, 17, 0, 870, 872, 24) := by decide +kernel
theorem fS_1_56 : jfind2 jSt 1 56 = some (0, 14, 3, 874, 875, 0) := by decide +kernel
theorem fS_1_60 : jfind2 jSt 1 60 = some (0, 15, 3, 877, 878, 0) := by decide +kernel
theorem fS_2_3 : jfind2 jSt 2 3 = some (7, 0, 0, 398, 120, 121) := by decide +kernel
theorem fS_2_11 : jfind2 jSt 2 11 = some (5, 46, 0, 400, 241, 0) := by decide +kernel
theorem fS_2_33 : jfind2 jSt 2 33 = some (1, 49, 1, 1306, 1189, 1190) := by decide +kernel
theorem fS_2_37 : jfind2 jSt 2 37 = some (0, 23, 2, 1307, 1308, 0) := by decide +kernel
theorem fS_3_3 : jfind2 jSt 3 3 = some (7, 0, 0, 147, 120, 121) := by decide +kernel
theorem fS_3_43 : jfind2 jSt 3 43 = some (16, 0, 5, 720, 721, 722) := by decide +kernel
theorem fS_3_49 : jfind2 jSt 3 49 = some (10, 0, 2, 816, 209, 210) := by decide +kernel
theorem fS_4_3 : jfind2 jSt 4 3 = some (7, 0, 0, 207, 120, 121) := by decide +kernel
theorem fS_4_15 : jfind2 jSt 4 15 = some (10, 0, 2, 208, 209, 210) := by decide +kernel
theorem fS_4_27 : jfind2 jSt 4 27 = some (5, 24, 0, 213, 145, 0) := by decide +kernel
theorem fS_4_28 : jfind2 jSt 4 28 = some (1, 43, 0, 715, 532, 533) := by decide +kernel
theorem fS_4_32 : jfind2 jSt 4 32 = some (1, 26, 1, 716, 717, 718) := by decide +kernel
theorem fS_5_3 : jfind2 jSt 5 3 = some (7, 0, 0, 243, 120, 121) := by decide +kernel
theorem fS_5_11 : jfind2 jSt 5 11 = some (5, 118, 0, 246, 247, 0) := by decide +kernel
theorem fS_5_78 : jfind2 jSt 5 78 = some (1, 122, 0, 767, 768, 769) := by decide +kernel
theorem fS_5_82 : jfind2 jSt 5 82 = some (1, 125, 0, 771, 772, 773) := by decide +kernel
theorem fS_5_84 : jfind2 jSt 5 84 = some (1, 124, 0, 775, 776, 777) := by decide +kernel
theorem fS_5_86 : jfind2 jSt 5 86 = some (1, 128, 1, 779, 780, 781) := by decide +kernel
theorem fS_5_90 : jfind2 jSt 5 90 = some (1, 121, 1, 1192, 1193, 1194) := by decide +kernel
theorem fS_5_94 : jfind2 jSt 5 94 = some (11, 0, 2, 1198, 520, 521) := by decide +kernel
theorem fS_5_100 : jfind2 jSt 5 100 = some (16, 0, 5, 1199, 721, 722) := by decide +kernel
theorem fS_5_106 : jfind2 jSt 5 106 = some (1, 123, 0, 829, 830, 831) := by decide +kernel
theorem fS_5_109 : jfind2 jSt 5 109 = some (12, 0, 1, 1005, 1006, 1007) := by decide +kernel
theorem fS_5_114 : jfind2 jSt 5 114 = some (4, 185, 3, 881, 882, 0) := by decide +kernel
theorem fS_5_118 : jfind2 jSt 5 118 = some (1, 54, 1, 804, 806, 19) := by decide +kernel
theorem fS_5_122 : jfind2 jSt 5 122 = some (1, 55, 1, 808, 810, 20) := by decide +kernel
theorem fS_5_125 : jfind2 jSt 5 125 = some (1, 12, 3, 834, 835, 836) := by decide +kernel
theorem fS_5_135 : jfind2 jSt 5 135 = some (1, 11, 2, 817, 818, 819) := by decide +kernel
theorem fS_5_141 : jfind2 jSt 5 141 = some (1, 57, 0, 893, 895, 25) := by decide +kernel
theorem fS_5_145 : jfind2 jSt 5 145 = some (1, 58, 0, 905, 907, 26) := by decide +kernel
theorem fS_5_148 : jfind2 jSt 5 148 = some (1, 59, 0, 923, 925, 27) := by decide +kernel
theorem fS_5_151 : jfind2 jSt 5 151 = some (1, 34, 0, 812, 813, 814) := by decide +kernel
theorem fS_5_156 : jfind2 jSt 5 156 = some (1, 56, 1, 821, 823, 21) := by decide +kernel
theorem fS_5_161 : jfind2 jSt 5 161 = some (1, 72, 1, 825, 826, 827) := by decide +kernel
theorem fS_5_171 : jfind2 jSt 5 171 = some (1, 33, 0, 900, 901, 902) := by decide +kernel
theorem fS_5_178 : jfind2 jSt 5 178 = some (14, 0, 2, 910, 885, 886) := by decide +kernel
theorem fS_5_181 : jfind2 jSt 5 181 = some (1, 35, 1, 911, 912, 913) := by decide +kernel
theorem fS_5_184 : jfind2 jSt 5 184 = some (1, 129, 1, 915, 916, 917) := by decide +kernel
theorem fS_5_187 : jfind2 jSt 5 187 = some (4, 187, 4, 919, 920, 0) := by decide +kernel
theorem fS_5_191 : jfind2 jSt 5 191 = some (1, 126, 0, 927, 928, 929) := by decide +kernel
theorem fS_5_194 : jfind2 jSt 5 194 = some (1, 84, 1, 1043, 993, 994) := by decide +kernel
theorem fS_5_197 : jfind2 jSt 5 197 = some (1, 83, 1, 1056, 989, 990) := by decide +kernel
theorem fS_5_200 : jfind2 jSt 5 200 = some (1, 86, 2, 1042, 1031, 1032) := by decide +kernel
theorem fS_5_204 : jfind2 jSt 5 204 = some (1, 81, 1, 1000, 981, 982) := by decide +kernel
theorem fS_5_207 : jfind2 jSt 5 207 = some (1, 82, 1, 1057, 985, 986) := by decide +kernel
theorem fS_5_210 : jfind2 jSt 5 210 = some (1, 127, 0, 1012, 1013, 1014) := by decide +kernel
theorem fS_5_213 : jfind2 jSt 5 213 = some (10, 0, 2, 1078, 209, 210) := by decide +kernel
theorem fS_5_216 : jfind2 jSt 5 216 = some (1, 66, 1, 1087, 1089, 29) := by decide +kernel
theorem fS_5_219 : jfind2 jSt 5 219 = some (1, 68, 2, 1001, 1003, 28) := by decide +kernel
theorem fS_5_223 : jfind2 jSt 5 223 = some (4, 186, 2, 1044, 1045, 0) := by decide +kernel
theorem fS_5_226 : jfind2 jSt 5 226 = some (4, 182, 1, 1029, 733, 0) := by decide +kernel
theorem fS_6_3 : jfind2 jSt 6 3 = some (7, 0, 0, 127, 120, 121) := by decide +kernel
theorem fS_6_11 : jfind2 jSt 6 11 = some (5, 130, 0, 130, 131, 0) := by decide +kernel
theorem fS_6_20 : jfind2 jSt 6 20 = some (5, 24, 0, 144, 145, 0) := by decide +kernel
theorem fS_6_39 : jfind2 jSt 6 39 = some (1, 43, 0, 531, 532, 533) := by decide +kernel
theorem fS_6_45 : jfind2 jSt 6 45 = some (1, 25, 0, 535, 536, 537) := by decide +kernel
theorem fS_6_48 : jfind2 jSt 6 48 = some (1, 92, 1, 539, 541, 0) := by decide +kernel
theorem fS_6_52 : jfind2 jSt 6 52 = some (1, 105, 0, 543, 545, 1) := by decide +kernel
theorem fS_6_56 : jfind2 jSt 6 56 = some (1, 106, 1, 659, 661, 11) := by decide +kernel
theorem fS_6_59 : jfind2 jSt 6 59 = some (1, 133, 1, 710, 516, 517) := by decide +kernel
theorem fS_6_62 : jfind2 jSt 6 62 = some (1, 44, 1, 711, 712, 713) := by decide +kernel
theorem fS_6_66 : jfind2 jSt 6 66 = some (1, 93, 0, 551, 553, 2) := by decide +kernel
theorem fS_6_69 : jfind2 jSt 6 69 = some (1, 91, 2, 616, 618, 4) := by decide +kernel
theorem fS_6_73 : jfind2 jSt 6 73 = some (1, 30, 1, 620, 621, 622) := by decide +kernel
theorem fS_6_77 : jfind2 jSt 6 77 = some (1, 109, 0, 624, 626, 5) := by decide +kernel
theorem fS_6_80 : jfind2 jSt 6 80 = some (1, 103, 1, 628, 630, 6) := by decide +kernel
theorem fS_6_84 : jfind2 jSt 6 84 = some (1, 29, 2, 635, 636, 637) := by decide +kernel
theorem fS_6_87 : jfind2 jSt 6 87 = some (1, 31, 0, 639, 640, 641) := by decide +kernel
theorem fS_6_90 : jfind2 jSt 6 90 = some (1, 99, 1, 643, 645, 7) := by decide +kernel
theorem fS_6_95 : jfind2 jSt 6 95 = some (1, 107, 1, 683, 685, 14) := by decide +kernel
theorem fS_6_99 : jfind2 jSt 6 99 = some (1, 94, 1, 687, 689, 15) := by decide +kernel
theorem fS_6_102 : jfind2 jSt 6 102 = some (1, 28, 3, 706, 707, 708) := by decide +kernel
theorem fS_6_108 : jfind2 jSt 6 108 = some (1, 108, 1, 556, 558, 3) := by decide +kernel
theorem fS_6_121 : jfind2 jSt 6 121 = some (1, 95, 1, 691, 693, 16) := by decide +kernel
theorem fS_6_126 : jfind2 jSt 6 126 = some (1, 27, 1, 664, 665, 666) := by decide +kernel
theorem fS_6_129 : jfind2 jSt 6 129 = some (1, 96, 1, 695, 697, 17) := by decide +kernel
theorem fS_6_136 : jfind2 jSt 6 136 = some (1, 97, 1, 655, 657, 10) := by decide +kernel
theorem fS_6_139 : jfind2 jSt 6 139 = some (1, 98, 0, 700, 702, 18) := by decide +kernel
theorem fS_6_142 : jfind2 jSt 6 142 = some (1, 102, 1, 668, 670, 12) := by decide +kernel
theorem fS_6_145 : jfind2 jSt 6 145 = some (1, 134, 1, 547, 548, 549) := by decide +kernel
theorem fS_6_148 : jfind2 jSt 6 148 = some (1, 100, 1, 647, 649, 8) := by decide +kernel
theorem fS_6_151 : jfind2 jSt 6 151 = some (1, 101, 1, 651, 653, 9) := by decide +kernel
theorem fS_6_154 : jfind2 jSt 6 154 = some (0, 111, 1, 632, 633, 0) := by decide +kernel
theorem fS_6_158 : jfind2 jSt 6 158 = some (1, 104, 0, 672, 674, 13) := by decide +kernel
theorem fS_6_173 : jfind2 jSt 6 173 = some (17, 0, 0, 560, 561, 562) := by decide +kernel
theorem fS_6_178 : jfind2 jSt 6 178 = some (18, 0, 1, 570, 571, 572) := by decide +kernel
theorem fS_6_182 : jfind2 jSt 6 182 = some (0, 110, 1, 608, 609, 0) := by decide +kernel
theorem fS_7_3 : jfind2 jSt 7 3 = some (7, 0, 0, 368, 120, 121) := by decide +kernel
theorem fS_7_38 : jfind2 jSt 7 38 = some (1, 114, 0, 1220, 1213, 1214) := by decide +kernel
theorem fS_7_42 : jfind2 jSt 7 42 = some (11, 0, 2, 1229, 520, 521) := by decide +kernel
theorem fS_7_52 : jfind2 jSt 7 52 = some (13, 0, 2, 1232, 888, 889) := by decide +kernel
theorem fS_7_56 : jfind2 jSt 7 56 = some (14, 0, 2, 1233, 885, 886) := by decide +kernel
theorem fS_8_3 : jfind2 jSt 8 3 = some (7, 0, 0, 249, 120, 121) := by decide +kernel
theorem fS_8_37 : jfind2 jSt 8 37 = some (1, 119, 6, 1196, 756, 757) := by decide +kernel
theorem fS_8_41 : jfind2 jSt 8 41 = some (1, 120, 2, 1197, 760, 761) := by decide +kernel
theorem fS_8_45 : jfind2 jSt 8 45 = some (4, 182, 1, 783, 733, 0) := by decide +kernel
theorem fS_9_3 : jfind2 jSt 9 3 = some (7, 0, 0, 133, 120, 121) := by decide +kernel
theorem fS_9_19 : jfind2 jSt 9 19 = some (11, 0, 2, 519, 520, 521) := by decide +kernel
theorem fS_9_25 : jfind2 jSt 9 25 = some (10, 0, 2, 522, 209, 210) := by decide +kernel
theorem fS_10_1 : jfind2 jSt 10 1 = some (7, 0, 0, 421, 120, 121) := by decide +kernel
theorem fS_10_28 : jfind2 jSt 10 28 = some (1, 87, 2, 1124, 1039, 1040) := by decide +kernel
theorem fS_10_34 : jfind2 jSt 10 34 = some (1, 81, 1, 1125, 981, 982) := by decide +kernel
theorem fS_11_1 : jfind2 jSt 11 1 = some (7, 0, 0, 119, 120, 121) := by decide +kernel
theorem fS_11_9 : jfind2 jSt 11 9 = some (5, 88, 0, 124, 125, 0) := by decide +kernel
theorem fS_11_16 : jfind2 jSt 11 16 = some (1, 89, 0, 198, 199, 200) := by decide +kernel
theorem fS_11_25 : jfind2 jSt 11 25 = some (3, 41, 1, 204, 205, 0) := by decide +kernel
theorem fS_11_37 : jfind2 jSt 11 37 = some (5, 10, 0, 223, 224, 0) := by decide +kernel
theorem fS_11_55 : jfind2 jSt 11 55 = some (5, 46, 0, 240, 241, 0) := by decide +kernel
theorem fS_11_80 : jfind2 jSt 11 80 = some (5, 0, 0, 340, 341, 0) := by decide +kernel
theorem fS_11_87 : jfind2 jSt 11 87 = some (5, 112, 0, 365, 366, 0) := by decide +kernel
theorem fS_11_105 : jfind2 jSt 11 105 = some (5, 18, 0, 395, 396, 0) := by decide +kernel
theorem fS_11_106 : jfind2 jSt 11 106 = some (5, 135, 0, 418, 419, 0) := by decide +kernel
theorem fS_11_107 : jfind2 jSt 11 107 = some (1, 131, 0, 503, 504, 505) := by decide +kernel
theorem fS_11_113 : jfind2 jSt 11 113 = some (1, 132, 1, 507, 508, 509) := by decide +kernel
theorem fS_11_116 : jfind2 jSt 11 116 = some (1, 133, 1, 515, 516, 517) := by decide +kernel
theorem fS_11_119 : jfind2 jSt 11 119 = some (1, 90, 2, 527, 528, 529) := by decide +kernel
theorem fS_11_123 : jfind2 jSt 11 123 = some (0, 182, 1, 732, 733, 0) := by decide +kernel
theorem fS_11_128 : jfind2 jSt 11 128 = some (0, 183, 3, 736, 737, 0) := by decide +kernel
theorem fS_11_132 : jfind2 jSt 11 132 = some (0, 181, 3, 739, 740, 0) := by decide +kernel
theorem fS_11_136 : jfind2 jSt 11 136 = some (1, 45, 1, 746, 747, 748) := by decide +kernel
theorem fS_11_141 : jfind2 jSt 11 141 = some (1, 47, 0, 751, 752, 753) := by decide +kernel
theorem fS_11_145 : jfind2 jSt 11 145 = some (1, 119, 6, 755, 756, 757) := by decide +kernel
theorem fS_11_151 : jfind2 jSt 11 151 = some (1, 120, 2, 759, 760, 761) := by decide +kernel
theorem fS_11_155 : jfind2 jSt 11 155 = some (1, 48, 3, 763, 764, 765) := by decide +kernel
theorem fS_11_159 : jfind2 jSt 11 159 = some (1, 73, 0, 788, 789, 790) := by decide +kernel
theorem fS_11_162 : jfind2 jSt 11 162 = some (1, 50, 1, 792, 793, 794) := by decide +kernel
theorem fS_11_166 : jfind2 jSt 11 166 = some (1, 53, 2, 800, 801, 802) := by decide +kernel
theorem fS_11_170 : jfind2 jSt 11 170 = some (1, 74, 0, 939, 940, 941) := by decide +kernel
theorem fS_11_173 : jfind2 jSt 11 173 = some (1, 75, 0, 943, 944, 945) := by decide +kernel
theorem fS_11_176 : jfind2 jSt 11 176 = some (1, 76, 0, 947, 948, 949) := by decide +kernel
theorem fS_11_179 : jfind2 jSt 11 179 = some (1, 77, 0, 951, 952, 953) := by decide +kernel
theorem fS_11_182 : jfind2 jSt 11 182 = some (1, 78, 0, 955, 956, 957) := by decide +kernel
theorem fS_11_185 : jfind2 jSt 11 185 = some (1, 79, 0, 959, 960, 961) := by decide +kernel
theorem fS_11_188 : jfind2 jSt 11 188 = some (1, 80, 0, 963, 964, 965) := by decide +kernel
theorem fS_11_191 : jfind2 jSt 11 191 = some (1, 42, 0, 967, 968, 969) := by decide +kernel
theorem fS_11_192 : jfind2 jSt 11 192 = some (1, 113, 0, 971, 972, 973) := by decide +kernel
theorem fS_11_193 : jfind2 jSt 11 193 = some (1, 72, 1, 979, 826, 827) := by decide +kernel
theorem fS_11_196 : jfind2 jSt 11 196 = some (1, 81, 1, 980, 981, 982) := by decide +kernel
theorem fS_11_200 : jfind2 jSt 11 200 = some (1, 82, 1, 984, 985, 986) := by decide +kernel
theorem fS_11_203 : jfind2 jSt 11 203 = some (1, 83, 1, 988, 989, 990) := by decide +kernel
theorem fS_11_206 : jfind2 jSt 11 206 = some (1, 84, 1, 992, 993, 994) := by decide +kernel
theorem fS_11_209 : jfind2 jSt 11 209 = some (1, 67, 2, 996, 997, 998) := by decide +kernel
theorem fS_11_213 : jfind2 jSt 11 213 = some (1, 63, 1, 1008, 1009, 1010) := by decide +kernel
theorem fS_11_216 : jfind2 jSt 11 216 = some (1, 62, 0, 1016, 1017, 1018) := by decide +kernel
theorem fS_11_221 : jfind2 jSt 11 221 = some (1, 85, 1, 1025, 1026, 1027) := by decide +kernel
theorem fS_11_225 : jfind2 jSt 11 225 = some (1, 86, 2, 1030, 1031, 1032) := by decide +kernel
theorem fS_11_229 : jfind2 jSt 11 229 = some (1, 87, 2, 1038, 1039, 1040) := by decide +kernel
theorem fS_11_232 : jfind2 jSt 11 232 = some (1, 60, 1, 1052, 1053, 1054) := by decide +kernel
theorem fS_11_235 : jfind2 jSt 11 235 = some (1, 61, 1, 1062, 1063, 1064) := by decide +kernel
theorem fS_11_238 : jfind2 jSt 11 238 = some (1, 64, 1, 1074, 1075, 1076) := by decide +kernel
theorem fS_11_241 : jfind2 jSt 11 241 = some (1, 65, 1, 1083, 1084, 1085) := by decide +kernel
theorem fS_11_244 : jfind2 jSt 11 244 = some (0, 184, 2, 1095, 1096, 0) := by decide +kernel
theorem fS_11_248 : jfind2 jSt 11 248 = some (1, 136, 6, 1099, 1100, 1101) := by decide +kernel
theorem fS_11_249 : jfind2 jSt 11 249 = some (1, 178, 1, 1107, 1109, 30) := by decide +kernel
theorem fS_11_253 : jfind2 jSt 11 253 = some (1, 1, 4, 1111, 1112, 1113) := by decide +kernel
theorem fS_11_257 : jfind2 jSt 11 257 = some (1, 7, 1, 1150, 1151, 1152) := by decide +kernel
theorem fS_11_261 : jfind2 jSt 11 261 = some (1, 129, 1, 1160, 916, 917) := by decide +kernel
theorem fS_11_264 : jfind2 jSt 11 264 = some (1, 71, 4, 1161, 1162, 1163) := by decide +kernel
theorem fS_11_268 : jfind2 jSt 11 268 = some (0, 180, 4, 1165, 1166, 0) := by decide +kernel
theorem fS_11_272 : jfind2 jSt 11 272 = some (1, 69, 2, 1172, 1173, 1174) := by decide +kernel
theorem fS_11_275 : jfind2 jSt 11 275 = some (1, 70, 2, 1176, 1177, 1178) := by decide +kernel
theorem fS_11_278 : jfind2 jSt 11 278 = some (1, 179, 3, 1184, 1186, 33) := by decide +kernel
theorem fS_11_282 : jfind2 jSt 11 282 = some (1, 114, 0, 1212, 1213, 1214) := by decide +kernel
theorem fS_11_287 : jfind2 jSt 11 287 = some (1, 115, 4, 1216, 1217, 1218) := by decide +kernel
theorem fS_11_290 : jfind2 jSt 11 290 = some (1, 116, 2, 1225, 1226, 1227) := by decide +kernel
theorem fS_11_294 : jfind2 jSt 11 294 = some (1, 128, 1, 1234, 780, 781) := by decide +kernel
theorem fS_11_297 : jfind2 jSt 11 297 = some (1, 117, 1, 1235, 1236, 1237) := by decide +kernel
theorem fS_11_301 : jfind2 jSt 11 301 = some (1, 49, 1, 1188, 1189, 1190) := by decide +kernel
theorem fS_11_305 : jfind2 jSt 11 305 = some (1, 5, 0, 1247, 1248, 1249) := by decide +kernel
theorem fS_11_308 : jfind2 jSt 11 308 = some (1, 6, 1, 1251, 1252, 1253) := by decide +kernel
theorem fS_11_311 : jfind2 jSt 11 311 = some (1, 8, 1, 1255, 1256, 1257) := by decide +kernel
theorem fS_11_314 : jfind2 jSt 11 314 = some (1, 9, 1, 1259, 1260, 1261) := by decide +kernel
theorem fS_11_317 : jfind2 jSt 11 317 = some (1, 139, 4, 1268, 1121, 1122) := by decide +kernel
theorem fS_11_321 : jfind2 jSt 11 321 = some (15, 0, 1, 1273, 1274, 1275) := by decide +kernel
theorem fS_11_327 : jfind2 jSt 11 327 = some (10, 0, 2, 1284, 209, 210) := by decide +kernel
theorem fS_11_330 : jfind2 jSt 11 330 = some (11, 0, 2, 1285, 520, 521) := by decide +kernel
theorem fS_11_333 : jfind2 jSt 11 333 = some (1, 51, 0, 1290, 1291, 1292) := by decide +kernel
theorem fS_11_336 : jfind2 jSt 11 336 = some (1, 177, 1, 1298, 1300, 34) := by decide +kernel
theorem fS_11_339 : jfind2 jSt 11 339 = some (1, 19, 4, 1302, 1303, 1304) := by decide +kernel
theorem fS_11_343 : jfind2 jSt 11 343 = some (1, 21, 0, 1314, 1315, 1316) := by decide +kernel
theorem fS_11_346 : jfind2 jSt 11 346 = some (1, 20, 3, 1318, 1319, 1320) := by decide +kernel
theorem fS_11_350 : jfind2 jSt 11 350 = some (1, 22, 0, 1322, 1323, 1324) := by decide +kernel
theorem fS_11_353 : jfind2 jSt 11 353 = some (1, 4, 0, 1142, 1143, 1144) := by decide +kernel
theorem fS_11_356 : jfind2 jSt 11 356 = some (1, 52, 1, 1200, 1201, 1202) := by decide +kernel
theorem fS_11_359 : jfind2 jSt 11 359 = some (14, 0, 2, 884, 885, 886) := by decide +kernel
theorem fS_11_362 : jfind2 jSt 11 362 = some (13, 0, 2, 887, 888, 889) := by decide +kernel
theorem fS_12_1 : jfind2 jSt 12 1 = some (7, 0, 0, 1331, 120, 121) := by decide +kernel
theorem fS_12_104 : jfind2 jSt 12 104 = some (1, 191, 1, 1484, 1486, 35) := by decide +kernel
theorem fS_12_114 : jfind2 jSt 12 114 = some (1, 195, 0, 1504, 1506, 38) := by decide +kernel
theorem fS_12_118 : jfind2 jSt 12 118 = some (1, 197, 1, 1513, 1515, 40) := by decide +kernel
theorem fS_12_122 : jfind2 jSt 12 122 = some (1, 198, 1, 1509, 1511, 39) := by decide +kernel
theorem fS_12_126 : jfind2 jSt 12 126 = some (1, 199, 0, 1530, 1532, 43) := by decide +kernel
theorem fS_12_129 : jfind2 jSt 12 129 = some (1, 196, 1, 1538, 1540, 45) := by decide +kernel
theorem fS_12_132 : jfind2 jSt 12 132 = some (1, 194, 2, 1522, 1524, 41) := by decide +kernel
theorem fS_12_169 : jfind2 jSt 12 169 = some (0, 206, 1, 1589, 1590, 0) := by decide +kernel
theorem fS_12_173 : jfind2 jSt 12 173 = some (1, 203, 2, 1563, 1565, 51) := by decide +kernel
theorem fS_12_177 : jfind2 jSt 12 177 = some (1, 205, 1, 1554, 1556, 49) := by decide +kernel
theorem fS_12_181 : jfind2 jSt 12 181 = some (1, 201, 1, 1534, 1536, 44) := by decide +kernel
theorem fS_12_184 : jfind2 jSt 12 184 = some (1, 204, 1, 1559, 1561, 50) := by decide +kernel
theorem fS_12_187 : jfind2 jSt 12 187 = some (1, 202, 0, 1567, 1569, 52) := by decide +kernel
theorem fS_12_190 : jfind2 jSt 12 190 = some (1, 209, 1, 1581, 1583, 54) := by decide +kernel
theorem fS_12_193 : jfind2 jSt 12 193 = some (1, 207, 2, 1585, 1587, 55) := by decide +kernel
theorem fS_12_196 : jfind2 jSt 12 196 = some (1, 208, 0, 1550, 1552, 48) := by decide +kernel
theorem fS_12_200 : jfind2 jSt 12 200 = some (1, 210, 1, 1577, 1579, 53) := by decide +kernel
theorem fS_12_203 : jfind2 jSt 12 203 = some (1, 211, 0, 1546, 1548, 47) := by decide +kernel
theorem fS_12_208 : jfind2 jSt 12 208 = some (1, 212, 0, 1606, 1608, 59) := by decide +kernel
theorem fS_12_211 : jfind2 jSt 12 211 = some (1, 214, 0, 1614, 1616, 61) := by decide +kernel
theorem fS_12_214 : jfind2 jSt 12 214 = some (1, 213, 0, 1601, 1603, 58) := by decide +kernel
theorem fS_12_217 : jfind2 jSt 12 217 = some (1, 215, 0, 1610, 1612, 60) := by decide +kernel
theorem fS_12_226 : jfind2 jSt 12 226 = some (1, 200, 1, 1593, 1595, 56) := by decide +kernel
theorem fS_12_229 : jfind2 jSt 12 229 = some (1, 216, 0, 1597, 1599, 57) := by decide +kernel
theorem fS_12_241 : jfind2 jSt 12 241 = some (1, 218, 3, 1526, 1528, 42) := by decide +kernel
theorem fS_12_245 : jfind2 jSt 12 245 = some (1, 217, 1, 1542, 1544, 46) := by decide +kernel
theorem fS_12_248 : jfind2 jSt 12 248 = some (1, 219, 0, 1500, 1502, 37) := by decide +kernel
theorem fS_12_254 : jfind2 jSt 12 254 = some (1, 220, 1, 1496, 1498, 36) := by decide +kernel
theorem fS_12_263 : jfind2 jSt 12 263 = some (1, 223, 1, 1684, 1686, 70) := by decide +kernel
theorem fS_12_267 : jfind2 jSt 12 267 = some (1, 224, 0, 1688, 1690, 71) := by decide +kernel
theorem fS_12_271 : jfind2 jSt 12 271 = some (0, 225, 3, 1692, 1693, 0) := by decide +kernel
theorem fS_12_275 : jfind2 jSt 12 275 = some (1, 226, 3, 1680, 1682, 69) := by decide +kernel
theorem fS_12_281 : jfind2 jSt 12 281 = some (0, 189, 3, 1629, 1630, 0) := by decide +kernel
theorem fS_12_297 : jfind2 jSt 12 297 = some (1, 229, 2, 1667, 1669, 66) := by decide +kernel
theorem fS_12_303 : jfind2 jSt 12 303 = some (1, 233, 1, 1663, 1665, 65) := by decide +kernel
theorem fS_12_306 : jfind2 jSt 12 306 = some (1, 227, 2, 1676, 1678, 68) := by decide +kernel
theorem fS_12_309 : jfind2 jSt 12 309 = some (0, 190, 3, 1695, 1696, 0) := by decide +kernel
theorem fS_12_325 : jfind2 jSt 12 325 = some (1, 235, 1, 1659, 1661, 64) := by decide +kernel
theorem fS_12_328 : jfind2 jSt 12 328 = some (1, 236, 3, 1672, 1674, 67) := by decide +kernel
theorem fS_12_332 : jfind2 jSt 12 332 = some (1, 237, 2, 1698, 1700, 72) := by decide +kernel
theorem fS_12_337 : jfind2 jSt 12 337 = some (0, 234, 4, 1709, 1710, 0) := by decide +kernel
theorem fS_12_341 : jfind2 jSt 12 341 = some (1, 238, 0, 1655, 1657, 63) := by decide +kernel
theorem fS_12_346 : jfind2 jSt 12 346 = some (1, 239, 1, 1651, 1653, 62) := by decide +kernel
theorem fS_12_358 : jfind2 jSt 12 358 = some (1, 230, 1, 1724, 1726, 73) := by decide +kernel
theorem fS_12_361 : jfind2 jSt 12 361 = some (1, 243, 1, 1728, 1730, 74) := by decide +kernel
theorem fS_12_364 : jfind2 jSt 12 364 = some (1, 248, 1, 1748, 1750, 76) := by decide +kernel
theorem fS_12_367 : jfind2 jSt 12 367 = some (1, 249, 1, 1744, 1746, 75) := by decide +kernel
theorem fS_12_372 : jfind2 jSt 12 372 = some (1, 253, 1, 1765, 1767, 78) := by decide +kernel
theorem fS_12_375 : jfind2 jSt 12 375 = some (1, 254, 1, 1761, 1763, 77) := by decide +kernel
theorem fS_12_378 : jfind2 jSt 12 378 = some (1, 250, 1, 1769, 1771, 79) := by decide +kernel
theorem fS_12_381 : jfind2 jSt 12 381 = some (1, 246, 0, 1773, 1775, 80) := by decide +kernel
theorem fS_12_388 : jfind2 jSt 12 388 = some (1, 257, 2, 1786, 1788, 81) := by decide +kernel
theorem fS_12_394 : jfind2 jSt 12 394 = some (1, 260, 2, 1804, 1806, 83) := by decide +kernel
theorem fS_12_397 : jfind2 jSt 12 397 = some (1, 261, 0, 1800, 1802, 82) := by decide +kernel
theorem fS_12_400 : jfind2 jSt 12 400 = some (1, 265, 4, 1816, 1818, 84) := by decide +kernel
theorem fS_12_408 : jfind2 jSt 12 408 = some (1, 269, 2, 1838, 1840, 85) := by decide +kernel
theorem fS_12_419 : jfind2 jSt 12 419 = some (1, 272, 2, 1851, 1853, 86) := by decide +kernel
theorem fS_12_424 : jfind2 jSt 12 424 = some (1, 274, 1, 1860, 1862, 87) := by decide +kernel
theorem fS_12_427 : jfind2 jSt 12 427 = some (1, 275, 1, 1868, 1870, 88) := by decide +kernel
theorem fS_12_443 : jfind2 jSt 12 443 = some (1, 278, 3, 1878, 1880, 89) := by decide +kernel
theorem fS_12_447 : jfind2 jSt 12 447 = some (1, 281, 4, 1890, 1892, 90) := by decide +kernel
theorem fS_12_451 : jfind2 jSt 12 451 = some (1, 284, 3, 1906, 1908, 92) := by decide +kernel
theorem fS_12_455 : jfind2 jSt 12 455 = some (1, 285, 2, 1902, 1904, 91) := by decide +kernel
theorem fS_12_458 : jfind2 jSt 12 458 = some (1, 287, 2, 1914, 1916, 93) := by decide +kernel
theorem fS_13_9 : jfind2 jSt 13 9 = some (3, 140, 0, 116, 117, 0) := by decide +kernel
theorem fS_13_12 : jfind2 jSt 13 12 = some (3, 188, 0, 1328, 1329, 0) := by decide +kernel
theorem fS_13_13 : jfind2 jSt 13 13 = some (1, 141, 5, 499, 500, 501) := by decide +kernel
theorem fS_13_17 : jfind2 jSt 13 17 = some (1, 192, 5, 1480, 1481, 1482) := by decide +kernel
theorem fS_13_18 : jfind2 jSt 13 18 = some (1, 142, 1, 511, 512, 513) := by decide +kernel
theorem fS_13_22 : jfind2 jSt 13 22 = some (1, 193, 1, 1488, 1489, 1490) := by decide +kernel
theorem fS_13_23 : jfind2 jSt 13 23 = some (1, 143, 0, 523, 524, 525) := by decide +kernel
theorem fS_13_27 : jfind2 jSt 13 27 = some (1, 221, 0, 1492, 1493, 1494) := by decide +kernel
theorem fS_13_28 : jfind2 jSt 13 28 = some (1, 144, 0, 724, 725, 726) := by decide +kernel
theorem fS_13_31 : jfind2 jSt 13 31 = some (1, 222, 0, 1620, 1621, 1622) := by decide +kernel
theorem fS_13_32 : jfind2 jSt 13 32 = some (1, 145, 3, 728, 729, 730) := by decide +kernel
theorem fS_13_36 : jfind2 jSt 13 36 = some (1, 228, 3, 1624, 1625, 1626) := by decide +kernel
theorem fS_13_37 : jfind2 jSt 13 37 = some (1, 146, 9, 742, 743, 744) := by decide +kernel
theorem fS_13_41 : jfind2 jSt 13 41 = some (1, 231, 9, 1634, 1635, 1636) := by decide +kernel
theorem fS_13_42 : jfind2 jSt 13 42 = some (1, 147, 1, 784, 785, 786) := by decide +kernel
theorem fS_13_46 : jfind2 jSt 13 46 = some (1, 232, 1, 1642, 1643, 1644) := by decide +kernel
theorem fS_13_47 : jfind2 jSt 13 47 = some (1, 148, 1, 796, 797, 798) := by decide +kernel
theorem fS_13_50 : jfind2 jSt 13 50 = some (1, 240, 1, 1646, 1647, 1648) := by decide +kernel
theorem fS_13_51 : jfind2 jSt 13 51 = some (1, 149, 0, 931, 932, 933) := by decide +kernel
theorem fS_13_54 : jfind2 jSt 13 54 = some (1, 241, 0, 1712, 1713, 1714) := by decide +kernel
theorem fS_13_55 : jfind2 jSt 13 55 = some (1, 150, 1, 935, 936, 937) := by decide +kernel
theorem fS_13_58 : jfind2 jSt 13 58 = some (1, 242, 1, 1716, 1717, 1718) := by decide +kernel
theorem fS_13_59 : jfind2 jSt 13 59 = some (1, 151, 2, 975, 976, 977) := by decide +kernel
theorem fS_13_63 : jfind2 jSt 13 63 = some (1, 255, 2, 1757, 1758, 1759) := by decide +kernel
theorem fS_13_64 : jfind2 jSt 13 64 = some (1, 152, 2, 1020, 1021, 1022) := by decide +kernel
theorem fS_13_68 : jfind2 jSt 13 68 = some (1, 256, 2, 1777, 1778, 1779) := by decide +kernel
theorem fS_13_69 : jfind2 jSt 13 69 = some (1, 153, 2, 1034, 1035, 1036) := by decide +kernel
theorem fS_13_72 : jfind2 jSt 13 72 = some (1, 258, 2, 1782, 1783, 1784) := by decide +kernel
theorem fS_13_73 : jfind2 jSt 13 73 = some (1, 154, 1, 1048, 1049, 1050) := by decide +kernel
theorem fS_13_76 : jfind2 jSt 13 76 = some (1, 244, 1, 1720, 1721, 1722) := by decide +kernel
theorem fS_13_77 : jfind2 jSt 13 77 = some (1, 155, 1, 1058, 1059, 1060) := by decide +kernel
theorem fS_13_80 : jfind2 jSt 13 80 = some (1, 245, 1, 1732, 1733, 1734) := by decide +kernel
theorem fS_13_81 : jfind2 jSt 13 81 = some (1, 156, 1, 1066, 1067, 1068) := by decide +kernel
theorem fS_13_84 : jfind2 jSt 13 84 = some (1, 247, 1, 1736, 1737, 1738) := by decide +kernel
theorem fS_13_85 : jfind2 jSt 13 85 = some (1, 157, 0, 1070, 1071, 1072) := by decide +kernel
theorem fS_13_88 : jfind2 jSt 13 88 = some (1, 251, 0, 1740, 1741, 1742) := by decide +kernel
theorem fS_13_89 : jfind2 jSt 13 89 = some (1, 158, 0, 1079, 1080, 1081) := by decide +kernel
theorem fS_13_92 : jfind2 jSt 13 92 = some (1, 252, 0, 1752, 1753, 1754) := by decide +kernel
theorem fS_13_93 : jfind2 jSt 13 93 = some (1, 159, 6, 1091, 1092, 1093) := by decide +kernel
theorem fS_13_97 : jfind2 jSt 13 97 = some (1, 259, 6, 1791, 1792, 1793) := by decide +kernel
theorem fS_13_98 : jfind2 jSt 13 98 = some (1, 160, 0, 1103, 1104, 1105) := by decide +kernel
theorem fS_13_101 : jfind2 jSt 13 101 = some (1, 262, 0, 1796, 1797, 1798) := by decide +kernel
theorem fS_13_102 : jfind2 jSt 13 102 = some (1, 161, 1, 1146, 1147, 1148) := by decide +kernel
theorem fS_13_105 : jfind2 jSt 13 105 = some (1, 263, 1, 1808, 1809, 1810) := by decide +kernel
theorem fS_13_106 : jfind2 jSt 13 106 = some (1, 162, 5, 1155, 1156, 1157) := by decide +kernel
theorem fS_13_109 : jfind2 jSt 13 109 = some (1, 271, 5, 1842, 1843, 1844) := by decide +kernel
theorem fS_13_110 : jfind2 jSt 13 110 = some (1, 163, 3, 1168, 1169, 1170) := by decide +kernel
theorem fS_13_113 : jfind2 jSt 13 113 = some (1, 273, 3, 1847, 1848, 1849) := by decide +kernel
theorem fS_13_114 : jfind2 jSt 13 114 = some (1, 164, 4, 1180, 1181, 1182) := by decide +kernel
theorem fS_13_118 : jfind2 jSt 13 118 = some (1, 279, 4, 1872, 1873, 1874) := by decide +kernel
theorem fS_13_119 : jfind2 jSt 13 119 = some (1, 165, 1, 1204, 1205, 1206) := by decide +kernel
theorem fS_13_122 : jfind2 jSt 13 122 = some (1, 280, 1, 1882, 1883, 1884) := by decide +kernel
theorem fS_13_123 : jfind2 jSt 13 123 = some (1, 166, 4, 1208, 1209, 1210) := by decide +kernel
theorem fS_13_126 : jfind2 jSt 13 126 = some (1, 283, 4, 1894, 1895, 1896) := by decide +kernel
theorem fS_13_127 : jfind2 jSt 13 127 = some (1, 167, 2, 1221, 1222, 1223) := by decide +kernel
theorem fS_13_130 : jfind2 jSt 13 130 = some (1, 286, 2, 1898, 1899, 1900) := by decide +kernel
theorem fS_13_131 : jfind2 jSt 13 131 = some (1, 168, 2, 1239, 1240, 1241) := by decide +kernel
theorem fS_13_134 : jfind2 jSt 13 134 = some (1, 288, 2, 1910, 1911, 1912) := by decide +kernel
theorem fS_13_135 : jfind2 jSt 13 135 = some (1, 169, 2, 1243, 1244, 1245) := by decide +kernel
theorem fS_13_138 : jfind2 jSt 13 138 = some (1, 264, 2, 1812, 1813, 1814) := by decide +kernel
theorem fS_13_139 : jfind2 jSt 13 139 = some (1, 170, 2, 1264, 1265, 1266) := by decide +kernel
theorem fS_13_142 : jfind2 jSt 13 142 = some (1, 266, 2, 1820, 1821, 1822) := by decide +kernel
theorem fS_13_143 : jfind2 jSt 13 143 = some (1, 171, 4, 1269, 1270, 1271) := by decide +kernel
theorem fS_13_146 : jfind2 jSt 13 146 = some (1, 267, 4, 1824, 1825, 1826) := by decide +kernel
theorem fS_13_147 : jfind2 jSt 13 147 = some (1, 172, 2, 1276, 1277, 1278) := by decide +kernel
theorem fS_13_150 : jfind2 jSt 13 150 = some (1, 268, 2, 1828, 1829, 1830) := by decide +kernel
theorem fS_13_151 : jfind2 jSt 13 151 = some (1, 173, 2, 1280, 1281, 1282) := by decide +kernel
theorem fS_13_154 : jfind2 jSt 13 154 = some (1, 270, 2, 1834, 1835, 1836) := by decide +kernel
theorem fS_13_155 : jfind2 jSt 13 155 = some (1, 174, 3, 1286, 1287, 1288) := by decide +kernel
theorem fS_13_158 : jfind2 jSt 13 158 = some (1, 282, 3, 1886, 1887, 1888) := by decide +kernel
theorem fS_13_159 : jfind2 jSt 13 159 = some (1, 175, 1, 1294, 1295, 1296) := by decide +kernel
theorem fS_13_162 : jfind2 jSt 13 162 = some (1, 276, 1, 1855, 1856, 1857) := by decide +kernel
theorem fS_13_163 : jfind2 jSt 13 163 = some (1, 176, 1, 1310, 1311, 1312) := by decide +kernel
theorem fS_13_166 : jfind2 jSt 13 166 = some (1, 277, 1, 1864, 1865, 1866) := by decide +kernel
theorem fL_6_157 : jfind2 jLd 6 157 = some (99999, 663) := by decide +kernel
theorem fL_11_127 : jfind2 jLd 11 127 = some (999999999, 735) := by decide +kernel
theorem fL_11_140 : jfind2 jLd 11 140 = some (99999, 750) := by decide +kernel
theorem fL_11_260 : jfind2 jLd 11 260 = some (9999999, 1159) := by decide +kernel
theorem fL_11_286 : jfind2 jLd 11 286 = some (1000000000, 1098) := by decide +kernel
theorem fL_12_180 : jfind2 jLd 12 180 = some (99999, 1558) := by decide +kernel
theorem fL2_5_112 : jfind2 jL2 5 112 = some (9999, 892) := by decide +kernel
theorem fL2_5_131 : jfind2 jL2 5 131 = some (99, 880) := by decide +kernel
theorem fL2_5_133 : jfind2 jL2 5 133 = some (999, 890) := by decide +kernel
theorem fL2_5_139 : jfind2 jL2 5 139 = some ((-9999), 891) := by decide +kernel
theorem fL2_5_159 : jfind2 jL2 5 159 = some (1000, 833) := by decide +kernel
theorem fL2_5_165 : jfind2 jL2 5 165 = some (1103515245, 897) := by decide +kernel
theorem fL2_5_167 : jfind2 jL2 5 167 = some (12345, 898) := by decide +kernel
theorem fL2_5_169 : jfind2 jL2 5 169 = some (2147483648, 899) := by decide +kernel
theorem fL2_5_174 : jfind2 jL2 5 174 = some (65536, 904) := by decide +kernel
theorem fL2_5_176 : jfind2 jL2 5 176 = some (100000, 909) := by decide +kernel
theorem fL2_7_48 : jfind2 jL2 7 48 = some ((-1000000000000000000), 1230) := by decide +kernel
theorem fL2_7_50 : jfind2 jL2 7 50 = some (1000000000000000000, 1231) := by decide +kernel
theorem fL2_11_219 : jfind2 jL2 11 219 = some ((-1), 1024) := by decide +kernel
theorem fL2_11_364 : jfind2 jL2 11 364 = some (1000000, 1047) := by decide +kernel
theorem fL2_11_366 : jfind2 jL2 11 366 = some (1000, 922) := by decide +kernel
theorem fL2_12_139 : jfind2 jL2 12 139 = some (120299592184933, 1571) := by decide +kernel
theorem fL2_12_141 : jfind2 jL2 12 141 = some (1936024942, 1572) := by decide +kernel
theorem fL2_12_143 : jfind2 jL2 12 143 = some (7823731, 1573) := by decide +kernel
theorem fL2_12_145 : jfind2 jL2 12 145 = some (2002873972, 1574) := by decide +kernel
theorem fL2_12_147 : jfind2 jL2 12 147 = some (1751474548, 1521) := by decide +kernel
theorem fL2_12_149 : jfind2 jL2 12 149 = some (1886743660, 1520) := by decide +kernel
theorem fL2_12_151 : jfind2 jL2 12 151 = some (1818584692, 1575) := by decide +kernel
theorem fL2_12_153 : jfind2 jL2 12 153 = some (1819242087, 1576) := by decide +kernel
theorem fL2_12_155 : jfind2 jL2 12 155 = some (2003395685, 1508) := by decide +kernel
theorem fL2_12_206 : jfind2 jL2 12 206 = some (7237492, 1605) := by decide +kernel
theorem fL2_12_220 : jfind2 jL2 12 220 = some (6385252, 1618) := by decide +kernel
theorem fL2_12_222 : jfind2 jL2 12 222 = some (28530, 1619) := by decide +kernel
theorem fL2_12_224 : jfind2 jL2 12 224 = some (26982, 1592) := by decide +kernel
theorem fL2_12_232 : jfind2 jL2 12 232 = some (495924638316, 1517) := by decide +kernel
theorem fL2_12_234 : jfind2 jL2 12 234 = some (1818326117, 1518) := by decide +kernel
theorem fL2_12_236 : jfind2 jL2 12 236 = some (444150998387, 1519) := by decide +kernel
theorem fL2_12_279 : jfind2 jL2 12 279 = some (5, 1628) := by decide +kernel
theorem fL2_12_285 : jfind2 jL2 12 285 = some (999999999, 1632) := by decide +kernel
theorem fL2_12_287 : jfind2 jL2 12 287 = some (2000, 1633) := by decide +kernel
theorem fL2_12_289 : jfind2 jL2 12 289 = some (99999, 1638) := by decide +kernel
theorem fL2_12_291 : jfind2 jL2 12 291 = some (9999, 1639) := by decide +kernel
theorem fL2_12_293 : jfind2 jL2 12 293 = some (999, 1640) := by decide +kernel
theorem fL2_12_295 : jfind2 jL2 12 295 = some (900, 1641) := by decide +kernel
theorem fL2_12_301 : jfind2 jL2 12 301 = some (1000, 1671) := by decide +kernel
theorem fL2_12_313 : jfind2 jL2 12 313 = some ((-9999), 1702) := by decide +kernel
theorem fL2_12_315 : jfind2 jL2 12 315 = some (1103515245, 1703) := by decide +kernel
theorem fL2_12_317 : jfind2 jL2 12 317 = some (12345, 1704) := by decide +kernel
theorem fL2_12_319 : jfind2 jL2 12 319 = some (2147483648, 1705) := by decide +kernel
theorem fL2_12_321 : jfind2 jL2 12 321 = some (65536, 1706) := by decide +kernel
theorem fL2_12_323 : jfind2 jL2 12 323 = some (2, 1707) := by decide +kernel
theorem fL2_12_335 : jfind2 jL2 12 335 = some (100000, 1708) := by decide +kernel
theorem fL2_12_344 : jfind2 jL2 12 344 = some (600, 1650) := by decide +kernel
theorem fL2_12_370 : jfind2 jL2 12 370 = some (10, 1756) := by decide +kernel
theorem fL2_12_384 : jfind2 jL2 12 384 = some ((-1), 1781) := by decide +kernel
theorem fL2_12_386 : jfind2 jL2 12 386 = some (1000000, 1790) := by decide +kernel
theorem fL2_12_392 : jfind2 jL2 12 392 = some (1000000000, 1795) := by decide +kernel
theorem fL2_12_404 : jfind2 jL2 12 404 = some (599, 1832) := by decide +kernel
theorem fL2_12_406 : jfind2 jL2 12 406 = some (19999, 1833) := by decide +kernel
theorem fL2_12_411 : jfind2 jL2 12 411 = some (9999999, 1846) := by decide +kernel
theorem fL2_12_422 : jfind2 jL2 12 422 = some (3, 1859) := by decide +kernel
theorem fL2_12_439 : jfind2 jL2 12 439 = some (300, 1876) := by decide +kernel
theorem fL2_12_441 : jfind2 jL2 12 441 = some (4, 1877) := by decide +kernel
theorem fLn_6_93 : jfind2 jLd 6 93 = none := by decide +kernel
theorem fLs_6_93 : jfind2 jLs 6 93 = some (12, 682) := by decide +kernel
theorem fLn_6_106 : jfind2 jLd 6 106 = none := by decide +kernel
theorem fLs_6_106 : jfind2 jLs 6 106 = some (0, 555) := by decide +kernel
theorem fLn_6_111 : jfind2 jLd 6 111 = none := by decide +kernel
theorem fLs_6_111 : jfind2 jLs 6 111 = some (1, 611) := by decide +kernel
theorem fLn_6_113 : jfind2 jLd 6 113 = none := by decide +kernel
theorem fLs_6_113 : jfind2 jLs 6 113 = some (2, 612) := by decide +kernel
theorem fLn_6_115 : jfind2 jLd 6 115 = none := by decide +kernel
theorem fLs_6_115 : jfind2 jLs 6 115 = some (3, 613) := by decide +kernel
theorem fLn_6_117 : jfind2 jLd 6 117 = none := by decide +kernel
theorem fLs_6_117 : jfind2 jLs 6 117 = some (4, 614) := by decide +kernel
theorem fLn_6_119 : jfind2 jLd 6 119 = none := by decide +kernel
theorem fLs_6_119 : jfind2 jLs 6 119 = some (5, 615) := by decide +kernel
theorem fLn_6_124 : jfind2 jLd 6 124 = none := by decide +kernel
theorem fLs_6_124 : jfind2 jLs 6 124 = some (15, 705) := by decide +kernel
theorem fLn_6_132 : jfind2 jLd 6 132 = none := by decide +kernel
theorem fLs_6_132 : jfind2 jLs 6 132 = some (14, 704) := by decide +kernel
theorem fLn_6_134 : jfind2 jLd 6 134 = none := by decide +kernel
theorem fLs_6_134 : jfind2 jLs 6 134 = some (13, 699) := by decide +kernel
theorem fLn_6_161 : jfind2 jLd 6 161 = none := by decide +kernel
theorem fLs_6_161 : jfind2 jLs 6 161 = some (6, 676) := by decide +kernel
theorem fLn_6_163 : jfind2 jLd 6 163 = none := by decide +kernel
theorem fLs_6_163 : jfind2 jLs 6 163 = some (7, 677) := by decide +kernel
theorem fLn_6_165 : jfind2 jLd 6 165 = none := by decide +kernel
theorem fLs_6_165 : jfind2 jLs 6 165 = some (8, 678) := by decide +kernel
theorem fLn_6_167 : jfind2 jLd 6 167 = none := by decide +kernel
theorem fLs_6_167 : jfind2 jLs 6 167 = some (9, 679) := by decide +kernel
theorem fLn_6_169 : jfind2 jLd 6 169 = none := by decide +kernel
theorem fLs_6_169 : jfind2 jLs 6 169 = some (10, 680) := by decide +kernel
theorem fLn_6_171 : jfind2 jLd 6 171 = none := by decide +kernel
theorem fLs_6_171 : jfind2 jLs 6 171 = some (11, 681) := by decide +kernel
theorem fN_2_9 : jfind2 jNw 2 9 = some (5, 399) := by decide +kernel
theorem fN_4_21 : jfind2 jNw 4 21 = some (3, 211) := by decide +kernel
theorem fN_5_9 : jfind2 jNw 5 9 = some (8, 244) := by decide +kernel
theorem fN_6_9 : jfind2 jNw 6 9 = some (9, 128) := by decide +kernel
theorem fN_6_18 : jfind2 jNw 6 18 = some (3, 142) := by decide +kernel
theorem fN_11_7 : jfind2 jNw 11 7 = some (6, 122) := by decide +kernel
theorem fN_11_23 : jfind2 jNw 11 23 = some (4, 202) := by decide +kernel
theorem fN_11_35 : jfind2 jNw 11 35 = some (1, 221) := by decide +kernel
theorem fN_11_53 : jfind2 jNw 11 53 = some (5, 238) := by decide +kernel
theorem fN_11_63 : jfind2 jNw 11 63 = some (2, 334) := by decide +kernel
theorem fN_11_69 : jfind2 jNw 11 69 = some (10, 336) := by decide +kernel
theorem fN_11_78 : jfind2 jNw 11 78 = some (0, 338) := by decide +kernel
theorem fN_11_85 : jfind2 jNw 11 85 = some (7, 363) := by decide +kernel
theorem fN_13_7 : jfind2 jNw 13 7 = some (11, 114) := by decide +kernel
theorem fN_13_10 : jfind2 jNw 13 10 = some (12, 1326) := by decide +kernel
theorem fA_4_21 : jfind2 jAn 4 21 = some (24, 3, 211, 212) := by decide +kernel
theorem fA_6_18 : jfind2 jAn 6 18 = some (24, 3, 142, 212) := by decide +kernel
theorem fA_11_63 : jfind2 jAn 11 63 = some (25, 2, 334, 335) := by decide +kernel
theorem fA_11_69 : jfind2 jAn 11 69 = some (26, 10, 336, 337) := by decide +kernel
