set_option maxRecDepth 100000 in
theorem k_code_0 : lw_tbl[342]? = some (.code yX0_init cX0_init 1 none) := rfl
set_option maxRecDepth 100000 in
theorem k_code_1 : lw_tbl[1114]? = some (.code yX0_lay cX0_lay 9 none) := rfl
set_option maxRecDepth 100000 in
theorem k_code_2 : lw_tbl[1129]? = some (.code yX0_offerPieces cX0_offerPieces 8 none) := rfl
set_option maxRecDepth 100000 in
theorem k_code_3 : lw_tbl[1141]? = some (.code yX0_offer cX0_offer 5 none) := rfl
set_option maxRecDepth 100000 in
theorem k_code_4 : lw_tbl[1145]? = some (.code yX0_coins cX0_coins 1 (some .int)) := rfl
set_option maxRecDepth 100000 in
theorem k_code_5 : lw_tbl[1250]? = some (.code yX0_pieces cX0_pieces 3 (some .int)) := rfl
set_option maxRecDepth 100000 in
theorem k_code_6 : lw_tbl[1254]? = some (.code yX0_firstRowOfPiece cX0_firstRowOfPiece 4 (some .int)) := rfl
set_option maxRecDepth 100000 in
theorem k_code_7 : lw_tbl[1153]? = some (.code yX0_wantOfRow cX0_wantOfRow 3 (some .int)) := rfl
set_option maxRecDepth 100000 in
theorem k_code_8 : lw_tbl[1258]? = some (.code yX0_rowsOfPieceAt cX0_rowsOfPieceAt 2 (some .int)) := rfl
set_option maxRecDepth 100000 in
theorem k_code_9 : lw_tbl[1262]? = some (.code yX0_coinsOfPieceAt cX0_coinsOfPieceAt 3 (some .int)) := rfl
set_option maxRecDepth 100000 in
theorem k_code_10 : lw_tbl[225]? = some (.code yX1_init cX1_init 1 none) := rfl
set_option maxRecDepth 100000 in
theorem k_code_11 : lw_tbl[820]? = some (.code yX1_tell cX1_tell 4 none) := rfl
set_option maxRecDepth 100000 in
theorem k_code_12 : lw_tbl[837]? = some (.code yX1_first cX1_first 9 (some .long)) := rfl
set_option maxRecDepth 100000 in
theorem k_code_13 : lw_tbl[861]? = some (.code yX1_reckon cX1_reckon 10 (some .long)) := rfl
set_option maxRecDepth 100000 in
theorem k_code_14 : lw_tbl[876]? = some (.code yX1_reckonSum cX1_reckonSum 5 (some .long)) := rfl
set_option maxRecDepth 100000 in
theorem k_code_15 : lw_tbl[879]? = some (.code yX1_decide cX1_decide 5 (some .boolean)) := rfl
set_option maxRecDepth 100000 in
theorem k_code_16 : lw_tbl[869]? = some (.code yX1_push cX1_push 3 none) := rfl
set_option maxRecDepth 100000 in
theorem k_code_17 : lw_tbl[873]? = some (.code yX1_pop cX1_pop 1 (some .long)) := rfl
set_option maxRecDepth 100000 in
theorem k_code_18 : lw_tbl[397]? = some (.code yX2_init cX2_init 1 none) := rfl
set_option maxRecDepth 100000 in
theorem k_code_19 : lw_tbl[1305]? = some (.code yX2_take cX2_take 5 none) := rfl
set_option maxRecDepth 100000 in
theorem k_code_20 : lw_tbl[1321]? = some (.code yX2_giveBack cX2_giveBack 4 none) := rfl
set_option maxRecDepth 100000 in
theorem k_code_21 : lw_tbl[1317]? = some (.code yX2_isMade cX2_isMade 1 (some .boolean)) := rfl
set_option maxRecDepth 100000 in
theorem k_code_22 : lw_tbl[1325]? = some (.code yX2_thinThen cX2_thinThen 1 (some .int)) := rfl
set_option maxRecDepth 100000 in
theorem k_code_23 : lw_tbl[1309]? = some (.code yX2_copyStuffs cX2_copyStuffs 3 none) := rfl
set_option maxRecDepth 100000 in
theorem k_code_24 : lw_tbl[146]? = some (.code yX3_init cX3_init 1 none) := rfl
set_option maxRecDepth 100000 in
theorem k_code_25 : lw_tbl[538]? = some (.code yX3_clear cX3_clear 1 none) := rfl
set_option maxRecDepth 100000 in
theorem k_code_26 : lw_tbl[719]? = some (.code yX3_becomeLike cX3_becomeLike 2 none) := rfl
set_option maxRecDepth 100000 in
theorem k_code_27 : lw_tbl[667]? = some (.code yX3_write cX3_write 2 none) := rfl
set_option maxRecDepth 100000 in
theorem k_code_28 : lw_tbl[709]? = some (.code yX3_addRule cX3_addRule 4 none) := rfl
set_option maxRecDepth 100000 in
theorem k_code_29 : lw_tbl[638]? = some (.code yX3_setNumber cX3_setNumber 3 none) := rfl
set_option maxRecDepth 100000 in
theorem k_code_30 : lw_tbl[623]? = some (.code yX3_hasNumber cX3_hasNumber 2 (some .boolean)) := rfl
set_option maxRecDepth 100000 in
theorem k_code_31 : lw_tbl[642]? = some (.code yX3_size cX3_size 1 (some .int)) := rfl
set_option maxRecDepth 100000 in
theorem k_code_32 : lw_tbl[841]? = some (.code yX3_rules cX3_rules 1 (some .int)) := rfl
set_option maxRecDepth 100000 in
theorem k_code_33 : lw_tbl[903]? = some (.code yX3_swirl cX3_swirl 1 (some .int)) := rfl
set_option maxRecDepth 100000 in
theorem k_code_34 : lw_tbl[815]? = some (.code yX3_late cX3_late 1 (some .int)) := rfl
set_option maxRecDepth 100000 in
theorem k_code_35 : lw_tbl[914]? = some (.code yX3_given cX3_given 2 (some .int)) := rfl
set_option maxRecDepth 100000 in
theorem k_code_36 : lw_tbl[865]? = some (.code yX3_codeAt cX3_codeAt 2 (some .int)) := rfl
set_option maxRecDepth 100000 in
theorem k_code_37 : lw_tbl[857]? = some (.code yX3_kindOf cX3_kindOf 2 (some .int)) := rfl
set_option maxRecDepth 100000 in
theorem k_code_38 : lw_tbl[845]? = some (.code yX3_sumOf cX3_sumOf 2 (some .int)) := rfl
set_option maxRecDepth 100000 in
theorem k_code_39 : lw_tbl[849]? = some (.code yX3_testOf cX3_testOf 2 (some .int)) := rfl
set_option maxRecDepth 100000 in
theorem k_code_40 : lw_tbl[853]? = some (.code yX3_endOf cX3_endOf 2 (some .int)) := rfl
set_option maxRecDepth 100000 in
theorem k_code_41 : lw_tbl[206]? = some (.code yX4_init cX4_init 3 none) := rfl
set_option maxRecDepth 100000 in
theorem k_code_42 : lw_tbl[970]? = some (.code yX4_size cX4_size 1 (some .int)) := rfl
set_option maxRecDepth 100000 in
theorem k_code_43 : lw_tbl[534]? = some (.code yX4_isFull cX4_isFull 1 (some .boolean)) := rfl
set_option maxRecDepth 100000 in
theorem k_code_44 : lw_tbl[714]? = some (.code yX4_add cX4_add 2 (some .int)) := rfl
set_option maxRecDepth 100000 in
theorem k_code_45 : lw_tbl[749]? = some (.code yX4_find cX4_find 2 (some (.object "PulledCrystal$Law"))) := rfl
set_option maxRecDepth 100000 in
theorem k_code_46 : lw_tbl[242]? = some (.code yX5_init cX5_init 1 none) := rfl
set_option maxRecDepth 100000 in
theorem k_code_47 : lw_tbl[754]? = some (.code yX5_start cX5_start 1 (some (.object "PulledCrystal$Start"))) := rfl
set_option maxRecDepth 100000 in
theorem k_code_48 : lw_tbl[766]? = some (.code yX5_open cX5_open 5 none) := rfl
set_option maxRecDepth 100000 in
theorem k_code_49 : lw_tbl[1191]? = some (.code yX5_becomeLike cX5_becomeLike 3 none) := rfl
set_option maxRecDepth 100000 in
theorem k_code_50 : lw_tbl[795]? = some (.code yX5_follow cX5_follow 2 none) := rfl
set_option maxRecDepth 100000 in
theorem k_code_51 : lw_tbl[1293]? = some (.code yX5_besideWant cX5_besideWant 1 (some .int)) := rfl
set_option maxRecDepth 100000 in
theorem k_code_52 : lw_tbl[1203]? = some (.code yX5_shiftWide cX5_shiftWide 2 none) := rfl
set_option maxRecDepth 100000 in
theorem k_code_53 : lw_tbl[803]? = some (.code yX5_goOn cX5_goOn 4 (some .int)) := rfl
set_option maxRecDepth 100000 in
theorem k_code_54 : lw_tbl[807]? = some (.code yX5_passMinute cX5_passMinute 8 none) := rfl
set_option maxRecDepth 100000 in
theorem k_code_55 : lw_tbl[811]? = some (.code yX5_tellWords cX5_tellWords 3 none) := rfl
set_option maxRecDepth 100000 in
theorem k_code_56 : lw_tbl[824]? = some (.code yX5_wideSeen cX5_wideSeen 2 (some .int)) := rfl
set_option maxRecDepth 100000 in
theorem k_code_57 : lw_tbl[896]? = some (.code yX5_swirled cX5_swirled 2 (some .long)) := rfl
set_option maxRecDepth 100000 in
theorem k_code_58 : lw_tbl[908]? = some (.code yX5_addRow cX5_addRow 5 none) := rfl
set_option maxRecDepth 100000 in
theorem k_code_59 : lw_tbl[926]? = some (.code yX5_howBehindMinute cX5_howBehindMinute 1 (some .int)) := rfl
set_option maxRecDepth 100000 in
theorem k_code_60 : lw_tbl[1055]? = some (.code yX5_meltBack cX5_meltBack 5 (some .int)) := rfl
set_option maxRecDepth 100000 in
theorem k_code_61 : lw_tbl[1065]? = some (.code yX5_tellFault cX5_tellFault 2 (some .boolean)) := rfl
set_option maxRecDepth 100000 in
theorem k_code_62 : lw_tbl[1019]? = some (.code yX5_firstFaulted cX5_firstFaulted 2 (some .int)) := rfl
set_option maxRecDepth 100000 in
theorem k_code_63 : lw_tbl[1011]? = some (.code yX5_firstClean cX5_firstClean 4 (some .int)) := rfl
set_option maxRecDepth 100000 in
theorem k_code_64 : lw_tbl[1077]? = some (.code yX5_faultsLeft cX5_faultsLeft 4 (some .int)) := rfl
set_option maxRecDepth 100000 in
theorem k_code_65 : lw_tbl[1086]? = some (.code yX5_tearsAt cX5_tearsAt 6 (some .int)) := rfl
set_option maxRecDepth 100000 in
theorem k_code_66 : lw_tbl[1090]? = some (.code yX5_thinnestOfNeck cX5_thinnestOfNeck 4 (some .int)) := rfl
set_option maxRecDepth 100000 in
theorem k_code_67 : lw_tbl[999]? = some (.code yX5_kindOf cX5_kindOf 4 (some .int)) := rfl
set_option maxRecDepth 100000 in
theorem k_code_68 : lw_tbl[1004]? = some (.code yX5_isBody cX5_isBody 3 (some .boolean)) := rfl
set_option maxRecDepth 100000 in
theorem k_code_69 : lw_tbl[1175]? = some (.code yX5_wanderOver cX5_wanderOver 5 (some .int)) := rfl
set_option maxRecDepth 100000 in
theorem k_code_70 : lw_tbl[1179]? = some (.code yX5_huntsOver cX5_huntsOver 7 (some .int)) := rfl
set_option maxRecDepth 100000 in
theorem k_code_71 : lw_tbl[1164]? = some (.code yX5_replay cX5_replay 14 none) := rfl
set_option maxRecDepth 100000 in
theorem k_code_72 : lw_tbl[828]? = some (.code yX5_hasRow cX5_hasRow 2 (some .boolean)) := rfl
set_option maxRecDepth 100000 in
theorem k_code_73 : lw_tbl[791]? = some (.code yX5_how cX5_how 1 (some .int)) := rfl
set_option maxRecDepth 100000 in
theorem k_code_74 : lw_tbl[942]? = some (.code yX5_rows cX5_rows 1 (some .int)) := rfl
set_option maxRecDepth 100000 in
theorem k_code_75 : lw_tbl[946]? = some (.code yX5_left cX5_left 1 (some .int)) := rfl
set_option maxRecDepth 100000 in
theorem k_code_76 : lw_tbl[950]? = some (.code yX5_wide cX5_wide 1 (some .int)) := rfl
set_option maxRecDepth 100000 in
theorem k_code_77 : lw_tbl[954]? = some (.code yX5_heat cX5_heat 1 (some .int)) := rfl
set_option maxRecDepth 100000 in
theorem k_code_78 : lw_tbl[958]? = some (.code yX5_pull cX5_pull 1 (some .int)) := rfl
set_option maxRecDepth 100000 in
theorem k_code_79 : lw_tbl[962]? = some (.code yX5_length cX5_length 1 (some .int)) := rfl
set_option maxRecDepth 100000 in
theorem k_code_80 : lw_tbl[966]? = some (.code yX5_minutes cX5_minutes 1 (some .int)) := rfl
set_option maxRecDepth 100000 in
theorem k_code_81 : lw_tbl[983]? = some (.code yX5_wideOf cX5_wideOf 2 (some .int)) := rfl
set_option maxRecDepth 100000 in
theorem k_code_82 : lw_tbl[987]? = some (.code yX5_heatOf cX5_heatOf 2 (some .int)) := rfl
set_option maxRecDepth 100000 in
theorem k_code_83 : lw_tbl[991]? = some (.code yX5_pullOf cX5_pullOf 2 (some .int)) := rfl
set_option maxRecDepth 100000 in
theorem k_code_84 : lw_tbl[995]? = some (.code yX5_grownOf cX5_grownOf 2 (some .int)) := rfl
set_option maxRecDepth 100000 in
theorem k_code_85 : lw_tbl[1028]? = some (.code yX5_meltOf cX5_meltOf 2 (some .long)) := rfl
set_option maxRecDepth 100000 in
theorem k_code_86 : lw_tbl[1033]? = some (.code yX5_wentInto cX5_wentInto 3 (some .long)) := rfl
set_option maxRecDepth 100000 in
theorem k_code_87 : lw_tbl[1041]? = some (.code yX5_partsOf cX5_partsOf 3 (some .long)) := rfl
set_option maxRecDepth 100000 in
theorem k_code_88 : lw_tbl[126]? = some (.code yX6_init cX6_init 1 none) := rfl
set_option maxRecDepth 100000 in
theorem k_code_89 : lw_tbl[201]? = some (.code yX6_tape cX6_tape 1 (some (.object "PulledCrystal$Tape"))) := rfl
set_option maxRecDepth 100000 in
theorem k_code_90 : lw_tbl[530]? = some (.code yX6_readInto cX6_readInto 5 (some .int)) := rfl
set_option maxRecDepth 100000 in
theorem k_code_91 : lw_tbl[619]? = some (.code yX6_fail cX6_fail 3 none) := rfl
set_option maxRecDepth 100000 in
theorem k_code_92 : lw_tbl[542]? = some (.code yX6_readClause cX6_readClause 5 none) := rfl
set_option maxRecDepth 100000 in
theorem k_code_93 : lw_tbl[554]? = some (.code yX6_clauseKind cX6_clauseKind 1 (some .int)) := rfl
set_option maxRecDepth 100000 in
theorem k_code_94 : lw_tbl[690]? = some (.code yX6_readTest cX6_readTest 3 none) := rfl
set_option maxRecDepth 100000 in
theorem k_code_95 : lw_tbl[694]? = some (.code yX6_readPart cX6_readPart 3 none) := rfl
set_option maxRecDepth 100000 in
theorem k_code_96 : lw_tbl[698]? = some (.code yX6_readFact cX6_readFact 4 none) := rfl
set_option maxRecDepth 100000 in
theorem k_code_97 : lw_tbl[658]? = some (.code yX6_opens cX6_opens 2 (some .boolean)) := rfl
set_option maxRecDepth 100000 in
theorem k_code_98 : lw_tbl[703]? = some (.code yX6_readSign cX6_readSign 3 (some .int)) := rfl
set_option maxRecDepth 100000 in
theorem k_code_99 : lw_tbl[646]? = some (.code yX6_readSum cX6_readSum 4 none) := rfl
set_option maxRecDepth 100000 in
theorem k_code_100 : lw_tbl[650]? = some (.code yX6_readTerm cX6_readTerm 4 none) := rfl
set_option maxRecDepth 100000 in
theorem k_code_101 : lw_tbl[654]? = some (.code yX6_readValue cX6_readValue 4 none) := rfl
set_option maxRecDepth 100000 in
theorem k_code_102 : lw_tbl[671]? = some (.code yX6_countTold cX6_countTold 2 none) := rfl
set_option maxRecDepth 100000 in
theorem k_code_103 : lw_tbl[631]? = some (.code yX6_readNumber cX6_readNumber 5 (some .int)) := rfl
set_option maxRecDepth 100000 in
theorem k_code_104 : lw_tbl[675]? = some (.code yX6_wordNumber cX6_wordNumber 1 (some .int)) := rfl
set_option maxRecDepth 100000 in
theorem k_code_105 : lw_tbl[546]? = some (.code yX6_nextByte cX6_nextByte 1 (some .int)) := rfl
set_option maxRecDepth 100000 in
theorem k_code_106 : lw_tbl[662]? = some (.code yX6_expect cX6_expect 2 none) := rfl
set_option maxRecDepth 100000 in
theorem k_code_107 : lw_tbl[686]? = some (.code yX6_takesWord cX6_takesWord 2 (some .boolean)) := rfl
set_option maxRecDepth 100000 in
theorem k_code_108 : lw_tbl[559]? = some (.code yX6_isWord cX6_isWord 3 (some .boolean)) := rfl
set_option maxRecDepth 100000 in
theorem k_code_109 : lw_tbl[627]? = some (.code yX6_wordEnd cX6_wordEnd 2 (some .int)) := rfl
set_option maxRecDepth 100000 in
theorem k_code_110 : lw_tbl[610]? = some (.code yX6_isLetter cX6_isLetter 1 (some .boolean)) := rfl
set_option maxRecDepth 100000 in
theorem k_code_111 : lw_tbl[634]? = some (.code yX6_isDigit cX6_isDigit 1 (some .boolean)) := rfl
set_option maxRecDepth 100000 in
theorem k_code_112 : lw_tbl[367]? = some (.code yX7_init cX7_init 1 none) := rfl
set_option maxRecDepth 100000 in
theorem k_code_113 : lw_tbl[974]? = some (.code yX7_size cX7_size 1 (some .int)) := rfl
set_option maxRecDepth 100000 in
theorem k_code_114 : lw_tbl[1215]? = some (.code yX7_isFull cX7_isFull 1 (some .boolean)) := rfl
set_option maxRecDepth 100000 in
theorem k_code_115 : lw_tbl[1219]? = some (.code yX7_add cX7_add 5 none) := rfl
set_option maxRecDepth 100000 in
theorem k_code_116 : lw_tbl[1228]? = some (.code yX7_gather cX7_gather 5 none) := rfl
set_option maxRecDepth 100000 in
theorem k_code_117 : lw_tbl[1238]? = some (.code yX7_areAsFound cX7_areAsFound 3 (some .boolean)) := rfl
set_option maxRecDepth 100000 in
theorem k_code_118 : lw_tbl[248]? = some (.code yX8_init cX8_init 1 none) := rfl
set_option maxRecDepth 100000 in
theorem k_code_119 : lw_tbl[758]? = some (.code yX8_tell cX8_tell 7 none) := rfl
set_option maxRecDepth 100000 in
theorem k_code_120 : lw_tbl[762]? = some (.code yX8_tellStuffs cX8_tellStuffs 4 none) := rfl
set_option maxRecDepth 100000 in
theorem k_code_121 : lw_tbl[1195]? = some (.code yX8_becomeLike cX8_becomeLike 2 none) := rfl
set_option maxRecDepth 100000 in
theorem k_code_122 : lw_tbl[770]? = some (.code yX8_grams cX8_grams 1 (some .int)) := rfl
set_option maxRecDepth 100000 in
theorem k_code_123 : lw_tbl[832]? = some (.code yX8_wideWanted cX8_wideWanted 1 (some .int)) := rfl
set_option maxRecDepth 100000 in
theorem k_code_124 : lw_tbl[778]? = some (.code yX8_heat cX8_heat 1 (some .int)) := rfl
set_option maxRecDepth 100000 in
theorem k_code_125 : lw_tbl[774]? = some (.code yX8_wide cX8_wide 1 (some .int)) := rfl
set_option maxRecDepth 100000 in
theorem k_code_126 : lw_tbl[930]? = some (.code yX8_life cX8_life 1 (some .int)) := rfl
set_option maxRecDepth 100000 in
theorem k_code_127 : lw_tbl[1015]? = some (.code yX8_faultsThen cX8_faultsThen 1 (some .int)) := rfl
set_option maxRecDepth 100000 in
theorem k_code_128 : lw_tbl[782]? = some (.code yX8_putOf cX8_putOf 2 (some .int)) := rfl
set_option maxRecDepth 100000 in
theorem k_code_129 : lw_tbl[918]? = some (.code yX8_shareOf cX8_shareOf 2 (some .int)) := rfl
set_option maxRecDepth 100000 in
theorem k_code_130 : lw_tbl[132]? = some (.code yX9_init cX9_init 1 none) := rfl
set_option maxRecDepth 100000 in
theorem k_code_131 : lw_tbl[506]? = some (.code yX9_size cX9_size 1 (some .int)) := rfl
set_option maxRecDepth 100000 in
theorem k_code_132 : lw_tbl[510]? = some (.code yX9_add cX9_add 3 none) := rfl
set_option maxRecDepth 100000 in
theorem k_code_133 : lw_tbl[518]? = some (.code yX9_shorten cX9_shorten 2 none) := rfl
set_option maxRecDepth 100000 in
theorem k_code_134 : lw_tbl[550]? = some (.code yX9_byteAt cX9_byteAt 2 (some .int)) := rfl
set_option maxRecDepth 100000 in
theorem k_code_135 : lw_tbl[420]? = some (.code yX10_init cX10_init 1 none) := rfl
set_option maxRecDepth 100000 in
theorem k_code_136 : lw_tbl[1102]? = some (.code yX10_tell cX10_tell 7 none) := rfl
set_option maxRecDepth 100000 in
theorem k_code_137 : lw_tbl[1133]? = some (.code yX10_length cX10_length 1 (some .int)) := rfl
set_option maxRecDepth 100000 in
theorem k_code_138 : lw_tbl[1137]? = some (.code yX10_coins cX10_coins 1 (some .int)) := rfl
set_option maxRecDepth 100000 in
theorem k_code_139 : lw_tbl[1123]? = some (.code yX10_reasonsAgainst cX10_reasonsAgainst 8 (some .int)) := rfl
set_option maxRecDepth 100000 in
theorem k_code_140 : lw_tbl[118]? = some (.code yX11_init cX11_init 2 none) := rfl
set_option maxRecDepth 100000 in
theorem k_code_141 : lw_tbl[502]? = some (.code yX11_feed cX11_feed 6 (some .int)) := rfl
set_option maxRecDepth 100000 in
theorem k_code_142 : lw_tbl[514]? = some (.code yX11_end cX11_end 2 (some .int)) := rfl
set_option maxRecDepth 100000 in
theorem k_code_143 : lw_tbl[526]? = some (.code yX11_furnace cX11_furnace 1 (some .int)) := rfl
set_option maxRecDepth 100000 in
theorem k_code_144 : lw_tbl[727]? = some (.code yX11_minder cX11_minder 1 (some .int)) := rfl
set_option maxRecDepth 100000 in
theorem k_code_145 : lw_tbl[731]? = some (.code yX11_stuff cX11_stuff 4 (some .int)) := rfl
set_option maxRecDepth 100000 in
theorem k_code_146 : lw_tbl[745]? = some (.code yX11_begin cX11_begin 13 (some .boolean)) := rfl
set_option maxRecDepth 100000 in
theorem k_code_147 : lw_tbl[787]? = some (.code yX11_minds cX11_minds 3 (some .boolean)) := rfl
set_option maxRecDepth 100000 in
theorem k_code_148 : lw_tbl[799]? = some (.code yX11_grow cX11_grow 2 (some .int)) := rfl
set_option maxRecDepth 100000 in
theorem k_code_149 : lw_tbl[934]? = some (.code yX11_state cX11_state 1 (some .int)) := rfl
set_option maxRecDepth 100000 in
theorem k_code_150 : lw_tbl[938]? = some (.code yX11_count cX11_count 2 (some .int)) := rfl
set_option maxRecDepth 100000 in
theorem k_code_151 : lw_tbl[978]? = some (.code yX11_row cX11_row 3 (some .int)) := rfl
set_option maxRecDepth 100000 in
theorem k_code_152 : lw_tbl[1023]? = some (.code yX11_much cX11_much 3 (some .long)) := rfl
set_option maxRecDepth 100000 in
theorem k_code_153 : lw_tbl[1037]? = some (.code yX11_parts cX11_parts 3 (some .long)) := rfl
set_option maxRecDepth 100000 in
theorem k_code_154 : lw_tbl[1051]? = some (.code yX11_melt cX11_melt 2 (some .int)) := rfl
set_option maxRecDepth 100000 in
theorem k_code_155 : lw_tbl[1061]? = some (.code yX11_fault cX11_fault 2 (some .boolean)) := rfl
set_option maxRecDepth 100000 in
theorem k_code_156 : lw_tbl[1069]? = some (.code yX11_thin cX11_thin 3 (some .int)) := rfl
set_option maxRecDepth 100000 in
theorem k_code_157 : lw_tbl[1073]? = some (.code yX11_faults cX11_faults 1 (some .int)) := rfl
set_option maxRecDepth 100000 in
theorem k_code_158 : lw_tbl[1082]? = some (.code yX11_holds cX11_holds 1 (some .int)) := rfl
set_option maxRecDepth 100000 in
theorem k_code_159 : lw_tbl[1094]? = some (.code yX11_want cX11_want 7 (some .int)) := rfl
set_option maxRecDepth 100000 in
theorem k_code_160 : lw_tbl[1106]? = some (.code yX11_cut cX11_cut 1 (some .int)) := rfl
set_option maxRecDepth 100000 in
theorem k_code_161 : lw_tbl[1149]? = some (.code yX11_whose cX11_whose 2 (some .int)) := rfl
set_option maxRecDepth 100000 in
theorem k_code_162 : lw_tbl[1158]? = some (.code yX11_enough cX11_enough 10 (some .int)) := rfl
set_option maxRecDepth 100000 in
theorem k_code_163 : lw_tbl[1171]? = some (.code yX11_wander cX11_wander 4 (some .int)) := rfl
set_option maxRecDepth 100000 in
theorem k_code_164 : lw_tbl[1183]? = some (.code yX11_tried cX11_tried 6 (some .int)) := rfl
set_option maxRecDepth 100000 in
theorem k_code_165 : lw_tbl[1207]? = some (.code yX11_best cX11_best 8 (some .int)) := rfl
set_option maxRecDepth 100000 in
theorem k_code_166 : lw_tbl[1211]? = some (.code yX11_slice cX11_slice 5 (some .int)) := rfl
set_option maxRecDepth 100000 in
theorem k_code_167 : lw_tbl[1224]? = some (.code yX11_span cX11_span 7 (some .int)) := rfl
set_option maxRecDepth 100000 in
theorem k_code_168 : lw_tbl[1242]? = some (.code yX11_choice cX11_choice 6 (some .int)) := rfl
set_option maxRecDepth 100000 in
theorem k_code_169 : lw_tbl[1246]? = some (.code yX11_piece cX11_piece 4 (some .int)) := rfl
set_option maxRecDepth 100000 in
theorem k_code_170 : lw_tbl[1267]? = some (.code yX11_why cX11_why 3 (some .int)) := rfl
set_option maxRecDepth 100000 in
theorem k_code_171 : lw_tbl[1272]? = some (.code yX11_stripes cX11_stripes 7 (some .int)) := rfl
set_option maxRecDepth 100000 in
theorem k_code_172 : lw_tbl[1279]? = some (.code yX11_ring cX11_ring 3 (some .int)) := rfl
set_option maxRecDepth 100000 in
theorem k_code_173 : lw_tbl[1283]? = some (.code yX11_awry cX11_awry 7 (some .int)) := rfl
set_option maxRecDepth 100000 in
theorem k_code_174 : lw_tbl[1289]? = some (.code yX11_far cX11_far 7 (some .int)) := rfl
set_option maxRecDepth 100000 in
theorem k_code_175 : lw_tbl[1297]? = some (.code yX11_image cX11_image 2 (some .int)) := rfl
set_option maxRecDepth 100000 in
theorem k_code_176 : lw_tbl[1313]? = some (.code yX11_back cX11_back 2 (some .int)) := rfl
set_option maxRecDepth 100000 in
theorem k_code_177 : lw_tbl[1301]? = some (.code yX11_isImage cX11_isImage 2 (some .boolean)) := rfl
set_option maxRecDepth 100000 in
theorem k_code_178 : lw_tbl[1110]? = some (.code yX11_mostCoins cX11_mostCoins 2 (some .int)) := rfl
set_option maxRecDepth 100000 in
theorem k_code_179 : lw_tbl[1187]? = some (.code yX11_rehearse cX11_rehearse 4 none) := rfl
set_option maxRecDepth 100000 in
theorem k_code_180 : lw_tbl[1167]? = some (.code yX11_countBetween cX11_countBetween 6 (some .int)) := rfl
set_option maxRecDepth 100000 in
theorem k_code_181 : lw_tbl[741]? = some (.code yX11_replace cX11_replace 4 (some .int)) := rfl
set_option maxRecDepth 100000 in
theorem k_code_182 : lw_tbl[734]? = some (.code yX11_isStuff cX11_isStuff 1 (some .boolean)) := rfl
set_option maxRecDepth 100000 in
theorem k_code_183 : lw_tbl[738]? = some (.code yX11_isWithin cX11_isWithin 3 (some .boolean)) := rfl
set_option maxRecDepth 100000 in
theorem k_code_184 : lw_tbl[1097]? = some (.code yX11_isSpan cX11_isSpan 2 (some .boolean)) := rfl
set_option maxRecDepth 100000 in
theorem k_code_185 : lw_tbl[883]? = some (.code yX11_hold cX11_hold 6 (some .long)) := rfl
set_option maxRecDepth 100000 in
theorem k_code_186 : lw_tbl[1046]? = some (.code yX11_partsInMillion cX11_partsInMillion 4 (some .long)) := rfl
set_option maxRecDepth 100000 in
theorem k_code_187 : lw_tbl[921]? = some (.code yX11_goesAlong cX11_goesAlong 8 (some .long)) := rfl
set_option maxRecDepth 100000 in
theorem k_code_188 : lw_tbl[1330]? = some (.code yX12_init cX12_init 2 none) := rfl
set_option maxRecDepth 100000 in
theorem k_code_189 : lw_tbl[1631]? = some (.code yX12_in cX12_in 6 (some .boolean)) := rfl
set_option maxRecDepth 100000 in
theorem k_code_190 : lw_tbl[1697]? = some (.code yX12_held cX12_held 6 (some .long)) := rfl
set_option maxRecDepth 100000 in
theorem k_code_191 : lw_tbl[1487]? = some (.code yX12_four cX12_four 3 none) := rfl
set_option maxRecDepth 100000 in
theorem k_code_192 : lw_tbl[1483]? = some (.code yX12_feed cX12_feed 6 (some .int)) := rfl
set_option maxRecDepth 100000 in
theorem k_code_193 : lw_tbl[1491]? = some (.code yX12_end cX12_end 2 (some .int)) := rfl
set_option maxRecDepth 100000 in
theorem k_code_194 : lw_tbl[1525]? = some (.code yX12_fails cX12_fails 3 (some .boolean)) := rfl
set_option maxRecDepth 100000 in
theorem k_code_195 : lw_tbl[1507]? = some (.code yX12_see cX12_see 1 (some .int)) := rfl
set_option maxRecDepth 100000 in
theorem k_code_196 : lw_tbl[1541]? = some (.code yX12_isDigit cX12_isDigit 2 (some .boolean)) := rfl
set_option maxRecDepth 100000 in
theorem k_code_197 : lw_tbl[1516]? = some (.code yX12_isLetter cX12_isLetter 2 (some .boolean)) := rfl
set_option maxRecDepth 100000 in
theorem k_code_198 : lw_tbl[1512]? = some (.code yX12_isWord cX12_isWord 6 (some .boolean)) := rfl
set_option maxRecDepth 100000 in
theorem k_code_199 : lw_tbl[1533]? = some (.code yX12_passWord cX12_passWord 1 none) := rfl
set_option maxRecDepth 100000 in
theorem k_code_200 : lw_tbl[1596]? = some (.code yX12_takesWord cX12_takesWord 3 (some .boolean)) := rfl
set_option maxRecDepth 100000 in
theorem k_code_201 : lw_tbl[1537]? = some (.code yX12_number cX12_number 4 (some .boolean)) := rfl
set_option maxRecDepth 100000 in
theorem k_code_202 : lw_tbl[1570]? = some (.code yX12_wordHere cX12_wordHere 1 (some .int)) := rfl
set_option maxRecDepth 100000 in
theorem k_code_203 : lw_tbl[1566]? = some (.code yX12_puts cX12_puts 3 none) := rfl
set_option maxRecDepth 100000 in
theorem k_code_204 : lw_tbl[1562]? = some (.code yX12_makes cX12_makes 2 (some .boolean)) := rfl
set_option maxRecDepth 100000 in
theorem k_code_205 : lw_tbl[1557]? = some (.code yX12_opens cX12_opens 2 (some .boolean)) := rfl
set_option maxRecDepth 100000 in
theorem k_code_206 : lw_tbl[1591]? = some (.code yX12_strength cX12_strength 1 (some .int)) := rfl
set_option maxRecDepth 100000 in
theorem k_code_207 : lw_tbl[1588]? = some (.code yX12_settles cX12_settles 3 none) := rfl
set_option maxRecDepth 100000 in
theorem k_code_208 : lw_tbl[1553]? = some (.code yX12_value cX12_value 3 (some .boolean)) := rfl
set_option maxRecDepth 100000 in
theorem k_code_209 : lw_tbl[1584]? = some (.code yX12_hasRound cX12_hasRound 3 (some .boolean)) := rfl
set_option maxRecDepth 100000 in
theorem k_code_210 : lw_tbl[1580]? = some (.code yX12_closesRound cX12_closesRound 2 none) := rfl
set_option maxRecDepth 100000 in
theorem k_code_211 : lw_tbl[1549]? = some (.code yX12_sum cX12_sum 5 (some .boolean)) := rfl
set_option maxRecDepth 100000 in
theorem k_code_212 : lw_tbl[1609]? = some (.code yX12_compare cX12_compare 5 (some .boolean)) := rfl
set_option maxRecDepth 100000 in
theorem k_code_213 : lw_tbl[1604]? = some (.code yX12_fact cX12_fact 3 (some .boolean)) := rfl
set_option maxRecDepth 100000 in
theorem k_code_214 : lw_tbl[1617]? = some (.code yX12_hasSquare cX12_hasSquare 2 (some .boolean)) := rfl
set_option maxRecDepth 100000 in
theorem k_code_215 : lw_tbl[1613]? = some (.code yX12_closesSquare cX12_closesSquare 1 none) := rfl
set_option maxRecDepth 100000 in
theorem k_code_216 : lw_tbl[1600]? = some (.code yX12_test cX12_test 3 (some .boolean)) := rfl
set_option maxRecDepth 100000 in
theorem k_code_217 : lw_tbl[1545]? = some (.code yX12_summed cX12_summed 3 (some .boolean)) := rfl
set_option maxRecDepth 100000 in
theorem k_code_218 : lw_tbl[1529]? = some (.code yX12_told cX12_told 4 (some .boolean)) := rfl
set_option maxRecDepth 100000 in
theorem k_code_219 : lw_tbl[1503]? = some (.code yX12_clauseHere cX12_clauseHere 5 (some .boolean)) := rfl
set_option maxRecDepth 100000 in
theorem k_code_220 : lw_tbl[1499]? = some (.code yX12_reads cX12_reads 3 (some .int)) := rfl
set_option maxRecDepth 100000 in
theorem k_code_221 : lw_tbl[1495]? = some (.code yX12_furnace cX12_furnace 2 (some .int)) := rfl
set_option maxRecDepth 100000 in
theorem k_code_222 : lw_tbl[1623]? = some (.code yX12_minder cX12_minder 2 (some .int)) := rfl
set_option maxRecDepth 100000 in
theorem k_code_223 : lw_tbl[1687]? = some (.code yX12_push cX12_push 3 none) := rfl
set_option maxRecDepth 100000 in
theorem k_code_224 : lw_tbl[1691]? = some (.code yX12_pop cX12_pop 1 (some .long)) := rfl
set_option maxRecDepth 100000 in
theorem k_code_225 : lw_tbl[1694]? = some (.code yX12_one cX12_one 5 (some .long)) := rfl
set_option maxRecDepth 100000 in
theorem k_code_226 : lw_tbl[1683]? = some (.code yX12_reckons cX12_reckons 11 (some .long)) := rfl
set_option maxRecDepth 100000 in
theorem k_code_227 : lw_tbl[1679]? = some (.code yX12_holding cX12_holding 5 (some .int)) := rfl
set_option maxRecDepth 100000 in
theorem k_code_228 : lw_tbl[1627]? = some (.code yX12_stuff cX12_stuff 5 (some .int)) := rfl
set_option maxRecDepth 100000 in
theorem k_code_229 : lw_tbl[1670]? = some (.code yX12_rowOf cX12_rowOf 3 (some .int)) := rfl
set_option maxRecDepth 100000 in
theorem k_code_230 : lw_tbl[1727]? = some (.code yX12_isRow cX12_isRow 2 (some .boolean)) := rfl
set_option maxRecDepth 100000 in
theorem k_code_231 : lw_tbl[1637]? = some (.code yX12_begin cX12_begin 11 (some .boolean)) := rfl
set_option maxRecDepth 100000 in
theorem k_code_232 : lw_tbl[1645]? = some (.code yX12_minds cX12_minds 2 (some .boolean)) := rfl
set_option maxRecDepth 100000 in
theorem k_code_233 : lw_tbl[1666]? = some (.code yX12_wideAt cX12_wideAt 2 (some .int)) := rfl
set_option maxRecDepth 100000 in
theorem k_code_234 : lw_tbl[1711]? = some (.code yX12_goes cX12_goes 10 (some .long)) := rfl
set_option maxRecDepth 100000 in
theorem k_code_235 : lw_tbl[1662]? = some (.code yX12_words cX12_words 2 none) := rfl
set_option maxRecDepth 100000 in
theorem k_code_236 : lw_tbl[1675]? = some (.code yX12_minded cX12_minded 6 (some .int)) := rfl
set_option maxRecDepth 100000 in
theorem k_code_237 : lw_tbl[1701]? = some (.code yX12_widens cX12_widens 9 none) := rfl
set_option maxRecDepth 100000 in
theorem k_code_238 : lw_tbl[1658]? = some (.code yX12_minute cX12_minute 9 none) := rfl
set_option maxRecDepth 100000 in
theorem k_code_239 : lw_tbl[1654]? = some (.code yX12_goesOn cX12_goesOn 3 (some .int)) := rfl
set_option maxRecDepth 100000 in
theorem k_code_240 : lw_tbl[1649]? = some (.code yX12_grow cX12_grow 2 (some .int)) := rfl
set_option maxRecDepth 100000 in
theorem k_code_241 : lw_tbl[1715]? = some (.code yX12_state cX12_state 1 (some .int)) := rfl
set_option maxRecDepth 100000 in
theorem k_code_242 : lw_tbl[1719]? = some (.code yX12_count cX12_count 2 (some .int)) := rfl
set_option maxRecDepth 100000 in
theorem k_code_243 : lw_tbl[1731]? = some (.code yX12_melts cX12_melts 4 none) := rfl
set_option maxRecDepth 100000 in
theorem k_code_244 : lw_tbl[1723]? = some (.code yX12_melt cX12_melt 3 (some .int)) := rfl
set_option maxRecDepth 100000 in
theorem k_code_245 : lw_tbl[1735]? = some (.code yX12_fault cX12_fault 2 (some .boolean)) := rfl
set_option maxRecDepth 100000 in
theorem k_code_246 : lw_tbl[1776]? = some (.code yX12_firstFault cX12_firstFault 2 (some .int)) := rfl
set_option maxRecDepth 100000 in
theorem k_code_247 : lw_tbl[1739]? = some (.code yX12_thin cX12_thin 3 (some .int)) := rfl
set_option maxRecDepth 100000 in
theorem k_code_248 : lw_tbl[1751]? = some (.code yX12_isNeck cX12_isNeck 2 (some .boolean)) := rfl
set_option maxRecDepth 100000 in
theorem k_code_249 : lw_tbl[1747]? = some (.code yX12_flawsBehind cX12_flawsBehind 4 (some .int)) := rfl
set_option maxRecDepth 100000 in
theorem k_code_250 : lw_tbl[1772]? = some (.code yX12_isClean cX12_isClean 2 (some .boolean)) := rfl
set_option maxRecDepth 100000 in
theorem k_code_251 : lw_tbl[1743]? = some (.code yX12_faults cX12_faults 1 (some .int)) := rfl
set_option maxRecDepth 100000 in
theorem k_code_252 : lw_tbl[1755]? = some (.code yX12_holds cX12_holds 7 (some .int)) := rfl
set_option maxRecDepth 100000 in
theorem k_code_253 : lw_tbl[1768]? = some (.code yX12_isBody cX12_isBody 3 (some .boolean)) := rfl
set_option maxRecDepth 100000 in
theorem k_code_254 : lw_tbl[1764]? = some (.code yX12_kind cX12_kind 3 (some .int)) := rfl
set_option maxRecDepth 100000 in
theorem k_code_255 : lw_tbl[1760]? = some (.code yX12_row cX12_row 3 (some .int)) := rfl
set_option maxRecDepth 100000 in
theorem k_code_256 : lw_tbl[1780]? = some (.code yX12_much cX12_much 3 (some .long)) := rfl
set_option maxRecDepth 100000 in
theorem k_code_257 : lw_tbl[1789]? = some (.code yX12_partsOf cX12_partsOf 4 (some .long)) := rfl
set_option maxRecDepth 100000 in
theorem k_code_258 : lw_tbl[1785]? = some (.code yX12_parts cX12_parts 3 (some .long)) := rfl
set_option maxRecDepth 100000 in
theorem k_code_259 : lw_tbl[1794]? = some (.code yX12_want cX12_want 7 (some .int)) := rfl
set_option maxRecDepth 100000 in
theorem k_code_260 : lw_tbl[1807]? = some (.code yX12_isWanted cX12_isWanted 5 (some .boolean)) := rfl
set_option maxRecDepth 100000 in
theorem k_code_261 : lw_tbl[1803]? = some (.code yX12_cuts cX12_cuts 9 (some .int)) := rfl
set_option maxRecDepth 100000 in
theorem k_code_262 : lw_tbl[1799]? = some (.code yX12_cut cX12_cut 1 (some .int)) := rfl
set_option maxRecDepth 100000 in
theorem k_code_263 : lw_tbl[1811]? = some (.code yX12_whose cX12_whose 3 (some .int)) := rfl
set_option maxRecDepth 100000 in
theorem k_code_264 : lw_tbl[1815]? = some (.code yX12_piece cX12_piece 6 (some .int)) := rfl
set_option maxRecDepth 100000 in
theorem k_code_265 : lw_tbl[1819]? = some (.code yX12_pieceOf cX12_pieceOf 7 (some .int)) := rfl
set_option maxRecDepth 100000 in
theorem k_code_266 : lw_tbl[1823]? = some (.code yX12_why cX12_why 7 (some .int)) := rfl
set_option maxRecDepth 100000 in
theorem k_code_267 : lw_tbl[1827]? = some (.code yX12_stripes cX12_stripes 7 (some .int)) := rfl
set_option maxRecDepth 100000 in
theorem k_code_268 : lw_tbl[1831]? = some (.code yX12_ring cX12_ring 3 (some .int)) := rfl
set_option maxRecDepth 100000 in
theorem k_code_269 : lw_tbl[1841]? = some (.code yX12_isAwry cX12_isAwry 4 (some .boolean)) := rfl
set_option maxRecDepth 100000 in
theorem k_code_270 : lw_tbl[1837]? = some (.code yX12_awry cX12_awry 7 (some .int)) := rfl
set_option maxRecDepth 100000 in
theorem k_code_271 : lw_tbl[1845]? = some (.code yX12_enough cX12_enough 15 (some .int)) := rfl
set_option maxRecDepth 100000 in
theorem k_code_272 : lw_tbl[1854]? = some (.code yX12_looks cX12_looks 7 none) := rfl
set_option maxRecDepth 100000 in
theorem k_code_273 : lw_tbl[1850]? = some (.code yX12_wander cX12_wander 4 (some .int)) := rfl
set_option maxRecDepth 100000 in
theorem k_code_274 : lw_tbl[1863]? = some (.code yX12_keeps cX12_keeps 5 none) := rfl
set_option maxRecDepth 100000 in
theorem k_code_275 : lw_tbl[1871]? = some (.code yX12_returns cX12_returns 5 none) := rfl
set_option maxRecDepth 100000 in
theorem k_code_276 : lw_tbl[1858]? = some (.code yX12_image cX12_image 2 (some .int)) := rfl
set_option maxRecDepth 100000 in
theorem k_code_277 : lw_tbl[1867]? = some (.code yX12_back cX12_back 2 (some .int)) := rfl
set_option maxRecDepth 100000 in
theorem k_code_278 : lw_tbl[1881]? = some (.code yX12_tries cX12_tries 6 none) := rfl
set_option maxRecDepth 100000 in
theorem k_code_279 : lw_tbl[1875]? = some (.code yX12_tried cX12_tried 5 (some .int)) := rfl
set_option maxRecDepth 100000 in
theorem k_code_280 : lw_tbl[1885]? = some (.code yX12_best cX12_best 6 (some .int)) := rfl
set_option maxRecDepth 100000 in
theorem k_code_281 : lw_tbl[1893]? = some (.code yX12_endsWell cX12_endsWell 5 (some .boolean)) := rfl
set_option maxRecDepth 100000 in
theorem k_code_282 : lw_tbl[1889]? = some (.code yX12_far cX12_far 5 (some .int)) := rfl
set_option maxRecDepth 100000 in
theorem k_code_283 : lw_tbl[1897]? = some (.code yX12_slice cX12_slice 5 (some .int)) := rfl
set_option maxRecDepth 100000 in
theorem k_code_284 : lw_tbl[1909]? = some (.code yX12_fits cX12_fits 8 (some .boolean)) := rfl
set_option maxRecDepth 100000 in
theorem k_code_285 : lw_tbl[1905]? = some (.code yX12_fitsAll cX12_fitsAll 8 (some .boolean)) := rfl
set_option maxRecDepth 100000 in
theorem k_code_286 : lw_tbl[1901]? = some (.code yX12_span cX12_span 7 (some .int)) := rfl
set_option maxRecDepth 100000 in
theorem k_code_287 : lw_tbl[1917]? = some (.code yX12_coinsOf cX12_coinsOf 4 (some .int)) := rfl
set_option maxRecDepth 100000 in
theorem k_code_288 : lw_tbl[1913]? = some (.code yX12_choice cX12_choice 6 (some .int)) := rfl
theorem k_st_0 : ∀ q ∈ jSt_0, jStOk q = true := by decide +kernel
theorem k_st_1 : ∀ q ∈ jSt_1, jStOk q = true := by decide +kernel
theorem k_st_2 : ∀ q ∈ jSt_2, jStOk q = true := by decide +kernel
theorem k_st_3 : ∀ q ∈ jSt_3, jStOk q = true := by decide +kernel
theorem k_st_4 : ∀ q ∈ jSt_4, jStOk q = true := by decide +kernel
theorem k_st_5 : ∀ q ∈ jSt_5, jStOk q = true := by decide +kernel
theorem k_st_6 : ∀ q ∈ jSt_6, jStOk q = true := by decide +kernel
theorem k_st : ∀ q ∈ jSt, jStOk q = true := List.forall_mem_append.mpr ⟨k_st_0, List.forall_mem_append.mpr ⟨k_st_1, List.forall_mem_append.mpr ⟨k_st_2, List.forall_mem_append.mpr ⟨k_st_3, List.forall_mem_append.mpr ⟨k_st_4, List.forall_mem_append.mpr ⟨k_st_5, k_st_6⟩⟩⟩⟩⟩⟩
theorem k_codes_0 : ∀ j ∈ ([0, 1, 2, 3, 4, 5, 6, 7, 8, 9, 10, 11, 12, 13, 14, 15, 16] : List Nat), lw_tbl[jP j]? = some (.code (jY j) (jB j) (jMl j) (jRt j)) := List.forall_mem_cons.mpr ⟨k_code_0, List.forall_mem_cons.mpr ⟨k_code_1, List.forall_mem_cons.mpr ⟨k_code_2, List.forall_mem_cons.mpr ⟨k_code_3, List.forall_mem_cons.mpr ⟨k_code_4, List.forall_mem_cons.mpr ⟨k_code_5, List.forall_mem_cons.mpr ⟨k_code_6, List.forall_mem_cons.mpr ⟨k_code_7, List.forall_mem_cons.mpr ⟨k_code_8, List.forall_mem_cons.mpr ⟨k_code_9, List.forall_mem_cons.mpr ⟨k_code_10, List.forall_mem_cons.mpr ⟨k_code_11, List.forall_mem_cons.mpr ⟨k_code_12, List.forall_mem_cons.mpr ⟨k_code_13, List.forall_mem_cons.mpr ⟨k_code_14, List.forall_mem_cons.mpr ⟨k_code_15, List.forall_mem_cons.mpr ⟨k_code_16, fun _ h => absurd h List.not_mem_nil⟩⟩⟩⟩⟩⟩⟩⟩⟩⟩⟩⟩⟩⟩⟩⟩⟩
theorem k_codes_1 : ∀ j ∈ ([17, 18, 19, 20, 21, 22, 23, 24, 25, 26, 27, 28, 29, 30, 31, 32, 33] : List Nat), lw_tbl[jP j]? = some (.code (jY j) (jB j) (jMl j) (jRt j)) := List.forall_mem_cons.mpr ⟨k_code_17, List.forall_mem_cons.mpr ⟨k_code_18, List.forall_mem_cons.mpr ⟨k_code_19, List.forall_mem_cons.mpr ⟨k_code_20, List.forall_mem_cons.mpr ⟨k_code_21, List.forall_mem_cons.mpr ⟨k_code_22, List.forall_mem_cons.mpr ⟨k_code_23, List.forall_mem_cons.mpr ⟨k_code_24, List.forall_mem_cons.mpr ⟨k_code_25, List.forall_mem_cons.mpr ⟨k_code_26, List.forall_mem_cons.mpr ⟨k_code_27, List.forall_mem_cons.mpr ⟨k_code_28, List.forall_mem_cons.mpr ⟨k_code_29, List.forall_mem_cons.mpr ⟨k_code_30, List.forall_mem_cons.mpr ⟨k_code_31, List.forall_mem_cons.mpr ⟨k_code_32, List.forall_mem_cons.mpr ⟨k_code_33, fun _ h => absurd h List.not_mem_nil⟩⟩⟩⟩⟩⟩⟩⟩⟩⟩⟩⟩⟩⟩⟩⟩⟩
theorem k_codes_2 : ∀ j ∈ ([34, 35, 36, 37, 38, 39, 40, 41, 42, 43, 44, 45, 46, 47, 48, 49, 50] : List Nat), lw_tbl[jP j]? = some (.code (jY j) (jB j) (jMl j) (jRt j)) := List.forall_mem_cons.mpr ⟨k_code_34, List.forall_mem_cons.mpr ⟨k_code_35, List.forall_mem_cons.mpr ⟨k_code_36, List.forall_mem_cons.mpr ⟨k_code_37, List.forall_mem_cons.mpr ⟨k_code_38, List.forall_mem_cons.mpr ⟨k_code_39, List.forall_mem_cons.mpr ⟨k_code_40, List.forall_mem_cons.mpr ⟨k_code_41, List.forall_mem_cons.mpr ⟨k_code_42, List.forall_mem_cons.mpr ⟨k_code_43, List.forall_mem_cons.mpr ⟨k_code_44, List.forall_mem_cons.mpr ⟨k_code_45, List.forall_mem_cons.mpr ⟨k_code_46, List.forall_mem_cons.mpr ⟨k_code_47, List.forall_mem_cons.mpr ⟨k_code_48, List.forall_mem_cons.mpr ⟨k_code_49, List.forall_mem_cons.mpr ⟨k_code_50, fun _ h => absurd h List.not_mem_nil⟩⟩⟩⟩⟩⟩⟩⟩⟩⟩⟩⟩⟩⟩⟩⟩⟩
theorem k_codes_3 : ∀ j ∈ ([51, 52, 53, 54, 55, 56, 57, 58, 59, 60, 61, 62, 63, 64, 65, 66, 67] : List Nat), lw_tbl[jP j]? = some (.code (jY j) (jB j) (jMl j) (jRt j)) := List.forall_mem_cons.mpr ⟨k_code_51, List.forall_mem_cons.mpr ⟨k_code_52, List.forall_mem_cons.mpr ⟨k_code_53, List.forall_mem_cons.mpr ⟨k_code_54, List.forall_mem_cons.mpr ⟨k_code_55, List.forall_mem_cons.mpr ⟨k_code_56, List.forall_mem_cons.mpr ⟨k_code_57, List.forall_mem_cons.mpr ⟨k_code_58, List.forall_mem_cons.mpr ⟨k_code_59, List.forall_mem_cons.mpr ⟨k_code_60, List.forall_mem_cons.mpr ⟨k_code_61, List.forall_mem_cons.mpr ⟨k_code_62, List.forall_mem_cons.mpr ⟨k_code_63, List.forall_mem_cons.mpr ⟨k_code_64, List.forall_mem_cons.mpr ⟨k_code_65, List.forall_mem_cons.mpr ⟨k_code_66, List.forall_mem_cons.mpr ⟨k_code_67, fun _ h => absurd h List.not_mem_nil⟩⟩⟩⟩⟩⟩⟩⟩⟩⟩⟩⟩⟩⟩⟩⟩⟩
theorem k_codes_4 : ∀ j ∈ ([68, 69, 70, 71, 72, 73, 74, 75, 76, 77, 78, 79, 80, 81, 82, 83, 84] : List Nat), lw_tbl[jP j]? = some (.code (jY j) (jB j) (jMl j) (jRt j)) := List.forall_mem_cons.mpr ⟨k_code_68, List.forall_mem_cons.mpr ⟨k_code_69, List.forall_mem_cons.mpr ⟨k_code_70, List.forall_mem_cons.mpr ⟨k_code_71, List.forall_mem_cons.mpr ⟨k_code_72, List.forall_mem_cons.mpr ⟨k_code_73, List.forall_mem_cons.mpr ⟨k_code_74, List.forall_mem_cons.mpr ⟨k_code_75, List.forall_mem_cons.mpr ⟨k_code_76, List.forall_mem_cons.mpr ⟨k_code_77, List.forall_mem_cons.mpr ⟨k_code_78, List.forall_mem_cons.mpr ⟨k_code_79, List.forall_mem_cons.mpr ⟨k_code_80, List.forall_mem_cons.mpr ⟨k_code_81, List.forall_mem_cons.mpr ⟨k_code_82, List.forall_mem_cons.mpr ⟨k_code_83, List.forall_mem_cons.mpr ⟨k_code_84, fun _ h => absurd h List.not_mem_nil⟩⟩⟩⟩⟩⟩⟩⟩⟩⟩⟩⟩⟩⟩⟩⟩⟩
theorem k_codes_5 : ∀ j ∈ ([85, 86, 87, 88, 89, 90, 91, 92, 93, 94, 95, 96, 97, 98, 99, 100, 101] : List Nat), lw_tbl[jP j]? = some (.code (jY j) (jB j) (jMl j) (jRt j)) := List.forall_mem_cons.mpr ⟨k_code_85, List.forall_mem_cons.mpr ⟨k_code_86, List.forall_mem_cons.mpr ⟨k_code_87, List.forall_mem_cons.mpr ⟨k_code_88, List.forall_mem_cons.mpr ⟨k_code_89, List.forall_mem_cons.mpr ⟨k_code_90, List.forall_mem_cons.mpr ⟨k_code_91, List.forall_mem_cons.mpr ⟨k_code_92, List.forall_mem_cons.mpr ⟨k_code_93, List.forall_mem_cons.mpr ⟨k_code_94, List.forall_mem_cons.mpr ⟨k_code_95, List.forall_mem_cons.mpr ⟨k_code_96, List.forall_mem_cons.mpr ⟨k_code_97, List.forall_mem_cons.mpr ⟨k_code_98, List.forall_mem_cons.mpr ⟨k_code_99, List.forall_mem_cons.mpr ⟨k_code_100, List.forall_mem_cons.mpr ⟨k_code_101, fun _ h => absurd h List.not_mem_nil⟩⟩⟩⟩⟩⟩⟩⟩⟩⟩⟩⟩⟩⟩⟩⟩⟩
theorem k_codes_6 : ∀ j ∈ ([102, 103, 104, 105, 106, 107, 108, 109, 110, 111, 112, 113, 114, 115, 116, 117, 118] : List Nat), lw_tbl[jP j]? = some (.code (jY j) (jB j) (jMl j) (jRt j)) := List.forall_mem_cons.mpr ⟨k_code_102, List.forall_mem_cons.mpr ⟨k_code_103, List.forall_mem_cons.mpr ⟨k_code_104, List.forall_mem_cons.mpr ⟨k_code_105, List.forall_mem_cons.mpr ⟨k_code_106, List.forall_mem_cons.mpr ⟨k_code_107, List.forall_mem_cons.mpr ⟨k_code_108, List.forall_mem_cons.mpr ⟨k_code_109, List.forall_mem_cons.mpr ⟨k_code_110, List.forall_mem_cons.mpr ⟨k_code_111, List.forall_mem_cons.mpr ⟨k_code_112, List.forall_mem_cons.mpr ⟨k_code_113, List.forall_mem_cons.mpr ⟨k_code_114, List.forall_mem_cons.mpr ⟨k_code_115, List.forall_mem_cons.mpr ⟨k_code_116, List.forall_mem_cons.mpr ⟨k_code_117, List.forall_mem_cons.mpr ⟨k_code_118, fun _ h => absurd h List.not_mem_nil⟩⟩⟩⟩⟩⟩⟩⟩⟩⟩⟩⟩⟩⟩⟩⟩⟩
theorem k_codes_7 : ∀ j ∈ ([119, 120, 121, 122, 123, 124, 125, 126, 127, 128, 129, 130, 131, 132, 133, 134, 135] : List Nat), lw_tbl[jP j]? = some (.code (jY j) (jB j) (jMl j) (jRt j)) := List.forall_mem_cons.mpr ⟨k_code_119, List.forall_mem_cons.mpr ⟨k_code_120, List.forall_mem_cons.mpr ⟨k_code_121, List.forall_mem_cons.mpr ⟨k_code_122, List.forall_mem_cons.mpr ⟨k_code_123, List.forall_mem_cons.mpr ⟨k_code_124, List.forall_mem_cons.mpr ⟨k_code_125, List.forall_mem_cons.mpr ⟨k_code_126, List.forall_mem_cons.mpr ⟨k_code_127, List.forall_mem_cons.mpr ⟨k_code_128, List.forall_mem_cons.mpr ⟨k_code_129, List.forall_mem_cons.mpr ⟨k_code_130, List.forall_mem_cons.mpr ⟨k_code_131, List.forall_mem_cons.mpr ⟨k_code_132, List.forall_mem_cons.mpr ⟨k_code_133, List.forall_mem_cons.mpr ⟨k_code_134, List.forall_mem_cons.mpr ⟨k_code_135, fun _ h => absurd h List.not_mem_nil⟩⟩⟩⟩⟩⟩⟩⟩⟩⟩⟩⟩⟩⟩⟩⟩⟩
theorem k_codes_8 : ∀ j ∈ ([136, 137, 138, 139, 140, 141, 142, 143, 144, 145, 146, 147, 148, 149, 150, 151, 152] : List Nat), lw_tbl[jP j]? = some (.code (jY j) (jB j) (jMl j) (jRt j)) := List.forall_mem_cons.mpr ⟨k_code_136, List.forall_mem_cons.mpr ⟨k_code_137, List.forall_mem_cons.mpr ⟨k_code_138, List.forall_mem_cons.mpr ⟨k_code_139, List.forall_mem_cons.mpr ⟨k_code_140, List.forall_mem_cons.mpr ⟨k_code_141, List.forall_mem_cons.mpr ⟨k_code_142, List.forall_mem_cons.mpr ⟨k_code_143, List.forall_mem_cons.mpr ⟨k_code_144, List.forall_mem_cons.mpr ⟨k_code_145, List.forall_mem_cons.mpr ⟨k_code_146, List.forall_mem_cons.mpr ⟨k_code_147, List.forall_mem_cons.mpr ⟨k_code_148, List.forall_mem_cons.mpr ⟨k_code_149, List.forall_mem_cons.mpr ⟨k_code_150, List.forall_mem_cons.mpr ⟨k_code_151, List.forall_mem_cons.mpr ⟨k_code_152, fun _ h => absurd h List.not_mem_nil⟩⟩⟩⟩⟩⟩⟩⟩⟩⟩⟩⟩⟩⟩⟩⟩⟩
theorem k_codes_9 : ∀ j ∈ ([153, 154, 155, 156, 157, 158, 159, 160, 161, 162, 163, 164, 165, 166, 167, 168, 169] : List Nat), lw_tbl[jP j]? = some (.code (jY j) (jB j) (jMl j) (jRt j)) := List.forall_mem_cons.mpr ⟨k_code_153, List.forall_mem_cons.mpr ⟨k_code_154, List.forall_mem_cons.mpr ⟨k_code_155, List.forall_mem_cons.mpr ⟨k_code_156, List.forall_mem_cons.mpr ⟨k_code_157, List.forall_mem_cons.mpr ⟨k_code_158, List.forall_mem_cons.mpr ⟨k_code_159, List.forall_mem_cons.mpr ⟨k_code_160, List.forall_mem_cons.mpr ⟨k_code_161, List.forall_mem_cons.mpr ⟨k_code_162, List.forall_mem_cons.mpr ⟨k_code_163, List.forall_mem_cons.mpr ⟨k_code_164, List.forall_mem_cons.mpr ⟨k_code_165, List.forall_mem_cons.mpr ⟨k_code_166, List.forall_mem_cons.mpr ⟨k_code_167, List.forall_mem_cons.mpr ⟨k_code_168, List.forall_mem_cons.mpr ⟨k_code_169, fun _ h => absurd h List.not_mem_nil⟩⟩⟩⟩⟩⟩⟩⟩⟩⟩⟩⟩⟩⟩⟩⟩⟩
theorem k_codes_10 : ∀ j ∈ ([170, 171, 172, 173, 174, 175, 176, 177, 178, 179, 180, 181, 182, 183, 184, 185, 186] : List Nat), lw_tbl[jP j]? = some (.code (jY j) (jB j) (jMl j) (jRt j)) := List.forall_mem_cons.mpr ⟨k_code_170, List.forall_mem_cons.mpr ⟨k_code_171, List.forall_mem_cons.mpr ⟨k_code_172, List.forall_mem_cons.mpr ⟨k_code_173, List.forall_mem_cons.mpr ⟨k_code_174, List.forall_mem_cons.mpr ⟨k_code_175, List.forall_mem_cons.mpr ⟨k_code_176, List.forall_mem_cons.mpr ⟨k_code_177, List.forall_mem_cons.mpr ⟨k_code_178, List.forall_mem_cons.mpr ⟨k_code_179, List.forall_mem_cons.mpr ⟨k_code_180, List.forall_mem_cons.mpr ⟨k_code_181, List.forall_mem_cons.mpr ⟨k_code_182, List.forall_mem_cons.mpr ⟨k_code_183, List.forall_mem_cons.mpr ⟨k_code_184, List.forall_mem_cons.mpr ⟨k_code_185, List.forall_mem_cons.mpr ⟨k_code_186, fun _ h => absurd h List.not_mem_nil⟩⟩⟩⟩⟩⟩⟩⟩⟩⟩⟩⟩⟩⟩⟩⟩⟩
theorem k_codes_11 : ∀ j ∈ ([187, 188, 189, 190, 191, 192, 193, 194, 195, 196, 197, 198, 199, 200, 201, 202, 203] : List Nat), lw_tbl[jP j]? = some (.code (jY j) (jB j) (jMl j) (jRt j)) := List.forall_mem_cons.mpr ⟨k_code_187, List.forall_mem_cons.mpr ⟨k_code_188, List.forall_mem_cons.mpr ⟨k_code_189, List.forall_mem_cons.mpr ⟨k_code_190, List.forall_mem_cons.mpr ⟨k_code_191, List.forall_mem_cons.mpr ⟨k_code_192, List.forall_mem_cons.mpr ⟨k_code_193, List.forall_mem_cons.mpr ⟨k_code_194, List.forall_mem_cons.mpr ⟨k_code_195, List.forall_mem_cons.mpr ⟨k_code_196, List.forall_mem_cons.mpr ⟨k_code_197, List.forall_mem_cons.mpr ⟨k_code_198, List.forall_mem_cons.mpr ⟨k_code_199, List.forall_mem_cons.mpr ⟨k_code_200, List.forall_mem_cons.mpr ⟨k_code_201, List.forall_mem_cons.mpr ⟨k_code_202, List.forall_mem_cons.mpr ⟨k_code_203, fun _ h => absurd h List.not_mem_nil⟩⟩⟩⟩⟩⟩⟩⟩⟩⟩⟩⟩⟩⟩⟩⟩⟩
theorem k_codes_12 : ∀ j ∈ ([204, 205, 206, 207, 208, 209, 210, 211, 212, 213, 214, 215, 216, 217, 218, 219, 220] : List Nat), lw_tbl[jP j]? = some (.code (jY j) (jB j) (jMl j) (jRt j)) := List.forall_mem_cons.mpr ⟨k_code_204, List.forall_mem_cons.mpr ⟨k_code_205, List.forall_mem_cons.mpr ⟨k_code_206, List.forall_mem_cons.mpr ⟨k_code_207, List.forall_mem_cons.mpr ⟨k_code_208, List.forall_mem_cons.mpr ⟨k_code_209, List.forall_mem_cons.mpr ⟨k_code_210, List.forall_mem_cons.mpr ⟨k_code_211, List.forall_mem_cons.mpr ⟨k_code_212, List.forall_mem_cons.mpr ⟨k_code_213, List.forall_mem_cons.mpr ⟨k_code_214, List.forall_mem_cons.mpr ⟨k_code_215, List.forall_mem_cons.mpr ⟨k_code_216, List.forall_mem_cons.mpr ⟨k_code_217, List.forall_mem_cons.mpr ⟨k_code_218, List.forall_mem_cons.mpr ⟨k_code_219, List.forall_mem_cons.mpr ⟨k_code_220, fun _ h => absurd h List.not_mem_nil⟩⟩⟩⟩⟩⟩⟩⟩⟩⟩⟩⟩⟩⟩⟩⟩⟩
theorem k_codes_13 : ∀ j ∈ ([221, 222, 223, 224, 225, 226, 227, 228, 229, 230, 231, 232, 233, 234, 235, 236, 237] : List Nat), lw_tbl[jP j]? = some (.code (jY j) (jB j) (jMl j) (jRt j)) := List.forall_mem_cons.mpr ⟨k_code_221, List.forall_mem_cons.mpr ⟨k_code_222, List.forall_mem_cons.mpr ⟨k_code_223, List.forall_mem_cons.mpr ⟨k_code_224, List.forall_mem_cons.mpr ⟨k_code_225, List.forall_mem_cons.mpr ⟨k_code_226, List.forall_mem_cons.mpr ⟨k_code_227, List.forall_mem_cons.mpr ⟨k_code_228, List.forall_mem_cons.mpr ⟨k_code_229, List.forall_mem_cons.mpr ⟨k_code_230, List.forall_mem_cons.mpr ⟨k_code_231, List.forall_mem_cons.mpr ⟨k_code_232, List.forall_mem_cons.mpr ⟨k_code_233, List.forall_mem_cons.mpr ⟨k_code_234, List.forall_mem_cons.mpr ⟨k_code_235, List.forall_mem_cons.mpr ⟨k_code_236, List.forall_mem_cons.mpr ⟨k_code_237, fun _ h => absurd h List.not_mem_nil⟩⟩⟩⟩⟩⟩⟩⟩⟩⟩⟩⟩⟩⟩⟩⟩⟩
theorem k_codes_14 : ∀ j ∈ ([238, 239, 240, 241, 242, 243, 244, 245, 246, 247, 248, 249, 250, 251, 252, 253, 254] : List Nat), lw_tbl[jP j]? = some (.code (jY j) (jB j) (jMl j) (jRt j)) := List.forall_mem_cons.mpr ⟨k_code_238, List.forall_mem_cons.mpr ⟨k_code_239, List.forall_mem_cons.mpr ⟨k_code_240, List.forall_mem_cons.mpr ⟨k_code_241, List.forall_mem_cons.mpr ⟨k_code_242, List.forall_mem_cons.mpr ⟨k_code_243, List.forall_mem_cons.mpr ⟨k_code_244, List.forall_mem_cons.mpr ⟨k_code_245, List.forall_mem_cons.mpr ⟨k_code_246, List.forall_mem_cons.mpr ⟨k_code_247, List.forall_mem_cons.mpr ⟨k_code_248, List.forall_mem_cons.mpr ⟨k_code_249, List.forall_mem_cons.mpr ⟨k_code_250, List.forall_mem_cons.mpr ⟨k_code_251, List.forall_mem_cons.mpr ⟨k_code_252, List.forall_mem_cons.mpr ⟨k_code_253, List.forall_mem_cons.mpr ⟨k_code_254, fun _ h => absurd h List.not_mem_nil⟩⟩⟩⟩⟩⟩⟩⟩⟩⟩⟩⟩⟩⟩⟩⟩⟩
theorem k_codes_15 : ∀ j ∈ ([255, 256, 257, 258, 259, 260, 261, 262, 263, 264, 265, 266, 267, 268, 269, 270, 271] : List Nat), lw_tbl[jP j]? = some (.code (jY j) (jB j) (jMl j) (jRt j)) := List.forall_mem_cons.mpr ⟨k_code_255, List.forall_mem_cons.mpr ⟨k_code_256, List.forall_mem_cons.mpr ⟨k_code_257, List.forall_mem_cons.mpr ⟨k_code_258, List.forall_mem_cons.mpr ⟨k_code_259, List.forall_mem_cons.mpr ⟨k_code_260, List.forall_mem_cons.mpr ⟨k_code_261, List.forall_mem_cons.mpr ⟨k_code_262, List.forall_mem_cons.mpr ⟨k_code_263, List.forall_mem_cons.mpr ⟨k_code_264, List.forall_mem_cons.mpr ⟨k_code_265, List.forall_mem_cons.mpr ⟨k_code_266, List.forall_mem_cons.mpr ⟨k_code_267, List.forall_mem_cons.mpr ⟨k_code_268, List.forall_mem_cons.mpr ⟨k_code_269, List.forall_mem_cons.mpr ⟨k_code_270, List.forall_mem_cons.mpr ⟨k_code_271, fun _ h => absurd h List.not_mem_nil⟩⟩⟩⟩⟩⟩⟩⟩⟩⟩⟩⟩⟩⟩⟩⟩⟩
theorem k_codes_16 : ∀ j ∈ ([272, 273, 274, 275, 276, 277, 278, 279, 280, 281, 282, 283, 284, 285, 286, 287, 288] : List Nat), lw_tbl[jP j]? = some (.code (jY j) (jB j) (jMl j) (jRt j)) := List.forall_mem_cons.mpr ⟨k_code_272, List.forall_mem_cons.mpr ⟨k_code_273, List.forall_mem_cons.mpr ⟨k_code_274, List.forall_mem_cons.mpr ⟨k_code_275, List.forall_mem_cons.mpr ⟨k_code_276, List.forall_mem_cons.mpr ⟨k_code_277, List.forall_mem_cons.mpr ⟨k_code_278, List.forall_mem_cons.mpr ⟨k_code_279, List.forall_mem_cons.mpr ⟨k_code_280, List.forall_mem_cons.mpr ⟨k_code_281, List.forall_mem_cons.mpr ⟨k_code_282, List.forall_mem_cons.mpr ⟨k_code_283, List.forall_mem_cons.mpr ⟨k_code_284, List.forall_mem_cons.mpr ⟨k_code_285, List.forall_mem_cons.mpr ⟨k_code_286, List.forall_mem_cons.mpr ⟨k_code_287, List.forall_mem_cons.mpr ⟨k_code_288, fun _ h => absurd h List.not_mem_nil⟩⟩⟩⟩⟩⟩⟩⟩⟩⟩⟩⟩⟩⟩⟩⟩⟩
theorem k_np_0 : ∀ j ∈ ([0, 1, 2, 3, 4, 5, 6, 7, 8, 9, 10, 11, 12, 13, 14, 15, 16, 17, 18, 19, 20, 21, 22, 23, 24, 25, 26, 27, 28, 29, 30, 31, 32, 33, 34, 35, 36, 37, 38, 39] : List Nat), (parseMethodDescriptor (jY j).desc).map (fun d => d.parameters.length) = some (jNp j) := by decide +kernel
theorem k_jm_0 : ∀ j ∈ ([0, 1, 2, 3, 4, 5, 6, 7, 8, 9, 10, 11, 12, 13, 14, 15, 16, 17, 18, 19, 20, 21, 22, 23, 24, 25, 26, 27, 28, 29, 30, 31, 32, 33, 34, 35, 36, 37, 38, 39] : List Nat), (jY j).cls = jRN (jO j) ∧ jO j < 13 ∧ plainName (jY j).cls = true ∧ jMl j ≤ 45 ∧ (jY j).cls ≠ "java/lang/invoke/MethodHandle" ∧ (jY j).cls ≠ "java/lang/invoke/VarHandle" := by decide +kernel
theorem k_np_1 : ∀ j ∈ ([40, 41, 42, 43, 44, 45, 46, 47, 48, 49, 50, 51, 52, 53, 54, 55, 56, 57, 58, 59, 60, 61, 62, 63, 64, 65, 66, 67, 68, 69, 70, 71, 72, 73, 74, 75, 76, 77, 78, 79] : List Nat), (parseMethodDescriptor (jY j).desc).map (fun d => d.parameters.length) = some (jNp j) := by decide +kernel
theorem k_jm_1 : ∀ j ∈ ([40, 41, 42, 43, 44, 45, 46, 47, 48, 49, 50, 51, 52, 53, 54, 55, 56, 57, 58, 59, 60, 61, 62, 63, 64, 65, 66, 67, 68, 69, 70, 71, 72, 73, 74, 75, 76, 77, 78, 79] : List Nat), (jY j).cls = jRN (jO j) ∧ jO j < 13 ∧ plainName (jY j).cls = true ∧ jMl j ≤ 45 ∧ (jY j).cls ≠ "java/lang/invoke/MethodHandle" ∧ (jY j).cls ≠ "java/lang/invoke/VarHandle" := by decide +kernel
theorem k_np_2 : ∀ j ∈ ([80, 81, 82, 83, 84, 85, 86, 87, 88, 89, 90, 91, 92, 93, 94, 95, 96, 97, 98, 99, 100, 101, 102, 103, 104, 105, 106, 107, 108, 109, 110, 111, 112, 113, 114, 115, 116, 117, 118, 119] : List Nat), (parseMethodDescriptor (jY j).desc).map (fun d => d.parameters.length) = some (jNp j) := by decide +kernel
theorem k_jm_2 : ∀ j ∈ ([80, 81, 82, 83, 84, 85, 86, 87, 88, 89, 90, 91, 92, 93, 94, 95, 96, 97, 98, 99, 100, 101, 102, 103, 104, 105, 106, 107, 108, 109, 110, 111, 112, 113, 114, 115, 116, 117, 118, 119] : List Nat), (jY j).cls = jRN (jO j) ∧ jO j < 13 ∧ plainName (jY j).cls = true ∧ jMl j ≤ 45 ∧ (jY j).cls ≠ "java/lang/invoke/MethodHandle" ∧ (jY j).cls ≠ "java/lang/invoke/VarHandle" := by decide +kernel
theorem k_np_3 : ∀ j ∈ ([120, 121, 122, 123, 124, 125, 126, 127, 128, 129, 130, 131, 132, 133, 134, 135, 136, 137, 138, 139, 140, 141, 142, 143, 144, 145, 146, 147, 148, 149, 150, 151, 152, 153, 154, 155, 156, 157, 158, 159] : List Nat), (parseMethodDescriptor (jY j).desc).map (fun d => d.parameters.length) = some (jNp j) := by decide +kernel
theorem k_jm_3 : ∀ j ∈ ([120, 121, 122, 123, 124, 125, 126, 127, 128, 129, 130, 131, 132, 133, 134, 135, 136, 137, 138, 139, 140, 141, 142, 143, 144, 145, 146, 147, 148, 149, 150, 151, 152, 153, 154, 155, 156, 157, 158, 159] : List Nat), (jY j).cls = jRN (jO j) ∧ jO j < 13 ∧ plainName (jY j).cls = true ∧ jMl j ≤ 45 ∧ (jY j).cls ≠ "java/lang/invoke/MethodHandle" ∧ (jY j).cls ≠ "java/lang/invoke/VarHandle" := by decide +kernel
theorem k_np_4 : ∀ j ∈ ([160, 161, 162, 163, 164, 165, 166, 167, 168, 169, 170, 171, 172, 173, 174, 175, 176, 177, 178, 179, 180, 181, 182, 183, 184, 185, 186, 187, 188, 189, 190, 191, 192, 193, 194, 195, 196, 197, 198, 199] : List Nat), (parseMethodDescriptor (jY j).desc).map (fun d => d.parameters.length) = some (jNp j) := by decide +kernel
theorem k_jm_4 : ∀ j ∈ ([160, 161, 162, 163, 164, 165, 166, 167, 168, 169, 170, 171, 172, 173, 174, 175, 176, 177, 178, 179, 180, 181, 182, 183, 184, 185, 186, 187, 188, 189, 190, 191, 192, 193, 194, 195, 196, 197, 198, 199] : List Nat), (jY j).cls = jRN (jO j) ∧ jO j < 13 ∧ plainName (jY j).cls = true ∧ jMl j ≤ 45 ∧ (jY j).cls ≠ "java/lang/invoke/MethodHandle" ∧ (jY j).cls ≠ "java/lang/invoke/VarHandle" := by decide +kernel
theorem k_np_5 : ∀ j ∈ ([200, 201, 202, 203, 204, 205, 206, 207, 208, 209, 210, 211, 212, 213, 214, 215, 216, 217, 218, 219, 220, 221, 222, 223, 224, 225, 226, 227, 228, 229, 230, 231, 232, 233, 234, 235, 236, 237, 238, 239] : List Nat), (parseMethodDescriptor (jY j).desc).map (fun d => d.parameters.length) = some (jNp j) := by decide +kernel
theorem k_jm_5 : ∀ j ∈ ([200, 201, 202, 203, 204, 205, 206, 207, 208, 209, 210, 211, 212, 213, 214, 215, 216, 217, 218, 219, 220, 221, 222, 223, 224, 225, 226, 227, 228, 229, 230, 231, 232, 233, 234, 235, 236, 237, 238, 239] : List Nat), (jY j).cls = jRN (jO j) ∧ jO j < 13 ∧ plainName (jY j).cls = true ∧ jMl j ≤ 45 ∧ (jY j).cls ≠ "java/lang/invoke/MethodHandle" ∧ (jY j).cls ≠ "java/lang/invoke/VarHandle" := by decide +kernel
theorem k_np_6 : ∀ j ∈ ([240, 241, 242, 243, 244, 245, 246, 247, 248, 249, 250, 251, 252, 253, 254, 255, 256, 257, 258, 259, 260, 261, 262, 263, 264, 265, 266, 267, 268, 269, 270, 271, 272, 273, 274, 275, 276, 277, 278, 279] : List Nat), (parseMethodDescriptor (jY j).desc).map (fun d => d.parameters.length) = some (jNp j) := by decide +kernel
theorem k_jm_6 : ∀ j ∈ ([240, 241, 242, 243, 244, 245, 246, 247, 248, 249, 250, 251, 252, 253, 254, 255, 256, 257, 258, 259, 260, 261, 262, 263, 264, 265, 266, 267, 268, 269, 270, 271, 272, 273, 274, 275, 276, 277, 278, 279] : List Nat), (jY j).cls = jRN (jO j) ∧ jO j < 13 ∧ plainName (jY j).cls = true ∧ jMl j ≤ 45 ∧ (jY j).cls ≠ "java/lang/invoke/MethodHandle" ∧ (jY j).cls ≠ "java/lang/invoke/VarHandle" := by decide +kernel
theorem k_np_7 : ∀ j ∈ ([280, 281, 282, 283, 284, 285, 286, 287, 288] : List Nat), (parseMethodDescriptor (jY j).desc).map (fun d => d.parameters.length) = some (jNp j) := by decide +kernel
theorem k_jm_7 : ∀ j ∈ ([280, 281, 282, 283, 284, 285, 286, 287, 288] : List Nat), (jY j).cls = jRN (jO j) ∧ jO j < 13 ∧ plainName (jY j).cls = true ∧ jMl j ≤ 45 ∧ (jY j).cls ≠ "java/lang/invoke/MethodHandle" ∧ (jY j).cls ≠ "java/lang/invoke/VarHandle" := by decide +kernel
