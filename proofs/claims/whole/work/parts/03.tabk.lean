set_option maxRecDepth 100000 in
theorem k_code_0 : lw_tbl[342]? = some (.code yX0_init cX0_init 1 none) := rfl
set_option maxRecDepth 100000 in
theorem k_code_1 : lw_tbl[1114]? = some (.code yX0_lay cX0_lay 9 none) := rfl
set_option maxRecDepth 100000 in
theorem k_code_2 : lw_tbl[1129]? = some (.code yX0_offerPieces cX0_offerPieces 8 none) := rfl
set_option maxRecDepth 100000 in
theorem k_code_3 : lw_tbl[1141]? = some (.code yX0_offer cX0_offer 5 none) := rfl
set_option maxRecDepth 100000 in
theorem k_code_4 : lw_tbl[1145]? = some (.code yX0_coins cX0_coins 1 (some .int)) := rfl
set_option maxRecDepth 100000 in
theorem k_code_5 : lw_tbl[1250]? = some (.code yX0_pieces cX0_pieces 3 (some .int)) := rfl
set_option maxRecDepth 100000 in
theorem k_code_6 : lw_tbl[1254]? = some (.code yX0_firstRowOfPiece cX0_firstRowOfPiece 4 (some .int)) := rfl
set_option maxRecDepth 100000 in
theorem k_code_7 : lw_tbl[1153]? = some (.code yX0_wantOfRow cX0_wantOfRow 3 (some .int)) := rfl
set_option maxRecDepth 100000 in
theorem k_code_8 : lw_tbl[1258]? = some (.code yX0_rowsOfPieceAt cX0_rowsOfPieceAt 2 (some .int)) := rfl
set_option maxRecDepth 100000 in
theorem k_code_9 : lw_tbl[1262]? = some (.code yX0_coinsOfPieceAt cX0_coinsOfPieceAt 3 (some .int)) := rfl
set_option maxRecDepth 100000 in
theorem k_code_10 : lw_tbl[225]? = some (.code yX1_init cX1_init 1 none) := rfl
set_option maxRecDepth 100000 in
theorem k_code_11 : lw_tbl[820]? = some (.code yX1_tell cX1_tell 4 none) := rfl
set_option maxRecDepth 100000 in
theorem k_code_12 : lw_tbl[837]? = some (.code yX1_first cX1_first 9 (some .long)) := rfl
set_option maxRecDepth 100000 in
theorem k_code_13 : lw_tbl[861]? = some (.code yX1_reckon cX1_reckon 10 (some .long)) := rfl
set_option maxRecDepth 100000 in
theorem k_code_14 : lw_tbl[876]? = some (.code yX1_reckonSum cX1_reckonSum 5 (some .long)) := rfl
set_option maxRecDepth 100000 in
theorem k_code_15 : lw_tbl[879]? = some (.code yX1_decide cX1_decide 5 (some .boolean)) := rfl
set_option maxRecDepth 100000 in
theorem k_code_16 : lw_tbl[869]? = some (.code yX1_push cX1_push 3 none) := rfl
set_option maxRecDepth 100000 in
theorem k_code_17 : lw_tbl[873]? = some (.code yX1_pop cX1_pop 1 (some .long)) := rfl
set_option maxRecDepth 100000 in
theorem k_code_18 : lw_tbl[397]? = some (.code yX2_init cX2_init 1 none) := rfl
set_option maxRecDepth 100000 in
theorem k_code_19 : lw_tbl[1305]? = some (.code yX2_take cX2_take 5 none) := rfl
set_option maxRecDepth 100000 in
theorem k_code_20 : lw_tbl[1321]? = some (.code yX2_giveBack cX2_giveBack 4 none) := rfl
set_option maxRecDepth 100000 in
theorem k_code_21 : lw_tbl[1317]? = some (.code yX2_isMade cX2_isMade 1 (some .boolean)) := rfl
set_option maxRecDepth 100000 in
theorem k_code_22 : lw_tbl[1325]? = some (.code yX2_thinThen cX2_thinThen 1 (some .int)) := rfl
set_option maxRecDepth 100000 in
theorem k_code_23 : lw_tbl[1309]? = some (.code yX2_copyStuffs cX2_copyStuffs 3 none) := rfl
set_option maxRecDepth 100000 in
theorem k_code_24 : lw_tbl[146]? = some (.code yX3_init cX3_init 1 none) := rfl
set_option maxRecDepth 100000 in
theorem k_code_25 : lw_tbl[538]? = some (.code yX3_clear cX3_clear 1 none) := rfl
set_option maxRecDepth 100000 in
theorem k_code_26 : lw_tbl[719]? = some (.code yX3_becomeLike cX3_becomeLike 2 none) := rfl
set_option maxRecDepth 100000 in
theorem k_code_27 : lw_tbl[667]? = some (.code yX3_write cX3_write 2 none) := rfl
set_option maxRecDepth 100000 in
theorem k_code_28 : lw_tbl[709]? = some (.code yX3_addRule cX3_addRule 4 none) := rfl
set_option maxRecDepth 100000 in
theorem k_code_29 : lw_tbl[638]? = some (.code yX3_setNumber cX3_setNumber 3 none) := rfl
set_option maxRecDepth 100000 in
theorem k_code_30 : lw_tbl[623]? = some (.code yX3_hasNumber cX3_hasNumber 2 (some .boolean)) := rfl
set_option maxRecDepth 100000 in
theorem k_code_31 : lw_tbl[642]? = some (.code yX3_size cX3_size 1 (some .int)) := rfl
set_option maxRecDepth 100000 in
theorem k_code_32 : lw_tbl[841]? = some (.code yX3_rules cX3_rules 1 (some .int)) := rfl
set_option maxRecDepth 100000 in
theorem k_code_33 : lw_tbl[903]? = some (.code yX3_swirl cX3_swirl 1 (some .int)) := rfl
set_option maxRecDepth 100000 in
theorem k_code_34 : lw_tbl[815]? = some (.code yX3_late cX3_late 1 (some .int)) := rfl
set_option maxRecDepth 100000 in
theorem k_code_35 : lw_tbl[914]? = some (.code yX3_given cX3_given 2 (some .int)) := rfl
set_option maxRecDepth 100000 in
theorem k_code_36 : lw_tbl[865]? = some (.code yX3_codeAt cX3_codeAt 2 (some .int)) := rfl
set_option maxRecDepth 100000 in
theorem k_code_37 : lw_tbl[857]? = some (.code yX3_kindOf cX3_kindOf 2 (some .int)) := rfl
set_option maxRecDepth 100000 in
theorem k_code_38 : lw_tbl[845]? = some (.code yX3_sumOf cX3_sumOf 2 (some .int)) := rfl
set_option maxRecDepth 100000 in
theorem k_code_39 : lw_tbl[849]? = some (.code yX3_testOf cX3_testOf 2 (some .int)) := rfl
set_option maxRecDepth 100000 in
theorem k_code_40 : lw_tbl[853]? = some (.code yX3_endOf cX3_endOf 2 (some .int)) := rfl
set_option maxRecDepth 100000 in
theorem k_code_41 : lw_tbl[206]? = some (.code yX4_init cX4_init 3 none) := rfl
set_option maxRecDepth 100000 in
theorem k_code_42 : lw_tbl[970]? = some (.code yX4_size cX4_size 1 (some .int)) := rfl
set_option maxRecDepth 100000 in
theorem k_code_43 : lw_tbl[534]? = some (.code yX4_isFull cX4_isFull 1 (some .boolean)) := rfl
set_option maxRecDepth 100000 in
theorem k_code_44 : lw_tbl[714]? = some (.code yX4_add cX4_add 2 (some .int)) := rfl
set_option maxRecDepth 100000 in
theorem k_code_45 : lw_tbl[749]? = some (.code yX4_find cX4_find 2 (some (.object "PulledCrystal$Law"))) := rfl
set_option maxRecDepth 100000 in
theorem k_code_46 : lw_tbl[242]? = some (.code yX5_init cX5_init 1 none) := rfl
set_option maxRecDepth 100000 in
theorem k_code_47 : lw_tbl[754]? = some (.code yX5_start cX5_start 1 (some (.object "PulledCrystal$Start"))) := rfl
set_option maxRecDepth 100000 in
theorem k_code_48 : lw_tbl[766]? = some (.code yX5_open cX5_open 5 none) := rfl
set_option maxRecDepth 100000 in
theorem k_code_49 : lw_tbl[1191]? = some (.code yX5_becomeLike cX5_becomeLike 3 none) := rfl
set_option maxRecDepth 100000 in
theorem k_code_50 : lw_tbl[795]? = some (.code yX5_follow cX5_follow 2 none) := rfl
set_option maxRecDepth 100000 in
theorem k_code_51 : lw_tbl[1293]? = some (.code yX5_besideWant cX5_besideWant 1 (some .int)) := rfl
set_option maxRecDepth 100000 in
theorem k_code_52 : lw_tbl[1203]? = some (.code yX5_shiftWide cX5_shiftWide 2 none) := rfl
set_option maxRecDepth 100000 in
theorem k_code_53 : lw_tbl[803]? = some (.code yX5_goOn cX5_goOn 4 (some .int)) := rfl
set_option maxRecDepth 100000 in
theorem k_code_54 : lw_tbl[807]? = some (.code yX5_passMinute cX5_passMinute 8 none) := rfl
set_option maxRecDepth 100000 in
theorem k_code_55 : lw_tbl[811]? = some (.code yX5_tellWords cX5_tellWords 3 none) := rfl
set_option maxRecDepth 100000 in
theorem k_code_56 : lw_tbl[824]? = some (.code yX5_wideSeen cX5_wideSeen 2 (some .int)) := rfl
set_option maxRecDepth 100000 in
theorem k_code_57 : lw_tbl[896]? = some (.code yX5_swirled cX5_swirled 2 (some .long)) := rfl
set_option maxRecDepth 100000 in
theorem k_code_58 : lw_tbl[908]? = some (.code yX5_addRow cX5_addRow 5 none) := rfl
set_option maxRecDepth 100000 in
theorem k_code_59 : lw_tbl[926]? = some (.code yX5_howBehindMinute cX5_howBehindMinute 1 (some .int)) := rfl
set_option maxRecDepth 100000 in
theorem k_code_60 : lw_tbl[1055]? = some (.code yX5_meltBack cX5_meltBack 5 (some .int)) := rfl
set_option maxRecDepth 100000 in
theorem k_code_61 : lw_tbl[1065]? = some (.code yX5_tellFault cX5_tellFault 2 (some .boolean)) := rfl
set_option maxRecDepth 100000 in
theorem k_code_62 : lw_tbl[1019]? = some (.code yX5_firstFaulted cX5_firstFaulted 2 (some .int)) := rfl
set_option maxRecDepth 100000 in
theorem k_code_63 : lw_tbl[1011]? = some (.code yX5_firstClean cX5_firstClean 4 (some .int)) := rfl
set_option maxRecDepth 100000 in
theorem k_code_64 : lw_tbl[1077]? = some (.code yX5_faultsLeft cX5_faultsLeft 4 (some .int)) := rfl
set_option maxRecDepth 100000 in
theorem k_code_65 : lw_tbl[1086]? = some (.code yX5_tearsAt cX5_tearsAt 6 (some .int)) := rfl
set_option maxRecDepth 100000 in
theorem k_code_66 : lw_tbl[1090]? = some (.code yX5_thinnestOfNeck cX5_thinnestOfNeck 4 (some .int)) := rfl
set_option maxRecDepth 100000 in
theorem k_code_67 : lw_tbl[999]? = some (.code yX5_kindOf cX5_kindOf 4 (some .int)) := rfl
set_option maxRecDepth 100000 in
theorem k_code_68 : lw_tbl[1004]? = some (.code yX5_isBody cX5_isBody 3 (some .boolean)) := rfl
set_option maxRecDepth 100000 in
theorem k_code_69 : lw_tbl[1175]? = some (.code yX5_wanderOver cX5_wanderOver 5 (some .int)) := rfl
set_option maxRecDepth 100000 in
theorem k_code_70 : lw_tbl[1179]? = some (.code yX5_huntsOver cX5_huntsOver 7 (some .int)) := rfl
set_option maxRecDepth 100000 in
theorem k_code_71 : lw_tbl[1164]? = some (.code yX5_replay cX5_replay 14 none) := rfl
set_option maxRecDepth 100000 in
theorem k_code_72 : lw_tbl[828]? = some (.code yX5_hasRow cX5_hasRow 2 (some .boolean)) := rfl
set_option maxRecDepth 100000 in
theorem k_code_73 : lw_tbl[791]? = some (.code yX5_how cX5_how 1 (some .int)) := rfl
set_option maxRecDepth 100000 in
theorem k_code_74 : lw_tbl[942]? = some (.code yX5_rows cX5_rows 1 (some .int)) := rfl
set_option maxRecDepth 100000 in
theorem k_code_75 : lw_tbl[946]? = some (.code yX5_left cX5_left 1 (some .int)) := rfl
set_option maxRecDepth 100000 in
theorem k_code_76 : lw_tbl[950]? = some (.code yX5_wide cX5_wide 1 (some .int)) := rfl
set_option maxRecDepth 100000 in
theorem k_code_77 : lw_tbl[954]? = some (.code yX5_heat cX5_heat 1 (some .int)) := rfl
set_option maxRecDepth 100000 in
theorem k_code_78 : lw_tbl[958]? = some (.code yX5_pull cX5_pull 1 (some .int)) := rfl
set_option maxRecDepth 100000 in
theorem k_code_79 : lw_tbl[962]? = some (.code yX5_length cX5_length 1 (some .int)) := rfl
set_option maxRecDepth 100000 in
theorem k_code_80 : lw_tbl[966]? = some (.code yX5_minutes cX5_minutes 1 (some .int)) := rfl
set_option maxRecDepth 100000 in
theorem k_code_81 : lw_tbl[983]? = some (.code yX5_wideOf cX5_wideOf 2 (some .int)) := rfl
set_option maxRecDepth 100000 in
theorem k_code_82 : lw_tbl[987]? = some (.code yX5_heatOf cX5_heatOf 2 (some .int)) := rfl
set_option maxRecDepth 100000 in
theorem k_code_83 : lw_tbl[991]? = some (.code yX5_pullOf cX5_pullOf 2 (some .int)) := rfl
set_option maxRecDepth 100000 in
theorem k_code_84 : lw_tbl[995]? = some (.code yX5_grownOf cX5_grownOf 2 (some .int)) := rfl
set_option maxRecDepth 100000 in
theorem k_code_85 : lw_tbl[1028]? = some (.code yX5_meltOf cX5_meltOf 2 (some .long)) := rfl
set_option maxRecDepth 100000 in
theorem k_code_86 : lw_tbl[1033]? = some (.code yX5_wentInto cX5_wentInto 3 (some .long)) := rfl
set_option maxRecDepth 100000 in
theorem k_code_87 : lw_tbl[1041]? = some (.code yX5_partsOf cX5_partsOf 3 (some .long)) := rfl
set_option maxRecDepth 100000 in
theorem k_code_88 : lw_tbl[126]? = some (.code yX6_init cX6_init 1 none) := rfl
set_option maxRecDepth 100000 in
theorem k_code_89 : lw_tbl[201]? = some (.code yX6_tape cX6_tape 1 (some (.object "PulledCrystal$Tape"))) := rfl
set_option maxRecDepth 100000 in
theorem k_code_90 : lw_tbl[530]? = some (.code yX6_readInto cX6_readInto 5 (some .int)) := rfl
set_option maxRecDepth 100000 in
theorem k_code_91 : lw_tbl[619]? = some (.code yX6_fail cX6_fail 3 none) := rfl
set_option maxRecDepth 100000 in
theorem k_code_92 : lw_tbl[542]? = some (.code yX6_readClause cX6_readClause 5 none) := rfl
set_option maxRecDepth 100000 in
theorem k_code_93 : lw_tbl[554]? = some (.code yX6_clauseKind cX6_clauseKind 1 (some .int)) := rfl
set_option maxRecDepth 100000 in
theorem k_code_94 : lw_tbl[690]? = some (.code yX6_readTest cX6_readTest 3 none) := rfl
set_option maxRecDepth 100000 in
theorem k_code_95 : lw_tbl[694]? = some (.code yX6_readPart cX6_readPart 3 none) := rfl
set_option maxRecDepth 100000 in
theorem k_code_96 : lw_tbl[698]? = some (.code yX6_readFact cX6_readFact 4 none) := rfl
set_option maxRecDepth 100000 in
theorem k_code_97 : lw_tbl[658]? = some (.code yX6_opens cX6_opens 2 (some .boolean)) := rfl
set_option maxRecDepth 100000 in
theorem k_code_98 : lw_tbl[703]? = some (.code yX6_readSign cX6_readSign 3 (some .int)) := rfl
set_option maxRecDepth 100000 in
theorem k_code_99 : lw_tbl[646]? = some (.code yX6_readSum cX6_readSum 4 none) := rfl
set_option maxRecDepth 100000 in
theorem k_code_100 : lw_tbl[650]? = some (.code yX6_readTerm cX6_readTerm 4 none) := rfl
set_option maxRecDepth 100000 in
theorem k_code_101 : lw_tbl[654]? = some (.code yX6_readValue cX6_readValue 4 none) := rfl
set_option maxRecDepth 100000 in
theorem k_code_102 : lw_tbl[671]? = some (.code yX6_countTold cX6_countTold 2 none) := rfl
set_option maxRecDepth 100000 in
theorem k_code_103 : lw_tbl[631]? = some (.code yX6_readNumber cX6_readNumber 5 (some .int)) := rfl
set_option maxRecDepth 100000 in
theorem k_code_104 : lw_tbl[675]? = some (.code yX6_wordNumber cX6_wordNumber 1 (some .int)) := rfl
set_option maxRecDepth 100000 in
theorem k_code_105 : lw_tbl[546]? = some (.code yX6_nextByte cX6_nextByte 1 (some .int)) := rfl
set_option maxRecDepth 100000 in
theorem k_code_106 : lw_tbl[662]? = some (.code yX6_expect cX6_expect 2 none) := rfl
set_option maxRecDepth 100000 in
theorem k_code_107 : lw_tbl[686]? = some (.code yX6_takesWord cX6_takesWord 2 (some .boolean)) := rfl
set_option maxRecDepth 100000 in
theorem k_code_108 : lw_tbl[559]? = some (.code yX6_isWord cX6_isWord 3 (some .boolean)) := rfl
set_option maxRecDepth 100000 in
theorem k_code_109 : lw_tbl[627]? = some (.code yX6_wordEnd cX6_wordEnd 2 (some .int)) := rfl
set_option maxRecDepth 100000 in
theorem k_code_110 : lw_tbl[610]? = some (.code yX6_isLetter cX6_isLetter 1 (some .boolean)) := rfl
set_option maxRecDepth 100000 in
theorem k_code_111 : lw_tbl[634]? = some (.code yX6_isDigit cX6_isDigit 1 (some .boolean)) := rfl
set_option maxRecDepth 100000 in
theorem k_code_112 : lw_tbl[367]? = some (.code yX7_init cX7_init 1 none) := rfl
set_option maxRecDepth 100000 in
theorem k_code_113 : lw_tbl[974]? = some (.code yX7_size cX7_size 1 (some .int)) := rfl
set_option maxRecDepth 100000 in
theorem k_code_114 : lw_tbl[1215]? = some (.code yX7_isFull cX7_isFull 1 (some .boolean)) := rfl
set_option maxRecDepth 100000 in
theorem k_code_115 : lw_tbl[1219]? = some (.code yX7_add cX7_add 5 none) := rfl
set_option maxRecDepth 100000 in
theorem k_code_116 : lw_tbl[1228]? = some (.code yX7_gather cX7_gather 5 none) := rfl
set_option maxRecDepth 100000 in
theorem k_code_117 : lw_tbl[1238]? = some (.code yX7_areAsFound cX7_areAsFound 3 (some .boolean)) := rfl
set_option maxRecDepth 100000 in
theorem k_code_118 : lw_tbl[248]? = some (.code yX8_init cX8_init 1 none) := rfl
set_option maxRecDepth 100000 in
theorem k_code_119 : lw_tbl[758]? = some (.code yX8_tell cX8_tell 7 none) := rfl
set_option maxRecDepth 100000 in
theorem k_code_120 : lw_tbl[762]? = some (.code yX8_tellStuffs cX8_tellStuffs 4 none) := rfl
set_option maxRecDepth 100000 in
theorem k_code_121 : lw_tbl[1195]? = some (.code yX8_becomeLike cX8_becomeLike 2 none) := rfl
set_option maxRecDepth 100000 in
theorem k_code_122 : lw_tbl[770]? = some (.code yX8_grams cX8_grams 1 (some .int)) := rfl
set_option maxRecDepth 100000 in
theorem k_code_123 : lw_tbl[832]? = some (.code yX8_wideWanted cX8_wideWanted 1 (some .int)) := rfl
set_option maxRecDepth 100000 in
theorem k_code_124 : lw_tbl[778]? = some (.code yX8_heat cX8_heat 1 (some .int)) := rfl
set_option maxRecDepth 100000 in
theorem k_code_125 : lw_tbl[774]? = some (.code yX8_wide cX8_wide 1 (some .int)) := rfl
set_option maxRecDepth 100000 in
theorem k_code_126 : lw_tbl[930]? = some (.code yX8_life cX8_life 1 (some .int)) := rfl
set_option maxRecDepth 100000 in
theorem k_code_127 : lw_tbl[1015]? = some (.code yX8_faultsThen cX8_faultsThen 1 (some .int)) := rfl
set_option maxRecDepth 100000 in
theorem k_code_128 : lw_tbl[782]? = some (.code yX8_putOf cX8_putOf 2 (some .int)) := rfl
set_option maxRecDepth 100000 in
theorem k_code_129 : lw_tbl[918]? = some (.code yX8_shareOf cX8_shareOf 2 (some .int)) := rfl
set_option maxRecDepth 100000 in
theorem k_code_130 : lw_tbl[132]? = some (.code yX9_init cX9_init 1 none) := rfl
set_option maxRecDepth 100000 in
theorem k_code_131 : lw_tbl[506]? = some (.code yX9_size cX9_size 1 (some .int)) := rfl
set_option maxRecDepth 100000 in
theorem k_code_132 : lw_tbl[510]? = some (.code yX9_add cX9_add 3 none) := rfl
set_option maxRecDepth 100000 in
theorem k_code_133 : lw_tbl[518]? = some (.code yX9_shorten cX9_shorten 2 none) := rfl
set_option maxRecDepth 100000 in
theorem k_code_134 : lw_tbl[550]? = some (.code yX9_byteAt cX9_byteAt 2 (some .int)) := rfl
set_option maxRecDepth 100000 in
theorem k_code_135 : lw_tbl[420]? = some (.code yX10_init cX10_init 1 none) := rfl
set_option maxRecDepth 100000 in
theorem k_code_136 : lw_tbl[1102]? = some (.code yX10_tell cX10_tell 7 none) := rfl
set_option maxRecDepth 100000 in
theorem k_code_137 : lw_tbl[1133]? = some (.code yX10_length cX10_length 1 (some .int)) := rfl
set_option maxRecDepth 100000 in
theorem k_code_138 : lw_tbl[1137]? = some (.code yX10_coins cX10_coins 1 (some .int)) := rfl
set_option maxRecDepth 100000 in
theorem k_code_139 : lw_tbl[1123]? = some (.code yX10_reasonsAgainst cX10_reasonsAgainst 8 (some .int)) := rfl
set_option maxRecDepth 100000 in
theorem k_code_140 : lw_tbl[118]? = some (.code yX11_init cX11_init 2 none) := rfl
set_option maxRecDepth 100000 in
theorem k_code_141 : lw_tbl[502]? = some (.code yX11_feed cX11_feed 6 (some .int)) := rfl
set_option maxRecDepth 100000 in
theorem k_code_142 : lw_tbl[514]? = some (.code yX11_end cX11_end 2 (some .int)) := rfl
set_option maxRecDepth 100000 in
theorem k_code_143 : lw_tbl[526]? = some (.code yX11_furnace cX11_furnace 1 (some .int)) := rfl
set_option maxRecDepth 100000 in
theorem k_code_144 : lw_tbl[727]? = some (.code yX11_minder cX11_minder 1 (some .int)) := rfl
set_option maxRecDepth 100000 in
theorem k_code_145 : lw_tbl[731]? = some (.code yX11_stuff cX11_stuff 4 (some .int)) := rfl
set_option maxRecDepth 100000 in
theorem k_code_146 : lw_tbl[745]? = some (.code yX11_begin cX11_begin 13 (some .boolean)) := rfl
set_option maxRecDepth 100000 in
theorem k_code_147 : lw_tbl[787]? = some (.code yX11_minds cX11_minds 3 (some .boolean)) := rfl
set_option maxRecDepth 100000 in
theorem k_code_148 : lw_tbl[799]? = some (.code yX11_grow cX11_grow 2 (some .int)) := rfl
set_option maxRecDepth 100000 in
theorem k_code_149 : lw_tbl[934]? = some (.code yX11_state cX11_state 1 (some .int)) := rfl
set_option maxRecDepth 100000 in
theorem k_code_150 : lw_tbl[938]? = some (.code yX11_count cX11_count 2 (some .int)) := rfl
set_option maxRecDepth 100000 in
theorem k_code_151 : lw_tbl[978]? = some (.code yX11_row cX11_row 3 (some .int)) := rfl
set_option maxRecDepth 100000 in
theorem k_code_152 : lw_tbl[1023]? = some (.code yX11_much cX11_much 3 (some .long)) := rfl
set_option maxRecDepth 100000 in
theorem k_code_153 : lw_tbl[1037]? = some (.code yX11_parts cX11_parts 3 (some .long)) := rfl
set_option maxRecDepth 100000 in
theorem k_code_154 : lw_tbl[1051]? = some (.code yX11_melt cX11_melt 2 (some .int)) := rfl
set_option maxRecDepth 100000 in
theorem k_code_155 : lw_tbl[1061]? = some (.code yX11_fault cX11_fault 2 (some .boolean)) := rfl
set_option maxRecDepth 100000 in
theorem k_code_156 : lw_tbl[1069]? = some (.code yX11_thin cX11_thin 3 (some .int)) := rfl
set_option maxRecDepth 100000 in
theorem k_code_157 : lw_tbl[1073]? = some (.code yX11_faults cX11_faults 1 (some .int)) := rfl
set_option maxRecDepth 100000 in
theorem k_code_158 : lw_tbl[1082]? = some (.code yX11_holds cX11_holds 1 (some .int)) := rfl
set_option maxRecDepth 100000 in
theorem k_code_159 : lw_tbl[1094]? = some (.code yX11_want cX11_want 7 (some .int)) := rfl
set_option maxRecDepth 100000 in
theorem k_code_160 : lw_tbl[1106]? = some (.code yX11_cut cX11_cut 1 (some .int)) := rfl
set_option maxRecDepth 100000 in
theorem k_code_161 : lw_tbl[1149]? = some (.code yX11_whose cX11_whose 2 (some .int)) := rfl
set_option maxRecDepth 100000 in
theorem k_code_162 : lw_tbl[1158]? = some (.code yX11_enough cX11_enough 10 (some .int)) := rfl
set_option maxRecDepth 100000 in
theorem k_code_163 : lw_tbl[1171]? = some (.code yX11_wander cX11_wander 4 (some .int)) := rfl
set_option maxRecDepth 100000 in
theorem k_code_164 : lw_tbl[1183]? = some (.code yX11_tried cX11_tried 6 (some .int)) := rfl
set_option maxRecDepth 100000 in
theorem k_code_165 : lw_tbl[1207]? = some (.code yX11_best cX11_best 8 (some .int)) := rfl
set_option maxRecDepth 100000 in
theorem k_code_166 : lw_tbl[1211]? = some (.code yX11_slice cX11_slice 5 (some .int)) := rfl
set_option maxRecDepth 100000 in
theorem k_code_167 : lw_tbl[1224]? = some (.code yX11_span cX11_span 7 (some .int)) := rfl
set_option maxRecDepth 100000 in
theorem k_code_168 : lw_tbl[1242]? = some (.code yX11_choice cX11_choice 6 (some .int)) := rfl
set_option maxRecDepth 100000 in
theorem k_code_169 : lw_tbl[1246]? = some (.code yX11_piece cX11_piece 4 (some .int)) := rfl
set_option maxRecDepth 100000 in
theorem k_code_170 : lw_tbl[1267]? = some (.code yX11_why cX11_why 3 (some .int)) := rfl
set_option maxRecDepth 100000 in
theorem k_code_171 : lw_tbl[1272]? = some (.code yX11_stripes cX11_stripes 7 (some .int)) := rfl
set_option maxRecDepth 100000 in
theorem k_code_172 : lw_tbl[1279]? = some (.code yX11_ring cX11_ring 3 (some .int)) := rfl
set_option maxRecDepth 100000 in
theorem k_code_173 : lw_tbl[1283]? = some (.code yX11_awry cX11_awry 7 (some .int)) := rfl
set_option maxRecDepth 100000 in
theorem k_code_174 : lw_tbl[1289]? = some (.code yX11_far cX11_far 7 (some .int)) := rfl
set_option maxRecDepth 100000 in
theorem k_code_175 : lw_tbl[1297]? = some (.code yX11_image cX11_image 2 (some .int)) := rfl
set_option maxRecDepth 100000 in
theorem k_code_176 : lw_tbl[1313]? = some (.code yX11_back cX11_back 2 (some .int)) := rfl
set_option maxRecDepth 100000 in
theorem k_code_177 : lw_tbl[1301]? = some (.code yX11_isImage cX11_isImage 2 (some .boolean)) := rfl
set_option maxRecDepth 100000 in
theorem k_code_178 : lw_tbl[1110]? = some (.code yX11_mostCoins cX11_mostCoins 2 (some .int)) := rfl
set_option maxRecDepth 100000 in
theorem k_code_179 : lw_tbl[1187]? = some (.code yX11_rehearse cX11_rehearse 4 none) := rfl
set_option maxRecDepth 100000 in
theorem k_code_180 : lw_tbl[1167]? = some (.code yX11_countBetween cX11_countBetween 6 (some .int)) := rfl
set_option maxRecDepth 100000 in
theorem k_code_181 : lw_tbl[741]? = some (.code yX11_replace cX11_replace 4 (some .int)) := rfl
set_option maxRecDepth 100000 in
theorem k_code_182 : lw_tbl[734]? = some (.code yX11_isStuff cX11_isStuff 1 (some .boolean)) := rfl
set_option maxRecDepth 100000 in
theorem k_code_183 : lw_tbl[738]? = some (.code yX11_isWithin cX11_isWithin 3 (some .boolean)) := rfl
set_option maxRecDepth 100000 in
theorem k_code_184 : lw_tbl[1097]? = some (.code yX11_isSpan cX11_isSpan 2 (some .boolean)) := rfl
set_option maxRecDepth 100000 in
theorem k_code_185 : lw_tbl[883]? = some (.code yX11_hold cX11_hold 6 (some .long)) := rfl
set_option maxRecDepth 100000 in
theorem k_code_186 : lw_tbl[1046]? = some (.code yX11_partsInMillion cX11_partsInMillion 4 (some .long)) := rfl
set_option maxRecDepth 100000 in
theorem k_code_187 : lw_tbl[921]? = some (.code yX11_goesAlong cX11_goesAlong 8 (some .long)) := rfl
set_option maxRecDepth 100000 in
theorem k_code_188 : lw_tbl[1330]? = some (.code yX12_init cX12_init 2 none) := rfl
set_option maxRecDepth 100000 in
theorem k_code_189 : lw_tbl[1631]? = some (.code yX12_in cX12_in 6 (some .boolean)) := rfl
set_option maxRecDepth 100000 in
theorem k_code_190 : lw_tbl[1697]? = some (.code yX12_held cX12_held 6 (some .long)) := rfl
set_option maxRecDepth 100000 in
theorem k_code_191 : lw_tbl[1487]? = some (.code yX12_four cX12_four 3 none) := rfl
set_option maxRecDepth 100000 in
theorem k_code_192 : lw_tbl[1483]? = some (.code yX12_feed cX12_feed 6 (some .int)) := rfl
set_option maxRecDepth 100000 in
theorem k_code_193 : lw_tbl[1491]? = some (.code yX12_end cX12_end 2 (some .int)) := rfl
set_option maxRecDepth 100000 in
theorem k_code_194 : lw_tbl[1525]? = some (.code yX12_fails cX12_fails 3 (some .boolean)) := rfl
set_option maxRecDepth 100000 in
theorem k_code_195 : lw_tbl[1507]? = some (.code yX12_see cX12_see 1 (some .int)) := rfl
set_option maxRecDepth 100000 in
theorem k_code_196 : lw_tbl[1541]? = some (.code yX12_isDigit cX12_isDigit 2 (some .boolean)) := rfl
set_option maxRecDepth 100000 in
theorem k_code_197 : lw_tbl[1516]? = some (.code yX12_isLetter cX12_isLetter 2 (some .boolean)) := rfl
set_option maxRecDepth 100000 in
theorem k_code_198 : lw_tbl[1512]? = some (.code yX12_isWord cX12_isWord 6 (some .boolean)) := rfl
set_option maxRecDepth 100000 in
theorem k_code_199 : lw_tbl[1533]? = some (.code yX12_passWord cX12_passWord 1 none) := rfl
set_option maxRecDepth 100000 in
theorem k_code_200 : lw_tbl[1596]? = some (.code yX12_takesWord cX12_takesWord 3 (some .boolean)) := rfl
set_option maxRecDepth 100000 in
theorem k_code_201 : lw_tbl[1537]? = some (.code yX12_number cX12_number 4 (some .boolean)) := rfl
set_option maxRecDepth 100000 in
theorem k_code_202 : lw_tbl[1570]? = some (.code yX12_wordHere cX12_wordHere 1 (some .int)) := rfl
set_option maxRecDepth 100000 in
theorem k_code_203 : lw_tbl[1566]? = some (.code yX12_puts cX12_puts 3 none) := rfl
set_option maxRecDepth 100000 in
theorem k_code_204 : lw_tbl[1562]? = some (.code yX12_makes cX12_makes 2 (some .boolean)) := rfl
set_option maxRecDepth 100000 in
theorem k_code_205 : lw_tbl[1557]? = some (.code yX12_opens cX12_opens 2 (some .boolean)) := rfl
set_option maxRecDepth 100000 in
theorem k_code_206 : lw_tbl[1591]? = some (.code yX12_strength cX12_strength 1 (some .int)) := rfl
set_option maxRecDepth 100000 in
theorem k_code_207 : lw_tbl[1588]? = some (.code yX12_settles cX12_settles 3 none) := rfl
set_option maxRecDepth 100000 in
theorem k_code_208 : lw_tbl[1553]? = some (.code yX12_value cX12_value 3 (some .boolean)) := rfl
set_option maxRecDepth 100000 in
theorem k_code_209 : lw_tbl[1584]? = some (.code yX12_hasRound cX12_hasRound 3 (some .boolean)) := rfl
set_option maxRecDepth 100000 in
theorem k_code_210 : lw_tbl[1580]? = some (.code yX12_closesRound cX12_closesRound 2 none) := rfl
set_option maxRecDepth 100000 in
theorem k_code_211 : lw_tbl[1549]? = some (.code yX12_sum cX12_sum 5 (some .boolean)) := rfl
set_option maxRecDepth 100000 in
theorem k_code_212 : lw_tbl[1609]? = some (.code yX12_compare cX12_compare 5 (some .boolean)) := rfl
set_option maxRecDepth 100000 in
theorem k_code_213 : lw_tbl[1604]? = some (.code yX12_fact cX12_fact 3 (some .boolean)) := rfl
set_option maxRecDepth 100000 in
theorem k_code_214 : lw_tbl[1617]? = some (.code yX12_hasSquare cX12_hasSquare 2 (some .boolean)) := rfl
set_option maxRecDepth 100000 in
theorem k_code_215 : lw_tbl[1613]? = some (.code yX12_closesSquare cX12_closesSquare 1 none) := rfl
set_option maxRecDepth 100000 in
theorem k_code_216 : lw_tbl[1600]? = some (.code yX12_test cX12_test 3 (some .boolean)) := rfl
set_option maxRecDepth 100000 in
theorem k_code_217 : lw_tbl[1545]? = some (.code yX12_summed cX12_summed 3 (some .boolean)) := rfl
set_option maxRecDepth 100000 in
theorem k_code_218 : lw_tbl[1529]? = some (.code yX12_told cX12_told 4 (some .boolean)) := rfl
set_option maxRecDepth 100000 in
theorem k_code_219 : lw_tbl[1503]? = some (.code yX12_clauseHere cX12_clauseHere 5 (some .boolean)) := rfl
set_option maxRecDepth 100000 in
theorem k_code_220 : lw_tbl[1499]? = some (.code yX12_reads cX12_reads 3 (some .int)) := rfl
set_option maxRecDepth 100000 in
theorem k_code_221 : lw_tbl[1495]? = some (.code yX12_furnace cX12_furnace 2 (some .int)) := rfl
set_option maxRecDepth 100000 in
theorem k_code_222 : lw_tbl[1623]? = some (.code yX12_minder cX12_minder 2 (some .int)) := rfl
set_option maxRecDepth 100000 in
theorem k_code_223 : lw_tbl[1687]? = some (.code yX12_push cX12_push 3 none) := rfl
set_option maxRecDepth 100000 in
theorem k_code_224 : lw_tbl[1691]? = some (.code yX12_pop cX12_pop 1 (some .long)) := rfl
set_option maxRecDepth 100000 in
theorem k_code_225 : lw_tbl[1694]? = some (.code yX12_one cX12_one 5 (some .long)) := rfl
set_option maxRecDepth 100000 in
theorem k_code_226 : lw_tbl[1683]? = some (.code yX12_reckons cX12_reckons 11 (some .long)) := rfl
set_option maxRecDepth 100000 in
theorem k_code_227 : lw_tbl[1679]? = some (.code yX12_holding cX12_holding 5 (some .int)) := rfl
set_option maxRecDepth 100000 in
theorem k_code_228 : lw_tbl[1627]? = some (.code yX12_stuff cX12_stuff 5 (some .int)) := rfl
set_option maxRecDepth 100000 in
theorem k_code_229 : lw_tbl[1670]? = some (.code yX12_rowOf cX12_rowOf 3 (some .int)) := rfl
set_option maxRecDepth 100000 in
theorem k_code_230 : lw_tbl[1727]? = some (.code yX12_isRow cX12_isRow 2 (some .boolean)) := rfl
set_option maxRecDepth 100000 in
theorem k_code_231 : lw_tbl[1637]? = some (.code yX12_begin cX12_begin 11 (some .boolean)) := rfl
set_option maxRecDepth 100000 in
theorem k_code_232 : lw_tbl[1645]? = some (.code yX12_minds cX12_minds 2 (some .boolean)) := rfl
set_option maxRecDepth 100000 in
theorem k_code_233 : lw_tbl[1666]? = some (.code yX12_wideAt cX12_wideAt 2 (some .int)) := rfl
set_option maxRecDepth 100000 in
theorem k_code_234 : lw_tbl[1711]? = some (.code yX12_goes cX12_goes 10 (some .long)) := rfl
set_option maxRecDepth 100000 in
theorem k_code_235 : lw_tbl[1662]? = some (.code yX12_words cX12_words 2 none) := rfl
set_option maxRecDepth 100000 in
theorem k_code_236 : lw_tbl[1675]? = some (.code yX12_minded cX12_minded 6 (some .int)) := rfl
set_option maxRecDepth 100000 in
theorem k_code_237 : lw_tbl[1701]? = some (.code yX12_widens cX12_widens 9 none) := rfl
set_option maxRecDepth 100000 in
theorem k_code_238 : lw_tbl[1658]? = some (.code yX12_minute cX12_minute 9 none) := rfl
set_option maxRecDepth 100000 in
theorem k_code_239 : lw_tbl[1654]? = some (.code yX12_goesOn cX12_goesOn 3 (some .int)) := rfl
set_option maxRecDepth 100000 in
theorem k_code_240 : lw_tbl[1649]? = some (.code yX12_grow cX12_grow 2 (some .int)) := rfl
set_option maxRecDepth 100000 in
theorem k_code_241 : lw_tbl[1715]? = some (.code yX12_state cX12_state 1 (some .int)) := rfl
set_option maxRecDepth 100000 in
theorem k_code_242 : lw_tbl[1719]? = some (.code yX12_count cX12_count 2 (some .int)) := rfl
set_option maxRecDepth 100000 in
theorem k_code_243 : lw_tbl[1731]? = some (.code yX12_melts cX12_melts 4 none) := rfl
set_option maxRecDepth 100000 in
theorem k_code_244 : lw_tbl[1723]? = some (.code yX12_melt cX12_melt 3 (some .int)) := rfl
set_option maxRecDepth 100000 in
theorem k_code_245 : lw_tbl[1735]? = some (.code yX12_fault cX12_fault 2 (some .boolean)) := rfl
set_option maxRecDepth 100000 in
theorem k_code_246 : lw_tbl[1776]? = some (.code yX12_firstFault cX12_firstFault 2 (some .int)) := rfl
set_option maxRecDepth 100000 in
theorem k_code_247 : lw_tbl[1739]? = some (.code yX12_thin cX12_thin 3 (some .int)) := rfl
set_option maxRecDepth 100000 in
theorem k_code_248 : lw_tbl[1751]? = some (.code yX12_isNeck cX12_isNeck 2 (some .boolean)) := rfl
set_option maxRecDepth 100000 in
theorem k_code_249 : lw_tbl[1747]? = some (.code yX12_flawsBehind cX12_flawsBehind 4 (some .int)) := rfl
set_option maxRecDepth 100000 in
theorem k_code_250 : lw_tbl[1772]? = some (.code yX12_isClean cX12_isClean 2 (some .boolean)) := rfl
set_option maxRecDepth 100000 in
theorem k_code_251 : lw_tbl[1743]? = some (.code yX12_faults cX12_faults 1 (some .int)) := rfl
set_option maxRecDepth 100000 in
theorem k_code_252 : lw_tbl[1755]? = some (.code yX12_holds cX12_holds 7 (some .int)) := rfl
set_option maxRecDepth 100000 in
theorem k_code_253 : lw_tbl[1768]? = some (.code yX12_isBody cX12_isBody 3 (some .boolean)) := rfl
set_option maxRecDepth 100000 in
theorem k_code_254 : lw_tbl[1764]? = some (.code yX12_kind cX12_kind 3 (some .int)) := rfl
set_option maxRecDepth 100000 in
theorem k_code_255 : lw_tbl[1760]? = some (.code yX12_row cX12_row 3 (some .int)) := rfl
set_option maxRecDepth 100000 in
theorem k_code_256 : lw_tbl[1780]? = some (.code yX12_much cX12_much 3 (some .long)) := rfl
set_option maxRecDepth 100000 in
theorem k_code_257 : lw_tbl[1789]? = some (.code yX12_partsOf cX12_partsOf 4 (some .long)) := rfl
set_option maxRecDepth 100000 in
theorem k_code_258 : lw_tbl[1785]? = some (.code yX12_parts cX12_parts 3 (some .long)) := rfl
set_option maxRecDepth 100000 in
theorem k_code_259 : lw_tbl[1794]? = some (.code yX12_want cX12_want 7 (some .int)) := rfl
set_option maxRecDepth 100000 in
theorem k_code_260 : lw_tbl[1807]? = some (.code yX12_isWanted cX12_isWanted 5 (some .boolean)) := rfl
set_option maxRecDepth 100000 in
theorem k_code_261 : lw_tbl[1803]? = some (.code yX12_cuts cX12_cuts 9 (some .int)) := rfl
set_option maxRecDepth 100000 in
theorem k_code_262 : lw_tbl[1799]? = some (.code yX12_cut cX12_cut 1 (some .int)) := rfl
set_option maxRecDepth 100000 in
theorem k_code_263 : lw_tbl[1811]? = some (.code yX12_whose cX12_whose 3 (some .int)) := rfl
set_option maxRecDepth 100000 in
theorem k_code_264 : lw_tbl[1815]? = some (.code yX12_piece cX12_piece 6 (some .int)) := rfl
set_option maxRecDepth 100000 in
theorem k_code_265 : lw_tbl[1819]? = some (.code yX12_pieceOf cX12_pieceOf 7 (some .int)) := rfl
set_option maxRecDepth 100000 in
theorem k_code_266 : lw_tbl[1823]? = some (.code yX12_why cX12_why 7 (some .int)) := rfl
set_option maxRecDepth 100000 in
theorem k_code_267 : lw_tbl[1827]? = some (.code yX12_stripes cX12_stripes 7 (some .int)) := rfl
set_option maxRecDepth 100000 in
theorem k_code_268 : lw_tbl[1831]? = some (.code yX12_ring cX12_ring 3 (some .int)) := rfl
set_option maxRecDepth 100000 in
theorem k_code_269 : lw_tbl[1841]? = some (.code yX12_isAwry cX12_isAwry 4 (some .boolean)) := rfl
set_option maxRecDepth 100000 in
theorem k_code_270 : lw_tbl[1837]? = some (.code yX12_awry cX12_awry 7 (some .int)) := rfl
set_option maxRecDepth 100000 in
theorem k_code_271 : lw_tbl[1845]? = some (.code yX12_enough cX12_enough 15 (some .int)) := rfl
set_option maxRecDepth 100000 in
theorem k_code_272 : lw_tbl[1854]? = some (.code yX12_looks cX12_looks 7 none) := rfl
set_option maxRecDepth 100000 in
theorem k_code_273 : lw_tbl[1850]? = some (.code yX12_wander cX12_wander 4 (some .int)) := rfl
set_option maxRecDepth 100000 in
theorem k_code_274 : lw_tbl[1863]? = some (.code yX12_keeps cX12_keeps 5 none) := rfl
set_option maxRecDepth 100000 in
theorem k_code_275 : lw_tbl[1871]? = some (.code yX12_returns cX12_returns 5 none) := rfl
set_option maxRecDepth 100000 in
theorem k_code_276 : lw_tbl[1858]? = some (.code yX12_image cX12_image 2 (some .int)) := rfl
set_option maxRecDepth 100000 in
theorem k_code_277 : lw_tbl[1867]? = some (.code yX12_back cX12_back 2 (some .int)) := rfl
set_option maxRecDepth 100000 in
theorem k_code_278 : lw_tbl[1881]? = some (.code yX12_tries cX12_tries 6 none) := rfl
set_option maxRecDepth 100000 in
theorem k_code_279 : lw_tbl[1875]? = some (.code yX12_tried cX12_tried 5 (some .int)) := rfl
set_option maxRecDepth 100000 in
theorem k_code_280 : lw_tbl[1885]? = some (.code yX12_best cX12_best 6 (some .int)) := rfl
set_option maxRecDepth 100000 in
theorem k_code_281 : lw_tbl[1893]? = some (.code yX12_endsWell cX12_endsWell 5 (some .boolean)) := rfl
set_option maxRecDepth 100000 in
theorem k_code_282 : lw_tbl[1889]? = some (.code yX12_far cX12_far 5 (some .int)) := rfl
set_option maxRecDepth 100000 in
theorem k_code_283 : lw_tbl[1897]? = some (.code yX12_slice cX12_slice 5 (some .int)) := rfl
set_option maxRecDepth 100000 in
theorem k_code_284 : lw_tbl[1909]? = some (.code yX12_fits cX12_fits 8 (some .boolean)) := rfl
set_option maxRecDepth 100000 in
theorem k_code_285 : lw_tbl[1905]? = some (.code yX12_fitsAll cX12_fitsAll 8 (some .boolean)) := rfl
set_option maxRecDepth 100000 in
theorem k_code_286 : lw_tbl[1901]? = some (.code yX12_span cX12_span 7 (some .int)) := rfl
set_option maxRecDepth 100000 in
theorem k_code_287 : lw_tbl[1917]? = some (.code yX12_coinsOf cX12_coinsOf 4 (some .int)) := rfl
set_option maxRecDepth 100000 in
theorem k_code_288 : lw_tbl[1913]? = some (.code yX12_choice cX12_choice 6 (some .int)) := rfl
theorem k_st_0 : ∀ q ∈ ([(13, 9, 3, 140, 0, 116, 117, 0), (11, 1, 7, 0, 0, 119, 120, 121), (11, 9, 5, 88, 0, 124, 125, 0), (6, 3, 7, 0, 0, 127, 120, 121), (6, 11, 5, 130, 0, 130, 131, 0), (9, 3, 7, 0, 0, 133, 120, 121), (6, 20, 5, 24, 0, 144, 145, 0), (3, 3, 7, 0, 0, 147, 120, 121), (11, 16, 1, 89, 0, 198, 199, 200), (11, 25, 3, 41, 1, 204, 205, 0), (4, 3, 7, 0, 0, 207, 120, 121), (4, 15, 10, 0, 2, 208, 209, 210), (4, 27, 5, 24, 0, 213, 145, 0), (11, 37, 5, 10, 0, 223, 224, 0), (1, 3, 7, 0, 0, 226, 120, 121), (11, 55, 5, 46, 0, 240, 241, 0), (5, 3, 7, 0, 0, 243, 120, 121), (5, 11, 5, 118, 0, 246, 247, 0), (8, 3, 7, 0, 0, 249, 120, 121), (11, 80, 5, 0, 0, 340, 341, 0), (0, 3, 7, 0, 0, 343, 120, 121), (11, 87, 5, 112, 0, 365, 366, 0), (7, 3, 7, 0, 0, 368, 120, 121), (11, 105, 5, 18, 0, 395, 396, 0), (2, 3, 7, 0, 0, 398, 120, 121), (2, 11, 5, 46, 0, 400, 241, 0), (11, 106, 5, 135, 0, 418, 419, 0), (10, 1, 7, 0, 0, 421, 120, 121), (13, 13, 1, 141, 5, 499, 500, 501), (11, 107, 1, 131, 0, 503, 504, 505), (11, 113, 1, 132, 1, 507, 508, 509), (13, 18, 1, 142, 1, 511, 512, 513), (11, 116, 1, 133, 1, 515, 516, 517), (9, 19, 11, 0, 2, 519, 520, 521), (9, 25, 10, 0, 2, 522, 209, 210), (13, 23, 1, 143, 0, 523, 524, 525), (11, 119, 1, 90, 2, 527, 528, 529), (6, 39, 1, 43, 0, 531, 532, 533), (6, 45, 1, 25, 0, 535, 536, 537), (6, 48, 1, 92, 1, 539, 541, 0), (6, 52, 1, 105, 0, 543, 545, 1), (6, 145, 1, 134, 1, 547, 548, 549), (6, 66, 1, 93, 0, 551, 553, 2), (6, 108, 1, 108, 1, 556, 558, 3), (6, 173, 17, 0, 0, 560, 561, 562), (6, 178, 18, 0, 1, 570, 571, 572), (6, 182, 0, 110, 1, 608, 609, 0), (6, 69, 1, 91, 2, 616, 618, 4), (6, 73, 1, 30, 1, 620, 621, 622), (6, 77, 1, 109, 0, 624, 626, 5)] : List (Nat × Nat × Nat × Nat × Nat × Nat × Nat × Nat)), jStOk q = true := by decide +kernel
theorem k_st_1 : ∀ q ∈ ([(6, 80, 1, 103, 1, 628, 630, 6), (6, 154, 0, 111, 1, 632, 633, 0), (6, 84, 1, 29, 2, 635, 636, 637), (6, 87, 1, 31, 0, 639, 640, 641), (6, 90, 1, 99, 1, 643, 645, 7), (6, 148, 1, 100, 1, 647, 649, 8), (6, 151, 1, 101, 1, 651, 653, 9), (6, 136, 1, 97, 1, 655, 657, 10), (6, 56, 1, 106, 1, 659, 661, 11), (6, 126, 1, 27, 1, 664, 665, 666), (6, 142, 1, 102, 1, 668, 670, 12), (6, 158, 1, 104, 0, 672, 674, 13), (6, 95, 1, 107, 1, 683, 685, 14), (6, 99, 1, 94, 1, 687, 689, 15), (6, 121, 1, 95, 1, 691, 693, 16), (6, 129, 1, 96, 1, 695, 697, 17), (6, 139, 1, 98, 0, 700, 702, 18), (6, 102, 1, 28, 3, 706, 707, 708), (6, 59, 1, 133, 1, 710, 516, 517), (6, 62, 1, 44, 1, 711, 712, 713), (4, 28, 1, 43, 0, 715, 532, 533), (4, 32, 1, 26, 1, 716, 717, 718), (3, 43, 16, 0, 5, 720, 721, 722), (13, 28, 1, 144, 0, 724, 725, 726), (13, 32, 1, 145, 3, 728, 729, 730), (11, 123, 0, 182, 1, 732, 733, 0), (11, 128, 0, 183, 3, 736, 737, 0), (11, 132, 0, 181, 3, 739, 740, 0), (13, 37, 1, 146, 9, 742, 743, 744), (11, 136, 1, 45, 1, 746, 747, 748), (11, 141, 1, 47, 0, 751, 752, 753), (11, 145, 1, 119, 6, 755, 756, 757), (11, 151, 1, 120, 2, 759, 760, 761), (11, 155, 1, 48, 3, 763, 764, 765), (5, 78, 1, 122, 0, 767, 768, 769), (5, 82, 1, 125, 0, 771, 772, 773), (5, 84, 1, 124, 0, 775, 776, 777), (5, 86, 1, 128, 1, 779, 780, 781), (8, 45, 4, 182, 1, 783, 733, 0), (13, 42, 1, 147, 1, 784, 785, 786), (11, 159, 1, 73, 0, 788, 789, 790), (11, 162, 1, 50, 1, 792, 793, 794), (13, 47, 1, 148, 1, 796, 797, 798), (11, 166, 1, 53, 2, 800, 801, 802), (5, 118, 1, 54, 1, 804, 806, 19), (5, 122, 1, 55, 1, 808, 810, 20), (5, 151, 1, 34, 0, 812, 813, 814), (3, 49, 10, 0, 2, 816, 209, 210), (5, 135, 1, 11, 2, 817, 818, 819), (5, 156, 1, 56, 1, 821, 823, 21)] : List (Nat × Nat × Nat × Nat × Nat × Nat × Nat × Nat)), jStOk q = true := by decide +kernel
theorem k_st_2 : ∀ q ∈ ([(5, 161, 1, 72, 1, 825, 826, 827), (5, 106, 1, 123, 0, 829, 830, 831), (5, 125, 1, 12, 3, 834, 835, 836), (1, 22, 1, 32, 0, 838, 839, 840), (1, 28, 1, 38, 1, 842, 843, 844), (1, 32, 1, 39, 1, 846, 847, 848), (1, 35, 1, 40, 1, 850, 851, 852), (1, 38, 1, 37, 1, 854, 855, 856), (1, 41, 1, 13, 3, 858, 860, 22), (1, 45, 1, 36, 1, 862, 863, 864), (1, 48, 1, 16, 1, 866, 868, 23), (1, 52, 1, 17, 0, 870, 872, 24), (1, 56, 0, 14, 3, 874, 875, 0), (1, 60, 0, 15, 3, 877, 878, 0), (5, 114, 4, 185, 3, 881, 882, 0), (11, 359, 14, 0, 2, 884, 885, 886), (11, 362, 13, 0, 2, 887, 888, 889), (5, 141, 1, 57, 0, 893, 895, 25), (5, 171, 1, 33, 0, 900, 901, 902), (5, 145, 1, 58, 0, 905, 907, 26), (5, 178, 14, 0, 2, 910, 885, 886), (5, 181, 1, 35, 1, 911, 912, 913), (5, 184, 1, 129, 1, 915, 916, 917), (5, 187, 4, 187, 4, 919, 920, 0), (5, 148, 1, 59, 0, 923, 925, 27), (5, 191, 1, 126, 0, 927, 928, 929), (13, 51, 1, 149, 0, 931, 932, 933), (13, 55, 1, 150, 1, 935, 936, 937), (11, 170, 1, 74, 0, 939, 940, 941), (11, 173, 1, 75, 0, 943, 944, 945), (11, 176, 1, 76, 0, 947, 948, 949), (11, 179, 1, 77, 0, 951, 952, 953), (11, 182, 1, 78, 0, 955, 956, 957), (11, 185, 1, 79, 0, 959, 960, 961), (11, 188, 1, 80, 0, 963, 964, 965), (11, 191, 1, 42, 0, 967, 968, 969), (11, 192, 1, 113, 0, 971, 972, 973), (13, 59, 1, 151, 2, 975, 976, 977), (11, 193, 1, 72, 1, 979, 826, 827), (11, 196, 1, 81, 1, 980, 981, 982), (11, 200, 1, 82, 1, 984, 985, 986), (11, 203, 1, 83, 1, 988, 989, 990), (11, 206, 1, 84, 1, 992, 993, 994), (11, 209, 1, 67, 2, 996, 997, 998), (5, 204, 1, 81, 1, 1000, 981, 982), (5, 219, 1, 68, 2, 1001, 1003, 28), (5, 109, 12, 0, 1, 1005, 1006, 1007), (11, 213, 1, 63, 1, 1008, 1009, 1010), (5, 210, 1, 127, 0, 1012, 1013, 1014), (11, 216, 1, 62, 0, 1016, 1017, 1018)] : List (Nat × Nat × Nat × Nat × Nat × Nat × Nat × Nat)), jStOk q = true := by decide +kernel
theorem k_st_3 : ∀ q ∈ ([(13, 64, 1, 152, 2, 1020, 1021, 1022), (11, 221, 1, 85, 1, 1025, 1026, 1027), (5, 226, 4, 182, 1, 1029, 733, 0), (11, 225, 1, 86, 2, 1030, 1031, 1032), (13, 69, 1, 153, 2, 1034, 1035, 1036), (11, 229, 1, 87, 2, 1038, 1039, 1040), (5, 200, 1, 86, 2, 1042, 1031, 1032), (5, 194, 1, 84, 1, 1043, 993, 994), (5, 223, 4, 186, 2, 1044, 1045, 0), (13, 73, 1, 154, 1, 1048, 1049, 1050), (11, 232, 1, 60, 1, 1052, 1053, 1054), (5, 197, 1, 83, 1, 1056, 989, 990), (5, 207, 1, 82, 1, 1057, 985, 986), (13, 77, 1, 155, 1, 1058, 1059, 1060), (11, 235, 1, 61, 1, 1062, 1063, 1064), (13, 81, 1, 156, 1, 1066, 1067, 1068), (13, 85, 1, 157, 0, 1070, 1071, 1072), (11, 238, 1, 64, 1, 1074, 1075, 1076), (5, 213, 10, 0, 2, 1078, 209, 210), (13, 89, 1, 158, 0, 1079, 1080, 1081), (11, 241, 1, 65, 1, 1083, 1084, 1085), (5, 216, 1, 66, 1, 1087, 1089, 29), (13, 93, 1, 159, 6, 1091, 1092, 1093), (11, 244, 0, 184, 2, 1095, 1096, 0), (11, 248, 1, 136, 6, 1099, 1100, 1101), (13, 98, 1, 160, 0, 1103, 1104, 1105), (11, 249, 1, 178, 1, 1107, 1109, 30), (11, 253, 1, 1, 4, 1111, 1112, 1113), (0, 31, 1, 74, 0, 1115, 940, 941), (0, 36, 11, 0, 2, 1116, 520, 521), (0, 42, 1, 83, 1, 1117, 989, 990), (0, 46, 1, 63, 1, 1118, 1009, 1010), (0, 49, 1, 62, 0, 1119, 1017, 1018), (0, 52, 1, 139, 4, 1120, 1121, 1122), (10, 28, 1, 87, 2, 1124, 1039, 1040), (10, 34, 1, 81, 1, 1125, 981, 982), (0, 58, 1, 2, 3, 1126, 1128, 31), (0, 62, 1, 137, 0, 1130, 1131, 1132), (0, 65, 1, 138, 0, 1134, 1135, 1136), (0, 68, 1, 3, 4, 1138, 1140, 32), (11, 353, 1, 4, 0, 1142, 1143, 1144), (13, 102, 1, 161, 1, 1146, 1147, 1148), (11, 257, 1, 7, 1, 1150, 1151, 1152), (0, 72, 10, 0, 2, 1154, 209, 210), (13, 106, 1, 162, 5, 1155, 1156, 1157), (11, 261, 1, 129, 1, 1160, 916, 917), (11, 264, 1, 71, 4, 1161, 1162, 1163), (11, 268, 0, 180, 4, 1165, 1166, 0), (13, 110, 1, 163, 3, 1168, 1169, 1170), (11, 272, 1, 69, 2, 1172, 1173, 1174)] : List (Nat × Nat × Nat × Nat × Nat × Nat × Nat × Nat)), jStOk q = true := by decide +kernel
theorem k_st_4 : ∀ q ∈ ([(11, 275, 1, 70, 2, 1176, 1177, 1178), (13, 114, 1, 164, 4, 1180, 1181, 1182), (11, 278, 1, 179, 3, 1184, 1186, 33), (11, 301, 1, 49, 1, 1188, 1189, 1190), (5, 90, 1, 121, 1, 1192, 1193, 1194), (8, 37, 1, 119, 6, 1196, 756, 757), (8, 41, 1, 120, 2, 1197, 760, 761), (5, 94, 11, 0, 2, 1198, 520, 521), (5, 100, 16, 0, 5, 1199, 721, 722), (11, 356, 1, 52, 1, 1200, 1201, 1202), (13, 119, 1, 165, 1, 1204, 1205, 1206), (13, 123, 1, 166, 4, 1208, 1209, 1210), (11, 282, 1, 114, 0, 1212, 1213, 1214), (11, 287, 1, 115, 4, 1216, 1217, 1218), (7, 38, 1, 114, 0, 1220, 1213, 1214), (13, 127, 1, 167, 2, 1221, 1222, 1223), (11, 290, 1, 116, 2, 1225, 1226, 1227), (7, 42, 11, 0, 2, 1229, 520, 521), (7, 52, 13, 0, 2, 1232, 888, 889), (7, 56, 14, 0, 2, 1233, 885, 886), (11, 294, 1, 128, 1, 1234, 780, 781), (11, 297, 1, 117, 1, 1235, 1236, 1237), (13, 131, 1, 168, 2, 1239, 1240, 1241), (13, 135, 1, 169, 2, 1243, 1244, 1245), (11, 305, 1, 5, 0, 1247, 1248, 1249), (11, 308, 1, 6, 1, 1251, 1252, 1253), (11, 311, 1, 8, 1, 1255, 1256, 1257), (11, 314, 1, 9, 1, 1259, 1260, 1261), (0, 75, 1, 8, 1, 1263, 1256, 1257), (13, 139, 1, 170, 2, 1264, 1265, 1266), (11, 317, 1, 139, 4, 1268, 1121, 1122), (13, 143, 1, 171, 4, 1269, 1270, 1271), (11, 321, 15, 0, 1, 1273, 1274, 1275), (13, 147, 1, 172, 2, 1276, 1277, 1278), (13, 151, 1, 173, 2, 1280, 1281, 1282), (11, 327, 10, 0, 2, 1284, 209, 210), (11, 330, 11, 0, 2, 1285, 520, 521), (13, 155, 1, 174, 3, 1286, 1287, 1288), (11, 333, 1, 51, 0, 1290, 1291, 1292), (13, 159, 1, 175, 1, 1294, 1295, 1296), (11, 336, 1, 177, 1, 1298, 1300, 34), (11, 339, 1, 19, 4, 1302, 1303, 1304), (2, 33, 1, 49, 1, 1306, 1189, 1190), (2, 37, 0, 23, 2, 1307, 1308, 0), (13, 163, 1, 176, 1, 1310, 1311, 1312), (11, 343, 1, 21, 0, 1314, 1315, 1316), (11, 346, 1, 20, 3, 1318, 1319, 1320), (11, 350, 1, 22, 0, 1322, 1323, 1324), (13, 12, 3, 188, 0, 1328, 1329, 0), (12, 1, 7, 0, 0, 1331, 120, 121)] : List (Nat × Nat × Nat × Nat × Nat × Nat × Nat × Nat)), jStOk q = true := by decide +kernel
theorem k_st_5 : ∀ q ∈ ([(13, 17, 1, 192, 5, 1480, 1481, 1482), (12, 104, 1, 191, 1, 1484, 1486, 35), (13, 22, 1, 193, 1, 1488, 1489, 1490), (13, 27, 1, 221, 0, 1492, 1493, 1494), (12, 254, 1, 220, 1, 1496, 1498, 36), (12, 248, 1, 219, 0, 1500, 1502, 37), (12, 114, 1, 195, 0, 1504, 1506, 38), (12, 122, 1, 198, 1, 1509, 1511, 39), (12, 118, 1, 197, 1, 1513, 1515, 40), (12, 132, 1, 194, 2, 1522, 1524, 41), (12, 241, 1, 218, 3, 1526, 1528, 42), (12, 126, 1, 199, 0, 1530, 1532, 43), (12, 181, 1, 201, 1, 1534, 1536, 44), (12, 129, 1, 196, 1, 1538, 1540, 45), (12, 245, 1, 217, 1, 1542, 1544, 46), (12, 203, 1, 211, 0, 1546, 1548, 47), (12, 196, 1, 208, 0, 1550, 1552, 48), (12, 177, 1, 205, 1, 1554, 1556, 49), (12, 184, 1, 204, 1, 1559, 1561, 50), (12, 173, 1, 203, 2, 1563, 1565, 51), (12, 187, 1, 202, 0, 1567, 1569, 52), (12, 200, 1, 210, 1, 1577, 1579, 53), (12, 190, 1, 209, 1, 1581, 1583, 54), (12, 193, 1, 207, 2, 1585, 1587, 55), (12, 169, 0, 206, 1, 1589, 1590, 0), (12, 226, 1, 200, 1, 1593, 1595, 56), (12, 229, 1, 216, 0, 1597, 1599, 57), (12, 214, 1, 213, 0, 1601, 1603, 58), (12, 208, 1, 212, 0, 1606, 1608, 59), (12, 217, 1, 215, 0, 1610, 1612, 60), (12, 211, 1, 214, 0, 1614, 1616, 61), (13, 31, 1, 222, 0, 1620, 1621, 1622), (13, 36, 1, 228, 3, 1624, 1625, 1626), (12, 281, 0, 189, 3, 1629, 1630, 0), (13, 41, 1, 231, 9, 1634, 1635, 1636), (13, 46, 1, 232, 1, 1642, 1643, 1644), (13, 50, 1, 240, 1, 1646, 1647, 1648), (12, 346, 1, 239, 1, 1651, 1653, 62), (12, 341, 1, 238, 0, 1655, 1657, 63), (12, 325, 1, 235, 1, 1659, 1661, 64), (12, 303, 1, 233, 1, 1663, 1665, 65), (12, 297, 1, 229, 2, 1667, 1669, 66), (12, 328, 1, 236, 3, 1672, 1674, 67), (12, 306, 1, 227, 2, 1676, 1678, 68), (12, 275, 1, 226, 3, 1680, 1682, 69), (12, 263, 1, 223, 1, 1684, 1686, 70), (12, 267, 1, 224, 0, 1688, 1690, 71), (12, 271, 0, 225, 3, 1692, 1693, 0), (12, 309, 0, 190, 3, 1695, 1696, 0), (12, 332, 1, 237, 2, 1698, 1700, 72)] : List (Nat × Nat × Nat × Nat × Nat × Nat × Nat × Nat)), jStOk q = true := by decide +kernel
theorem k_st_6 : ∀ q ∈ ([(12, 337, 0, 234, 4, 1709, 1710, 0), (13, 54, 1, 241, 0, 1712, 1713, 1714), (13, 58, 1, 242, 1, 1716, 1717, 1718), (13, 76, 1, 244, 1, 1720, 1721, 1722), (12, 358, 1, 230, 1, 1724, 1726, 73), (12, 361, 1, 243, 1, 1728, 1730, 74), (13, 80, 1, 245, 1, 1732, 1733, 1734), (13, 84, 1, 247, 1, 1736, 1737, 1738), (13, 88, 1, 251, 0, 1740, 1741, 1742), (12, 367, 1, 249, 1, 1744, 1746, 75), (12, 364, 1, 248, 1, 1748, 1750, 76), (13, 92, 1, 252, 0, 1752, 1753, 1754), (13, 63, 1, 255, 2, 1757, 1758, 1759), (12, 375, 1, 254, 1, 1761, 1763, 77), (12, 372, 1, 253, 1, 1765, 1767, 78), (12, 378, 1, 250, 1, 1769, 1771, 79), (12, 381, 1, 246, 0, 1773, 1775, 80), (13, 68, 1, 256, 2, 1777, 1778, 1779), (13, 72, 1, 258, 2, 1782, 1783, 1784), (12, 388, 1, 257, 2, 1786, 1788, 81), (13, 97, 1, 259, 6, 1791, 1792, 1793), (13, 101, 1, 262, 0, 1796, 1797, 1798), (12, 397, 1, 261, 0, 1800, 1802, 82), (12, 394, 1, 260, 2, 1804, 1806, 83), (13, 105, 1, 263, 1, 1808, 1809, 1810), (13, 138, 1, 264, 2, 1812, 1813, 1814), (12, 400, 1, 265, 4, 1816, 1818, 84), (13, 142, 1, 266, 2, 1820, 1821, 1822), (13, 146, 1, 267, 4, 1824, 1825, 1826), (13, 150, 1, 268, 2, 1828, 1829, 1830), (13, 154, 1, 270, 2, 1834, 1835, 1836), (12, 408, 1, 269, 2, 1838, 1840, 85), (13, 109, 1, 271, 5, 1842, 1843, 1844), (13, 113, 1, 273, 3, 1847, 1848, 1849), (12, 419, 1, 272, 2, 1851, 1853, 86), (13, 162, 1, 276, 1, 1855, 1856, 1857), (12, 424, 1, 274, 1, 1860, 1862, 87), (13, 166, 1, 277, 1, 1864, 1865, 1866), (12, 427, 1, 275, 1, 1868, 1870, 88), (13, 118, 1, 279, 4, 1872, 1873, 1874), (12, 443, 1, 278, 3, 1878, 1880, 89), (13, 122, 1, 280, 1, 1882, 1883, 1884), (13, 158, 1, 282, 3, 1886, 1887, 1888), (12, 447, 1, 281, 4, 1890, 1892, 90), (13, 126, 1, 283, 4, 1894, 1895, 1896), (13, 130, 1, 286, 2, 1898, 1899, 1900), (12, 455, 1, 285, 2, 1902, 1904, 91), (12, 451, 1, 284, 3, 1906, 1908, 92), (13, 134, 1, 288, 2, 1910, 1911, 1912), (12, 458, 1, 287, 2, 1914, 1916, 93)] : List (Nat × Nat × Nat × Nat × Nat × Nat × Nat × Nat)), jStOk q = true := by decide +kernel
theorem k_np_0 : ∀ j ∈ ([0, 1, 2, 3, 4, 5, 6, 7, 8, 9, 10, 11, 12, 13, 14, 15, 16, 17, 18, 19, 20, 21, 22, 23, 24, 25, 26, 27, 28, 29, 30, 31, 32, 33, 34, 35, 36, 37, 38, 39] : List Nat), (parseMethodDescriptor (jY j).desc).map (fun d => d.parameters.length) = some (jNp j) := by decide +kernel
theorem k_np_1 : ∀ j ∈ ([40, 41, 42, 43, 44, 45, 46, 47, 48, 49, 50, 51, 52, 53, 54, 55, 56, 57, 58, 59, 60, 61, 62, 63, 64, 65, 66, 67, 68, 69, 70, 71, 72, 73, 74, 75, 76, 77, 78, 79] : List Nat), (parseMethodDescriptor (jY j).desc).map (fun d => d.parameters.length) = some (jNp j) := by decide +kernel
theorem k_np_2 : ∀ j ∈ ([80, 81, 82, 83, 84, 85, 86, 87, 88, 89, 90, 91, 92, 93, 94, 95, 96, 97, 98, 99, 100, 101, 102, 103, 104, 105, 106, 107, 108, 109, 110, 111, 112, 113, 114, 115, 116, 117, 118, 119] : List Nat), (parseMethodDescriptor (jY j).desc).map (fun d => d.parameters.length) = some (jNp j) := by decide +kernel
theorem k_np_3 : ∀ j ∈ ([120, 121, 122, 123, 124, 125, 126, 127, 128, 129, 130, 131, 132, 133, 134, 135, 136, 137, 138, 139, 140, 141, 142, 143, 144, 145, 146, 147, 148, 149, 150, 151, 152, 153, 154, 155, 156, 157, 158, 159] : List Nat), (parseMethodDescriptor (jY j).desc).map (fun d => d.parameters.length) = some (jNp j) := by decide +kernel
theorem k_np_4 : ∀ j ∈ ([160, 161, 162, 163, 164, 165, 166, 167, 168, 169, 170, 171, 172, 173, 174, 175, 176, 177, 178, 179, 180, 181, 182, 183, 184, 185, 186, 187, 188, 189, 190, 191, 192, 193, 194, 195, 196, 197, 198, 199] : List Nat), (parseMethodDescriptor (jY j).desc).map (fun d => d.parameters.length) = some (jNp j) := by decide +kernel
theorem k_np_5 : ∀ j ∈ ([200, 201, 202, 203, 204, 205, 206, 207, 208, 209, 210, 211, 212, 213, 214, 215, 216, 217, 218, 219, 220, 221, 222, 223, 224, 225, 226, 227, 228, 229, 230, 231, 232, 233, 234, 235, 236, 237, 238, 239] : List Nat), (parseMethodDescriptor (jY j).desc).map (fun d => d.parameters.length) = some (jNp j) := by decide +kernel
theorem k_np_6 : ∀ j ∈ ([240, 241, 242, 243, 244, 245, 246, 247, 248, 249, 250, 251, 252, 253, 254, 255, 256, 257, 258, 259, 260, 261, 262, 263, 264, 265, 266, 267, 268, 269, 270, 271, 272, 273, 274, 275, 276, 277, 278, 279] : List Nat), (parseMethodDescriptor (jY j).desc).map (fun d => d.parameters.length) = some (jNp j) := by decide +kernel
theorem k_np_7 : ∀ j ∈ ([280, 281, 282, 283, 284, 285, 286, 287, 288] : List Nat), (parseMethodDescriptor (jY j).desc).map (fun d => d.parameters.length) = some (jNp j) := by decide +kernel
