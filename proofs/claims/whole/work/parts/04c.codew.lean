/-! the code words -/
theorem mcd_0 : tables_1[429]? = some (.code yX0_init cX0_init 2 none) := by decide +kernel
theorem mcd_1 : tables_1[788]? = some (.code yX0_forget cX0_forget 1 none) := by decide +kernel
theorem mcd_2 : tables_1[561]? = some (.code yX0_tell cX0_tell 5 (some .boolean)) := by decide +kernel
theorem mcd_3 : tables_1[1032]? = some (.code yX0_back cX0_back 1 (some .boolean)) := by decide +kernel
theorem mcd_4 : tables_1[1040]? = some (.code yX0_again cX0_again 1 (some .boolean)) := by decide +kernel
theorem mcd_5 : tables_1[573]? = some (.code yX0_dropOldest cX0_dropOldest 1 none) := by decide +kernel
theorem mcd_6 : tables_1[565]? = some (.code yX0_get cX0_get 3 (some .int)) := by decide +kernel
theorem mcd_7 : tables_1[580]? = some (.code yX0_put cX0_put 4 none) := by decide +kernel
theorem mcd_8 : tables_1[30]? = some (.code yX1_init cX1_init 1 none) := by decide +kernel
theorem mcd_9 : tables_1[757]? = some (.code yX1_takenBy cX1_takenBy 5 (some .int)) := by decide +kernel
theorem mcd_10 : tables_1[761]? = some (.code yX1_sendsOf cX1_sendsOf 3 (some .int)) := by decide +kernel
theorem mcd_11 : tables_1[765]? = some (.code yX1_sentBy cX1_sentBy 8 (some .int)) := by decide +kernel
theorem mcd_12 : tables_1[94]? = some (.code yX2_init cX2_init 2 none) := by decide +kernel
theorem mcd_13 : tables_1[596]? = some (.code yX2_full cX2_full 1 (some .boolean)) := by decide +kernel
theorem mcd_14 : tables_1[600]? = some (.code yX2_add cX2_add 5 (some .int)) := by decide +kernel
theorem mcd_15 : tables_1[133]? = some (.code yX3_init cX3_init 3 none) := by decide +kernel
theorem mcd_16 : tables_1[620]? = some (.code yX3_full cX3_full 1 (some .boolean)) := by decide +kernel
theorem mcd_17 : tables_1[624]? = some (.code yX3_add cX3_add 4 (some .int)) := by decide +kernel
theorem mcd_18 : tables_1[773]? = some (.code yX3_making cX3_making 3 (some .int)) := by decide +kernel
theorem mcd_19 : tables_1[36]? = some (.code yX4_init cX4_init 1 none) := by decide +kernel
theorem mcd_20 : tables_1[525]? = some (.code yX4_add cX4_add 5 (some .int)) := by decide +kernel
theorem mcd_21 : tables_1[725]? = some (.code yX4_warmth cX4_warmth 3 (some .int)) := by decide +kernel
theorem mcd_22 : tables_1[569]? = some (.code yX4_flapCode cX4_flapCode 3 (some .int)) := by decide +kernel
theorem mcd_23 : tables_1[584]? = some (.code yX4_setFlap cX4_setFlap 3 none) := by decide +kernel
theorem mcd_24 : tables_1[260]? = some (.code yX5_init cX5_init 2 none) := by decide +kernel
theorem mcd_25 : tables_1[649]? = some (.code yX5_append cX5_append 5 (some .int)) := by decide +kernel
theorem mcd_26 : tables_1[658]? = some (.code yX5_accept cX5_accept 3 (some .int)) := by decide +kernel
theorem mcd_27 : tables_1[736]? = some (.code yX5_rules cX5_rules 2 (some .boolean)) := by decide +kernel
theorem mcd_28 : tables_1[740]? = some (.code yX5_told cX5_told 7 (some .int)) := by decide +kernel
theorem mcd_29 : tables_1[744]? = some (.code yX5_holds cX5_holds 7 (some .boolean)) := by decide +kernel
theorem mcd_30 : tables_1[666]? = some (.code yX5_next cX5_next 1 (some .int)) := by decide +kernel
theorem mcd_31 : tables_1[675]? = some (.code yX5_take cX5_take 2 (some .boolean)) := by decide +kernel
theorem mcd_32 : tables_1[704]? = some (.code yX5_write cX5_write 2 none) := by decide +kernel
theorem mcd_33 : tables_1[699]? = some (.code yX5_digit cX5_digit 3 (some .int)) := by decide +kernel
theorem mcd_34 : tables_1[662]? = some (.code yX5_subject cX5_subject 3 (some .int)) := by decide +kernel
theorem mcd_35 : tables_1[671]? = some (.code yX5_hasFlap cX5_hasFlap 2 (some .boolean)) := by decide +kernel
theorem mcd_36 : tables_1[679]? = some (.code yX5_cases cX5_cases 4 (some .boolean)) := by decide +kernel
theorem mcd_37 : tables_1[683]? = some (.code yX5_terms cX5_terms 3 (some .boolean)) := by decide +kernel
theorem mcd_38 : tables_1[687]? = some (.code yX5_parts cX5_parts 3 (some .boolean)) := by decide +kernel
theorem mcd_39 : tables_1[691]? = some (.code yX5_part cX5_part 3 (some .boolean)) := by decide +kernel
theorem mcd_40 : tables_1[695]? = some (.code yX5_fact cX5_fact 6 (some .boolean)) := by decide +kernel
theorem mcd_41 : tables_1[386]? = some (.code yX6_init cX6_init 3 none) := by decide +kernel
theorem mcd_42 : tables_1[721]? = some (.code yX6_pass cX6_pass 3 none) := by decide +kernel
theorem mcd_43 : tables_1[732]? = some (.code yX6_heed cX6_heed 4 none) := by decide +kernel
theorem mcd_44 : tables_1[753]? = some (.code yX6_exchange cX6_exchange 5 none) := by decide +kernel
theorem mcd_45 : tables_1[769]? = some (.code yX6_make cX6_make 4 none) := by decide +kernel
theorem mcd_46 : tables_1[777]? = some (.code yX6_lead cX6_lead 7 none) := by decide +kernel
theorem mcd_47 : tables_1[781]? = some (.code yX6_settleHeats cX6_settleHeats 3 none) := by decide +kernel
theorem mcd_48 : tables_1[888]? = some (.code yX6_repeated cX6_repeated 6 (some .int)) := by decide +kernel
theorem mcd_49 : tables_1[898]? = some (.code yX6_alike cX6_alike 3 (some .int)) := by decide +kernel
theorem mcd_50 : tables_1[902]? = some (.code yX6_sameRows cX6_sameRows 4 (some .boolean)) := by decide +kernel
theorem mcd_51 : tables_1[892]? = some (.code yX6_keep cX6_keep 5 none) := by decide +kernel
theorem mcd_52 : tables_1[906]? = some (.code yX6_restore cX6_restore 5 none) := by decide +kernel
theorem mcd_53 : tables_1[1006]? = some (.code yX6_bestHours cX6_bestHours 3 (some .int)) := by decide +kernel
theorem mcd_54 : tables_1[1010]? = some (.code yX6_choose cX6_choose 6 none) := by decide +kernel
theorem mcd_55 : tables_1[1014]? = some (.code yX6_mayBeBetter cX6_mayBeBetter 5 (some .boolean)) := by decide +kernel
theorem mcd_56 : tables_1[292]? = some (.code yX7_init cX7_init 2 none) := by decide +kernel
theorem mcd_57 : tables_1[805]? = some (.code yX7_asNow cX7_asNow 3 none) := by decide +kernel
theorem mcd_58 : tables_1[943]? = some (.code yX7_inCan cX7_inCan 1 none) := by decide +kernel
theorem mcd_59 : tables_1[948]? = some (.code yX7_only cX7_only 2 none) := by decide +kernel
theorem mcd_60 : tables_1[880]? = some (.code yX7_stretch cX7_stretch 3 none) := by decide +kernel
theorem mcd_61 : tables_1[969]? = some (.code yX7_putBoxes cX7_putBoxes 9 (some .boolean)) := by decide +kernel
theorem mcd_62 : tables_1[811]? = some (.code yX7_warmthOf cX7_warmthOf 2 (some .int)) := by decide +kernel
theorem mcd_63 : tables_1[973]? = some (.code yX7_hottest cX7_hottest 3 (some .int)) := by decide +kernel
theorem mcd_64 : tables_1[994]? = some (.code yX7_thawOne cX7_thawOne 3 (some .int)) := by decide +kernel
theorem mcd_65 : tables_1[815]? = some (.code yX7_settle cX7_settle 2 none) := by decide +kernel
theorem mcd_66 : tables_1[827]? = some (.code yX7_fillMakers cX7_fillMakers 2 none) := by decide +kernel
theorem mcd_67 : tables_1[169]? = some (.code yX8_init cX8_init 2 none) := by decide +kernel
theorem mcd_68 : tables_1[545]? = some (.code yX8_rises cX8_rises 3 (some .boolean)) := by decide +kernel
theorem mcd_69 : tables_1[298]? = some (.code yX9_init cX9_init 2 none) := by decide +kernel
theorem mcd_70 : tables_1[819]? = some (.code yX9_clear cX9_clear 2 none) := by decide +kernel
theorem mcd_71 : tables_1[831]? = some (.code yX9_addJoint cX9_addJoint 4 none) := by decide +kernel
theorem mcd_72 : tables_1[835]? = some (.code yX9_addPipe cX9_addPipe 4 none) := by decide +kernel
theorem mcd_73 : tables_1[839]? = some (.code yX9_solve cX9_solve 5 none) := by decide +kernel
theorem mcd_74 : tables_1[843]? = some (.code yX9_restAlone cX9_restAlone 7 (some .int)) := by decide +kernel
theorem mcd_75 : tables_1[849]? = some (.code yX9_lower cX9_lower 7 (some .boolean)) := by decide +kernel
theorem mcd_76 : tables_1[853]? = some (.code yX9_net cX9_net 7 (some .int)) := by decide +kernel
theorem mcd_77 : tables_1[455]? = some (.code yX10_init cX10_init 1 none) := by decide +kernel
theorem mcd_78 : tables_1[935]? = some (.code yX10_add cX10_add 7 (some .int)) := by decide +kernel
theorem mcd_79 : tables_1[22]? = some (.code yX11_init cX11_init 1 none) := by decide +kernel
theorem mcd_80 : tables_1[514]? = some (.code yX11_plate cX11_plate 4 (some .int)) := by decide +kernel
theorem mcd_81 : tables_1[529]? = some (.code yX11_heat cX11_heat 3 (some .int)) := by decide +kernel
theorem mcd_82 : tables_1[541]? = some (.code yX11_point cX11_point 3 (some .int)) := by decide +kernel
theorem mcd_83 : tables_1[549]? = some (.code yX11_coat cX11_coat 5 (some .int)) := by decide +kernel
theorem mcd_84 : tables_1[553]? = some (.code yX11_sun cX11_sun 3 (some .int)) := by decide +kernel
theorem mcd_85 : tables_1[557]? = some (.code yX11_face cX11_face 4 (some .int)) := by decide +kernel
theorem mcd_86 : tables_1[588]? = some (.code yX11_joint cX11_joint 4 (some .int)) := by decide +kernel
theorem mcd_87 : tables_1[604]? = some (.code yX11_pipe cX11_pipe 4 (some .int)) := by decide +kernel
theorem mcd_88 : tables_1[608]? = some (.code yX11_frozen cX11_frozen 3 (some .int)) := by decide +kernel
theorem mcd_89 : tables_1[612]? = some (.code yX11_box cX11_box 3 (some .int)) := by decide +kernel
theorem mcd_90 : tables_1[628]? = some (.code yX11_works cX11_works 3 (some .int)) := by decide +kernel
theorem mcd_91 : tables_1[632]? = some (.code yX11_heater cX11_heater 3 (some .int)) := by decide +kernel
theorem mcd_92 : tables_1[636]? = some (.code yX11_flap cX11_flap 2 (some .int)) := by decide +kernel
theorem mcd_93 : tables_1[640]? = some (.code yX11_state cX11_state 5 (some .int)) := by decide +kernel
theorem mcd_94 : tables_1[645]? = some (.code yX11_feed cX11_feed 4 (some .int)) := by decide +kernel
theorem mcd_95 : tables_1[654]? = some (.code yX11_text cX11_text 2 (some .int)) := by decide +kernel
theorem mcd_96 : tables_1[713]? = some (.code yX11_year cX11_year 3 (some .int)) := by decide +kernel
theorem mcd_97 : tables_1[717]? = some (.code yX11_ticks cX11_ticks 3 (some .int)) := by decide +kernel
theorem mcd_98 : tables_1[792]? = some (.code yX11_of cX11_of 3 (some .int)) := by decide +kernel
theorem mcd_99 : tables_1[797]? = some (.code yX11_sum cX11_sum 2 (some .long)) := by decide +kernel
theorem mcd_100 : tables_1[801]? = some (.code yX11_rest cX11_rest 3 (some .int)) := by decide +kernel
theorem mcd_101 : tables_1[857]? = some (.code yX11_rests cX11_rests 7 (some .int)) := by decide +kernel
theorem mcd_102 : tables_1[872]? = some (.code yX11_span cX11_span 3 (some .int)) := by decide +kernel
theorem mcd_103 : tables_1[876]? = some (.code yX11_worst cX11_worst 4 (some .int)) := by decide +kernel
theorem mcd_104 : tables_1[884]? = some (.code yX11_repeat cX11_repeat 2 (some .int)) := by decide +kernel
theorem mcd_105 : tables_1[910]? = some (.code yX11_age cX11_age 6 (some .int)) := by decide +kernel
theorem mcd_106 : tables_1[914]? = some (.code yX11_bolt cX11_bolt 6 (some .int)) := by decide +kernel
theorem mcd_107 : tables_1[924]? = some (.code yX11_matters cX11_matters 8 (some .int)) := by decide +kernel
theorem mcd_108 : tables_1[931]? = some (.code yX11_test cX11_test 6 (some .int)) := by decide +kernel
theorem mcd_109 : tables_1[939]? = some (.code yX11_fits cX11_fits 7 (some .int)) := by decide +kernel
theorem mcd_110 : tables_1[956]? = some (.code yX11_place cX11_place 10 (some .int)) := by decide +kernel
theorem mcd_111 : tables_1[978]? = some (.code yX11_marks cX11_marks 4 (some .int)) := by decide +kernel
theorem mcd_112 : tables_1[982]? = some (.code yX11_fails cX11_fails 7 (some .int)) := by decide +kernel
theorem mcd_113 : tables_1[986]? = some (.code yX11_freeze cX11_freeze 3 (some .int)) := by decide +kernel
theorem mcd_114 : tables_1[990]? = some (.code yX11_thaws cX11_thaws 5 (some .int)) := by decide +kernel
theorem mcd_115 : tables_1[998]? = some (.code yX11_thaw cX11_thaw 5 (some .int)) := by decide +kernel
theorem mcd_116 : tables_1[1002]? = some (.code yX11_work cX11_work 2 (some .int)) := by decide +kernel
theorem mcd_117 : tables_1[1019]? = some (.code yX11_share cX11_share 8 (some .int)) := by decide +kernel
theorem mcd_118 : tables_1[1028]? = some (.code yX11_undo cX11_undo 1 (some .int)) := by decide +kernel
theorem mcd_119 : tables_1[1036]? = some (.code yX11_redo cX11_redo 1 (some .int)) := by decide +kernel
theorem mcd_120 : tables_1[1044]? = some (.code yX11_count cX11_count 2 (some .int)) := by decide +kernel
theorem mcd_121 : tables_1[521]? = some (.code yX11_refuse cX11_refuse 2 (some .int)) := by decide +kernel
theorem mcd_122 : tables_1[918]? = some (.code yX11_refuseStarred cX11_refuseStarred 2 (some .int)) := by decide +kernel
theorem mcd_123 : tables_1[517]? = some (.code yX11_outside cX11_outside 2 (some .boolean)) := by decide +kernel
theorem mcd_124 : tables_1[533]? = some (.code yX11_noPlate cX11_noPlate 2 (some .boolean)) := by decide +kernel
theorem mcd_125 : tables_1[959]? = some (.code yX11_strangers cX11_strangers 2 (some .boolean)) := by decide +kernel
theorem mcd_126 : tables_1[537]? = some (.code yX11_swap cX11_swap 4 (some .int)) := by decide +kernel
theorem mcd_127 : tables_1[592]? = some (.code yX11_link cX11_link 5 (some .int)) := by decide +kernel
theorem mcd_128 : tables_1[616]? = some (.code yX11_maker cX11_maker 5 (some .int)) := by decide +kernel
theorem mcd_129 : tables_1[861]? = some (.code yX11_freeHeaters cX11_freeHeaters 3 (some .int)) := by decide +kernel
theorem mcd_130 : tables_1[867]? = some (.code yX11_toldAlike cX11_toldAlike 6 (some .boolean)) := by decide +kernel
theorem mcd_131 : tables_1[952]? = some (.code yX11_allTrialsFit cX11_allTrialsFit 3 (some .boolean)) := by decide +kernel
theorem mcd_132 : tables_1[1023]? = some (.code yX11_added cX11_added 6 (some .int)) := by decide +kernel
theorem mcd_133 : tables_1[1049]? = some (.code yX12_init cX12_init 2 none) := by decide +kernel
theorem mcd_134 : tables_1[1338]? = some (.code yX12_within cX12_within 3 (some .boolean)) := by decide +kernel
theorem mcd_135 : tables_1[1342]? = some (.code yX12_refuse cX12_refuse 2 (some .int)) := by decide +kernel
theorem mcd_136 : tables_1[1350]? = some (.code yX12_isPlate cX12_isPlate 2 (some .boolean)) := by decide +kernel
theorem mcd_137 : tables_1[1369]? = some (.code yX12_isHour cX12_isHour 1 (some .boolean)) := by decide +kernel
theorem mcd_138 : tables_1[1362]? = some (.code yX12_isYear cX12_isYear 1 (some .boolean)) := by decide +kernel
theorem mcd_139 : tables_1[1335]? = some (.code yX12_plate cX12_plate 4 (some .int)) := by decide +kernel
theorem mcd_140 : tables_1[1346]? = some (.code yX12_heat cX12_heat 4 (some .int)) := by decide +kernel
theorem mcd_141 : tables_1[1355]? = some (.code yX12_point cX12_point 4 (some .int)) := by decide +kernel
theorem mcd_142 : tables_1[1359]? = some (.code yX12_coat cX12_coat 7 (some .int)) := by decide +kernel
theorem mcd_143 : tables_1[1366]? = some (.code yX12_sun cX12_sun 4 (some .int)) := by decide +kernel
theorem mcd_144 : tables_1[1393]? = some (.code yX12_valueOf cX12_valueOf 3 (some .int)) := by decide +kernel
theorem mcd_145 : tables_1[1377]? = some (.code yX12_become cX12_become 4 none) := by decide +kernel
theorem mcd_146 : tables_1[1389]? = some (.code yX12_act cX12_act 6 none) := by decide +kernel
theorem mcd_147 : tables_1[1530]? = some (.code yX12_forget cX12_forget 1 none) := by decide +kernel
theorem mcd_148 : tables_1[1373]? = some (.code yX12_undo cX12_undo 1 (some .int)) := by decide +kernel
theorem mcd_149 : tables_1[1381]? = some (.code yX12_redo cX12_redo 1 (some .int)) := by decide +kernel
theorem mcd_150 : tables_1[1385]? = some (.code yX12_face cX12_face 4 (some .int)) := by decide +kernel
theorem mcd_151 : tables_1[1401]? = some (.code yX12_noWay cX12_noWay 6 (some .int)) := by decide +kernel
theorem mcd_152 : tables_1[1397]? = some (.code yX12_joint cX12_joint 5 (some .int)) := by decide +kernel
theorem mcd_153 : tables_1[1405]? = some (.code yX12_pipe cX12_pipe 5 (some .int)) := by decide +kernel
theorem mcd_154 : tables_1[1409]? = some (.code yX12_frozen cX12_frozen 3 (some .int)) := by decide +kernel
theorem mcd_155 : tables_1[1413]? = some (.code yX12_box cX12_box 3 (some .int)) := by decide +kernel
theorem mcd_156 : tables_1[1417]? = some (.code yX12_works cX12_works 3 (some .int)) := by decide +kernel
theorem mcd_157 : tables_1[1421]? = some (.code yX12_heater cX12_heater 3 (some .int)) := by decide +kernel
theorem mcd_158 : tables_1[1433]? = some (.code yX12_isHeater cX12_isHeater 2 (some .boolean)) := by decide +kernel
theorem mcd_159 : tables_1[1425]? = some (.code yX12_flap cX12_flap 2 (some .int)) := by decide +kernel
theorem mcd_160 : tables_1[1429]? = some (.code yX12_state cX12_state 5 (some .int)) := by decide +kernel
theorem mcd_161 : tables_1[1437]? = some (.code yX12_feed cX12_feed 5 (some .int)) := by decide +kernel
theorem mcd_162 : tables_1[1446]? = some (.code yX12_byteAt cX12_byteAt 1 (some .int)) := by decide +kernel
theorem mcd_163 : tables_1[1450]? = some (.code yX12_wrong cX12_wrong 1 none) := by decide +kernel
theorem mcd_164 : tables_1[1458]? = some (.code yX12_takes cX12_takes 2 (some .boolean)) := by decide +kernel
theorem mcd_165 : tables_1[1454]? = some (.code yX12_isDigit cX12_isDigit 1 (some .boolean)) := by decide +kernel
theorem mcd_166 : tables_1[1466]? = some (.code yX12_test cX12_test 3 (some .boolean)) := by decide +kernel
theorem mcd_167 : tables_1[1470]? = some (.code yX12_term cX12_term 3 (some .boolean)) := by decide +kernel
theorem mcd_168 : tables_1[1474]? = some (.code yX12_part cX12_part 5 (some .boolean)) := by decide +kernel
theorem mcd_169 : tables_1[1478]? = some (.code yX12_fact cX12_fact 2 (some .int)) := by decide +kernel
theorem mcd_170 : tables_1[1482]? = some (.code yX12_number cX12_number 3 (some .int)) := by decide +kernel
theorem mcd_171 : tables_1[1462]? = some (.code yX12_cases cX12_cases 3 none) := by decide +kernel
theorem mcd_172 : tables_1[1442]? = some (.code yX12_text cX12_text 6 (some .int)) := by decide +kernel
theorem mcd_173 : tables_1[1502]? = some (.code yX12_toldBy cX12_toldBy 2 (some .int)) := by decide +kernel
theorem mcd_174 : tables_1[1486]? = some (.code yX12_year cX12_year 3 (some .int)) := by decide +kernel
theorem mcd_175 : tables_1[1498]? = some (.code yX12_warmthOf cX12_warmthOf 3 (some .int)) := by decide +kernel
theorem mcd_176 : tables_1[1522]? = some (.code yX12_sendingAt cX12_sendingAt 3 (some .int)) := by decide +kernel
theorem mcd_177 : tables_1[1506]? = some (.code yX12_layOut cX12_layOut 3 none) := by decide +kernel
theorem mcd_178 : tables_1[1510]? = some (.code yX12_takesOf cX12_takesOf 2 (some .int)) := by decide +kernel
theorem mcd_179 : tables_1[1514]? = some (.code yX12_makesOf cX12_makesOf 4 (some .int)) := by decide +kernel
theorem mcd_180 : tables_1[1518]? = some (.code yX12_sendsOf cX12_sendsOf 4 (some .int)) := by decide +kernel
theorem mcd_181 : tables_1[1526]? = some (.code yX12_ledTo cX12_ledTo 5 (some .int)) := by decide +kernel
theorem mcd_182 : tables_1[1494]? = some (.code yX12_tick cX12_tick 7 none) := by decide +kernel
theorem mcd_183 : tables_1[1490]? = some (.code yX12_ticks cX12_ticks 3 (some .int)) := by decide +kernel
theorem mcd_184 : tables_1[1534]? = some (.code yX12_of cX12_of 3 (some .int)) := by decide +kernel
theorem mcd_185 : tables_1[1538]? = some (.code yX12_sum cX12_sum 2 (some .long)) := by decide +kernel
theorem mcd_186 : tables_1[1550]? = some (.code yX12_findRest cX12_findRest 3 none) := by decide +kernel
theorem mcd_187 : tables_1[1546]? = some (.code yX12_restOf cX12_restOf 2 (some .int)) := by decide +kernel
theorem mcd_188 : tables_1[1542]? = some (.code yX12_rest cX12_rest 3 (some .int)) := by decide +kernel
theorem mcd_189 : tables_1[1562]? = some (.code yX12_isRuled cX12_isRuled 2 (some .boolean)) := by decide +kernel
theorem mcd_190 : tables_1[1558]? = some (.code yX12_isRest cX12_isRest 7 (some .boolean)) := by decide +kernel
theorem mcd_191 : tables_1[1554]? = some (.code yX12_rests cX12_rests 5 (some .int)) := by decide +kernel
theorem mcd_192 : tables_1[1566]? = some (.code yX12_span cX12_span 4 (some .int)) := by decide +kernel
theorem mcd_193 : tables_1[1574]? = some (.code yX12_worstOf cX12_worstOf 6 (some .int)) := by decide +kernel
theorem mcd_194 : tables_1[1570]? = some (.code yX12_worst cX12_worst 4 (some .int)) := by decide +kernel
theorem mcd_195 : tables_1[1586]? = some (.code yX12_nowAt cX12_nowAt 2 (some .int)) := by decide +kernel
theorem mcd_196 : tables_1[1582]? = some (.code yX12_save cX12_save 2 none) := by decide +kernel
theorem mcd_197 : tables_1[1594]? = some (.code yX12_putBack cX12_putBack 2 none) := by decide +kernel
theorem mcd_198 : tables_1[1590]? = some (.code yX12_areAlike cX12_areAlike 5 (some .boolean)) := by decide +kernel
theorem mcd_199 : tables_1[1578]? = some (.code yX12_repeat cX12_repeat 5 (some .int)) := by decide +kernel
theorem mcd_200 : tables_1[1598]? = some (.code yX12_age cX12_age 6 (some .int)) := by decide +kernel
theorem mcd_201 : tables_1[1607]? = some (.code yX12_changeBy cX12_changeBy 6 (some .int)) := by decide +kernel
theorem mcd_202 : tables_1[1602]? = some (.code yX12_bolt cX12_bolt 6 (some .int)) := by decide +kernel
theorem mcd_203 : tables_1[1611]? = some (.code yX12_matters cX12_matters 7 (some .int)) := by decide +kernel
theorem mcd_204 : tables_1[1615]? = some (.code yX12_test_ cX12_test_ 6 (some .int)) := by decide +kernel
theorem mcd_205 : tables_1[1627]? = some (.code yX12_canBalance cX12_canBalance 2 (some .int)) := by decide +kernel
theorem mcd_206 : tables_1[1623]? = some (.code yX12_canRest cX12_canRest 6 (some .int)) := by decide +kernel
theorem mcd_207 : tables_1[1619]? = some (.code yX12_fits cX12_fits 10 (some .int)) := by decide +kernel
theorem mcd_208 : tables_1[1634]? = some (.code yX12_countOf cX12_countOf 3 (some .int)) := by decide +kernel
theorem mcd_209 : tables_1[1638]? = some (.code yX12_places cX12_places 5 none) := by decide +kernel
theorem mcd_210 : tables_1[1631]? = some (.code yX12_place cX12_place 6 (some .int)) := by decide +kernel
theorem mcd_211 : tables_1[1642]? = some (.code yX12_marks cX12_marks 4 (some .int)) := by decide +kernel
theorem mcd_212 : tables_1[1646]? = some (.code yX12_fails cX12_fails 5 (some .int)) := by decide +kernel
theorem mcd_213 : tables_1[1650]? = some (.code yX12_freeze cX12_freeze 3 (some .int)) := by decide +kernel
theorem mcd_214 : tables_1[1658]? = some (.code yX12_findThaw cX12_findThaw 5 none) := by decide +kernel
theorem mcd_215 : tables_1[1654]? = some (.code yX12_thaws cX12_thaws 3 (some .int)) := by decide +kernel
theorem mcd_216 : tables_1[1662]? = some (.code yX12_thaw cX12_thaw 3 (some .int)) := by decide +kernel
theorem mcd_217 : tables_1[1666]? = some (.code yX12_work cX12_work 6 (some .int)) := by decide +kernel
theorem mcd_218 : tables_1[1674]? = some (.code yX12_restBy cX12_restBy 5 (some .int)) := by decide +kernel
theorem mcd_219 : tables_1[1670]? = some (.code yX12_share cX12_share 9 (some .int)) := by decide +kernel
theorem mcd_220 : tables_1[1678]? = some (.code yX12_count cX12_count 2 (some .int)) := by decide +kernel
theorem mcd_221 : tables_1[747]? = some (.code yJ6_compare_7cf53 cJ6_compare_7cf53 2 (some .int)) := by decide +kernel
theorem mcd_222 : tables_1[962]? = some (.code yJ6_bitCount_0f7a4 cJ6_bitCount_0f7a4 1 (some .int)) := by decide +kernel
theorem mcd_223 : tables_1[927]? = some (.code yJ9_abs_0f7a4 cJ9_abs_0f7a4 1 (some .int)) := by decide +kernel
theorem mcd_224 : tables_1[784]? = some (.code yJ9_max_7cf53 cJ9_max_7cf53 2 (some .int)) := by decide +kernel
theorem mcd_225 : tables_1[728]? = some (.code yJ9_min_7cf53 cJ9_min_7cf53 2 (some .int)) := by decide +kernel
theorem mcd_226 : tables_1[173]? = some (.code yJ7_fill_53178 cJ7_fill_53178 4 none) := by decide +kernel
def mis_0 : List MI := [(0, yX0_init, cX0_init, 2, none, 1, false, 3, 180, 429), (0, yX0_forget, cX0_forget, 1, none, 0, false, 0, 0, 788), (0, yX0_tell, cX0_tell, 5, (some .boolean), 3, false, 0, 0, 561), (0, yX0_back, cX0_back, 1, (some .boolean), 0, false, 0, 0, 1032), (0, yX0_again, cX0_again, 1, (some .boolean), 0, false, 0, 0, 1040), (0, yX0_dropOldest, cX0_dropOldest, 1, none, 0, false, 0, 0, 573), (0, yX0_get, cX0_get, 3, (some .int), 2, false, 0, 0, 565), (0, yX0_put, cX0_put, 4, none, 3, false, 0, 0, 580), (1, yX1_init, cX1_init, 1, none, 0, false, 34, 14215, 30), (1, yX1_takenBy, cX1_takenBy, 5, (some .int), 3, false, 0, 0, 757), (1, yX1_sendsOf, cX1_sendsOf, 3, (some .int), 2, false, 0, 0, 761), (1, yX1_sentBy, cX1_sentBy, 8, (some .int), 4, false, 0, 0, 765), (2, yX2_init, cX2_init, 2, none, 1, false, 4, 4000, 94), (2, yX2_full, cX2_full, 1, (some .boolean), 0, false, 0, 0, 596), (2, yX2_add, cX2_add, 5, (some .int), 3, false, 0, 0, 600), (3, yX3_init, cX3_init, 3, none, 2, false, 3, 3000, 133), (3, yX3_full, cX3_full, 1, (some .boolean), 0, false, 0, 0, 620), (3, yX3_add, cX3_add, 4, (some .int), 2, false, 0, 0, 624), (3, yX3_making, cX3_making, 3, (some .int), 0, false, 0, 0, 773)]
theorem mck_0 : ∀ q ∈ mis_0, tables_1[q.2.2.2.2.2.2.2.2.2]? = some (.code q.2.1 q.2.2.1 q.2.2.2.1 q.2.2.2.2.1) := List.forall_mem_cons.mpr ⟨mcd_0, List.forall_mem_cons.mpr ⟨mcd_1, List.forall_mem_cons.mpr ⟨mcd_2, List.forall_mem_cons.mpr ⟨mcd_3, List.forall_mem_cons.mpr ⟨mcd_4, List.forall_mem_cons.mpr ⟨mcd_5, List.forall_mem_cons.mpr ⟨mcd_6, List.forall_mem_cons.mpr ⟨mcd_7, List.forall_mem_cons.mpr ⟨mcd_8, List.forall_mem_cons.mpr ⟨mcd_9, List.forall_mem_cons.mpr ⟨mcd_10, List.forall_mem_cons.mpr ⟨mcd_11, List.forall_mem_cons.mpr ⟨mcd_12, List.forall_mem_cons.mpr ⟨mcd_13, List.forall_mem_cons.mpr ⟨mcd_14, List.forall_mem_cons.mpr ⟨mcd_15, List.forall_mem_cons.mpr ⟨mcd_16, List.forall_mem_cons.mpr ⟨mcd_17, List.forall_mem_cons.mpr ⟨mcd_18, fun _ h => absurd h List.not_mem_nil⟩⟩⟩⟩⟩⟩⟩⟩⟩⟩⟩⟩⟩⟩⟩⟩⟩⟩⟩
def mis_1 : List MI := [(4, yX4_init, cX4_init, 1, none, 0, false, 9, 72, 36), (4, yX4_add, cX4_add, 5, (some .int), 3, false, 0, 0, 525), (4, yX4_warmth, cX4_warmth, 3, (some .int), 1, false, 0, 0, 725), (4, yX4_flapCode, cX4_flapCode, 3, (some .int), 2, false, 0, 0, 569), (4, yX4_setFlap, cX4_setFlap, 3, none, 2, false, 0, 0, 584), (5, yX5_init, cX5_init, 2, none, 1, false, 4, 572, 260), (5, yX5_append, cX5_append, 5, (some .int), 2, false, 0, 0, 649), (5, yX5_accept, cX5_accept, 3, (some .int), 0, false, 0, 0, 658), (5, yX5_rules, cX5_rules, 2, (some .boolean), 1, false, 0, 0, 736), (5, yX5_told, cX5_told, 7, (some .int), 3, false, 0, 0, 740), (5, yX5_holds, cX5_holds, 7, (some .boolean), 3, false, 0, 0, 744), (5, yX5_next, cX5_next, 1, (some .int), 0, false, 0, 0, 666), (5, yX5_take, cX5_take, 2, (some .boolean), 1, false, 0, 0, 675), (5, yX5_write, cX5_write, 2, none, 1, false, 0, 0, 704), (5, yX5_digit, cX5_digit, 3, (some .int), 1, false, 0, 0, 699), (5, yX5_subject, cX5_subject, 3, (some .int), 0, false, 0, 0, 662), (5, yX5_hasFlap, cX5_hasFlap, 2, (some .boolean), 1, false, 0, 0, 671), (5, yX5_cases, cX5_cases, 4, (some .boolean), 1, false, 0, 0, 679), (5, yX5_terms, cX5_terms, 3, (some .boolean), 1, false, 0, 0, 683)]
theorem mck_1 : ∀ q ∈ mis_1, tables_1[q.2.2.2.2.2.2.2.2.2]? = some (.code q.2.1 q.2.2.1 q.2.2.2.1 q.2.2.2.2.1) := List.forall_mem_cons.mpr ⟨mcd_19, List.forall_mem_cons.mpr ⟨mcd_20, List.forall_mem_cons.mpr ⟨mcd_21, List.forall_mem_cons.mpr ⟨mcd_22, List.forall_mem_cons.mpr ⟨mcd_23, List.forall_mem_cons.mpr ⟨mcd_24, List.forall_mem_cons.mpr ⟨mcd_25, List.forall_mem_cons.mpr ⟨mcd_26, List.forall_mem_cons.mpr ⟨mcd_27, List.forall_mem_cons.mpr ⟨mcd_28, List.forall_mem_cons.mpr ⟨mcd_29, List.forall_mem_cons.mpr ⟨mcd_30, List.forall_mem_cons.mpr ⟨mcd_31, List.forall_mem_cons.mpr ⟨mcd_32, List.forall_mem_cons.mpr ⟨mcd_33, List.forall_mem_cons.mpr ⟨mcd_34, List.forall_mem_cons.mpr ⟨mcd_35, List.forall_mem_cons.mpr ⟨mcd_36, List.forall_mem_cons.mpr ⟨mcd_37, fun _ h => absurd h List.not_mem_nil⟩⟩⟩⟩⟩⟩⟩⟩⟩⟩⟩⟩⟩⟩⟩⟩⟩⟩⟩
def mis_2 : List MI := [(5, yX5_parts, cX5_parts, 3, (some .boolean), 1, false, 0, 0, 687), (5, yX5_part, cX5_part, 3, (some .boolean), 1, false, 0, 0, 691), (5, yX5_fact, cX5_fact, 6, (some .boolean), 0, false, 0, 0, 695), (6, yX6_init, cX6_init, 3, none, 2, false, 4, 573, 386), (6, yX6_pass, cX6_pass, 3, none, 1, false, 0, 0, 721), (6, yX6_heed, cX6_heed, 4, none, 1, false, 0, 0, 732), (6, yX6_exchange, cX6_exchange, 5, none, 1, false, 0, 0, 753), (6, yX6_make, cX6_make, 4, none, 1, false, 0, 0, 769), (6, yX6_lead, cX6_lead, 7, none, 2, false, 0, 0, 777), (6, yX6_settleHeats, cX6_settleHeats, 3, none, 0, false, 0, 0, 781), (6, yX6_repeated, cX6_repeated, 6, (some .int), 2, false, 0, 0, 888), (6, yX6_alike, cX6_alike, 3, (some .int), 1, false, 0, 0, 898), (6, yX6_sameRows, cX6_sameRows, 4, (some .boolean), 2, false, 0, 0, 902), (6, yX6_keep, cX6_keep, 5, none, 1, false, 0, 0, 892), (6, yX6_restore, cX6_restore, 5, none, 1, false, 0, 0, 906), (6, yX6_bestHours, cX6_bestHours, 3, (some .int), 1, false, 0, 0, 1006), (6, yX6_choose, cX6_choose, 6, none, 3, false, 0, 0, 1010), (6, yX6_mayBeBetter, cX6_mayBeBetter, 5, (some .boolean), 2, false, 0, 0, 1014), (7, yX7_init, cX7_init, 2, none, 1, false, 10, 205, 292)]
theorem mck_2 : ∀ q ∈ mis_2, tables_1[q.2.2.2.2.2.2.2.2.2]? = some (.code q.2.1 q.2.2.1 q.2.2.2.1 q.2.2.2.2.1) := List.forall_mem_cons.mpr ⟨mcd_38, List.forall_mem_cons.mpr ⟨mcd_39, List.forall_mem_cons.mpr ⟨mcd_40, List.forall_mem_cons.mpr ⟨mcd_41, List.forall_mem_cons.mpr ⟨mcd_42, List.forall_mem_cons.mpr ⟨mcd_43, List.forall_mem_cons.mpr ⟨mcd_44, List.forall_mem_cons.mpr ⟨mcd_45, List.forall_mem_cons.mpr ⟨mcd_46, List.forall_mem_cons.mpr ⟨mcd_47, List.forall_mem_cons.mpr ⟨mcd_48, List.forall_mem_cons.mpr ⟨mcd_49, List.forall_mem_cons.mpr ⟨mcd_50, List.forall_mem_cons.mpr ⟨mcd_51, List.forall_mem_cons.mpr ⟨mcd_52, List.forall_mem_cons.mpr ⟨mcd_53, List.forall_mem_cons.mpr ⟨mcd_54, List.forall_mem_cons.mpr ⟨mcd_55, List.forall_mem_cons.mpr ⟨mcd_56, fun _ h => absurd h List.not_mem_nil⟩⟩⟩⟩⟩⟩⟩⟩⟩⟩⟩⟩⟩⟩⟩⟩⟩⟩⟩
def mis_3 : List MI := [(7, yX7_asNow, cX7_asNow, 3, none, 1, false, 0, 0, 805), (7, yX7_inCan, cX7_inCan, 1, none, 0, false, 0, 0, 943), (7, yX7_only, cX7_only, 2, none, 1, false, 0, 0, 948), (7, yX7_stretch, cX7_stretch, 3, none, 1, false, 0, 0, 880), (7, yX7_putBoxes, cX7_putBoxes, 9, (some .boolean), 4, false, 0, 0, 969), (7, yX7_warmthOf, cX7_warmthOf, 2, (some .int), 1, false, 0, 0, 811), (7, yX7_hottest, cX7_hottest, 3, (some .int), 0, false, 0, 0, 973), (7, yX7_thawOne, cX7_thawOne, 3, (some .int), 0, false, 0, 0, 994), (7, yX7_settle, cX7_settle, 2, none, 0, false, 0, 0, 815), (7, yX7_fillMakers, cX7_fillMakers, 2, none, 0, false, 0, 0, 827), (8, yX8_init, cX8_init, 2, none, 0, false, 5, 102, 169), (8, yX8_rises, cX8_rises, 3, (some .boolean), 2, false, 0, 0, 545), (9, yX9_init, cX9_init, 2, none, 1, false, 7, 168, 298), (9, yX9_clear, cX9_clear, 2, none, 1, false, 0, 0, 819), (9, yX9_addJoint, cX9_addJoint, 4, none, 3, false, 0, 0, 831), (9, yX9_addPipe, cX9_addPipe, 4, none, 3, false, 0, 0, 835), (9, yX9_solve, cX9_solve, 5, none, 0, false, 0, 0, 839), (9, yX9_restAlone, cX9_restAlone, 7, (some .int), 2, false, 0, 0, 843), (9, yX9_lower, cX9_lower, 7, (some .boolean), 1, false, 0, 0, 849)]
theorem mck_3 : ∀ q ∈ mis_3, tables_1[q.2.2.2.2.2.2.2.2.2]? = some (.code q.2.1 q.2.2.1 q.2.2.2.1 q.2.2.2.2.1) := List.forall_mem_cons.mpr ⟨mcd_57, List.forall_mem_cons.mpr ⟨mcd_58, List.forall_mem_cons.mpr ⟨mcd_59, List.forall_mem_cons.mpr ⟨mcd_60, List.forall_mem_cons.mpr ⟨mcd_61, List.forall_mem_cons.mpr ⟨mcd_62, List.forall_mem_cons.mpr ⟨mcd_63, List.forall_mem_cons.mpr ⟨mcd_64, List.forall_mem_cons.mpr ⟨mcd_65, List.forall_mem_cons.mpr ⟨mcd_66, List.forall_mem_cons.mpr ⟨mcd_67, List.forall_mem_cons.mpr ⟨mcd_68, List.forall_mem_cons.mpr ⟨mcd_69, List.forall_mem_cons.mpr ⟨mcd_70, List.forall_mem_cons.mpr ⟨mcd_71, List.forall_mem_cons.mpr ⟨mcd_72, List.forall_mem_cons.mpr ⟨mcd_73, List.forall_mem_cons.mpr ⟨mcd_74, List.forall_mem_cons.mpr ⟨mcd_75, fun _ h => absurd h List.not_mem_nil⟩⟩⟩⟩⟩⟩⟩⟩⟩⟩⟩⟩⟩⟩⟩⟩⟩⟩⟩
def mis_4 : List MI := [(9, yX9_net, cX9_net, 7, (some .int), 2, false, 0, 0, 853), (10, yX10_init, cX10_init, 1, none, 0, false, 5, 50, 455), (10, yX10_add, cX10_add, 7, (some .int), 5, false, 0, 0, 935), (11, yX11_init, cX11_init, 1, none, 0, false, 68, 15856, 22), (11, yX11_plate, cX11_plate, 4, (some .int), 3, false, 0, 0, 514), (11, yX11_heat, cX11_heat, 3, (some .int), 2, false, 0, 0, 529), (11, yX11_point, cX11_point, 3, (some .int), 2, false, 0, 0, 541), (11, yX11_coat, cX11_coat, 5, (some .int), 4, false, 0, 0, 549), (11, yX11_sun, cX11_sun, 3, (some .int), 2, false, 0, 0, 553), (11, yX11_face, cX11_face, 4, (some .int), 2, false, 0, 0, 557), (11, yX11_joint, cX11_joint, 4, (some .int), 3, false, 0, 0, 588), (11, yX11_pipe, cX11_pipe, 4, (some .int), 3, false, 0, 0, 604), (11, yX11_frozen, cX11_frozen, 3, (some .int), 2, false, 0, 0, 608), (11, yX11_box, cX11_box, 3, (some .int), 2, false, 0, 0, 612), (11, yX11_works, cX11_works, 3, (some .int), 2, false, 0, 0, 628), (11, yX11_heater, cX11_heater, 3, (some .int), 2, false, 0, 0, 632), (11, yX11_flap, cX11_flap, 2, (some .int), 1, false, 0, 0, 636), (11, yX11_state, cX11_state, 5, (some .int), 3, false, 0, 0, 640), (11, yX11_feed, cX11_feed, 4, (some .int), 2, false, 0, 0, 645)]
theorem mck_4 : ∀ q ∈ mis_4, tables_1[q.2.2.2.2.2.2.2.2.2]? = some (.code q.2.1 q.2.2.1 q.2.2.2.1 q.2.2.2.2.1) := List.forall_mem_cons.mpr ⟨mcd_76, List.forall_mem_cons.mpr ⟨mcd_77, List.forall_mem_cons.mpr ⟨mcd_78, List.forall_mem_cons.mpr ⟨mcd_79, List.forall_mem_cons.mpr ⟨mcd_80, List.forall_mem_cons.mpr ⟨mcd_81, List.forall_mem_cons.mpr ⟨mcd_82, List.forall_mem_cons.mpr ⟨mcd_83, List.forall_mem_cons.mpr ⟨mcd_84, List.forall_mem_cons.mpr ⟨mcd_85, List.forall_mem_cons.mpr ⟨mcd_86, List.forall_mem_cons.mpr ⟨mcd_87, List.forall_mem_cons.mpr ⟨mcd_88, List.forall_mem_cons.mpr ⟨mcd_89, List.forall_mem_cons.mpr ⟨mcd_90, List.forall_mem_cons.mpr ⟨mcd_91, List.forall_mem_cons.mpr ⟨mcd_92, List.forall_mem_cons.mpr ⟨mcd_93, List.forall_mem_cons.mpr ⟨mcd_94, fun _ h => absurd h List.not_mem_nil⟩⟩⟩⟩⟩⟩⟩⟩⟩⟩⟩⟩⟩⟩⟩⟩⟩⟩⟩
def mis_5 : List MI := [(11, yX11_text, cX11_text, 2, (some .int), 0, false, 0, 0, 654), (11, yX11_year, cX11_year, 3, (some .int), 1, false, 0, 0, 713), (11, yX11_ticks, cX11_ticks, 3, (some .int), 1, false, 0, 0, 717), (11, yX11_of, cX11_of, 3, (some .int), 2, false, 0, 0, 792), (11, yX11_sum, cX11_sum, 2, (some .long), 1, false, 0, 0, 797), (11, yX11_rest, cX11_rest, 3, (some .int), 2, false, 0, 0, 801), (11, yX11_rests, cX11_rests, 7, (some .int), 2, false, 0, 0, 857), (11, yX11_span, cX11_span, 3, (some .int), 2, false, 0, 0, 872), (11, yX11_worst, cX11_worst, 4, (some .int), 3, false, 0, 0, 876), (11, yX11_repeat, cX11_repeat, 2, (some .int), 1, false, 0, 0, 884), (11, yX11_age, cX11_age, 6, (some .int), 4, false, 0, 0, 910), (11, yX11_bolt, cX11_bolt, 6, (some .int), 4, false, 0, 0, 914), (11, yX11_matters, cX11_matters, 8, (some .int), 2, false, 0, 0, 924), (11, yX11_test, cX11_test, 6, (some .int), 5, false, 0, 0, 931), (11, yX11_fits, cX11_fits, 7, (some .int), 2, false, 0, 0, 939), (11, yX11_place, cX11_place, 10, (some .int), 4, false, 0, 0, 956), (11, yX11_marks, cX11_marks, 4, (some .int), 3, false, 0, 0, 978), (11, yX11_fails, cX11_fails, 7, (some .int), 3, false, 0, 0, 982), (11, yX11_freeze, cX11_freeze, 3, (some .int), 1, false, 0, 0, 986)]
theorem mck_5 : ∀ q ∈ mis_5, tables_1[q.2.2.2.2.2.2.2.2.2]? = some (.code q.2.1 q.2.2.1 q.2.2.2.1 q.2.2.2.2.1) := List.forall_mem_cons.mpr ⟨mcd_95, List.forall_mem_cons.mpr ⟨mcd_96, List.forall_mem_cons.mpr ⟨mcd_97, List.forall_mem_cons.mpr ⟨mcd_98, List.forall_mem_cons.mpr ⟨mcd_99, List.forall_mem_cons.mpr ⟨mcd_100, List.forall_mem_cons.mpr ⟨mcd_101, List.forall_mem_cons.mpr ⟨mcd_102, List.forall_mem_cons.mpr ⟨mcd_103, List.forall_mem_cons.mpr ⟨mcd_104, List.forall_mem_cons.mpr ⟨mcd_105, List.forall_mem_cons.mpr ⟨mcd_106, List.forall_mem_cons.mpr ⟨mcd_107, List.forall_mem_cons.mpr ⟨mcd_108, List.forall_mem_cons.mpr ⟨mcd_109, List.forall_mem_cons.mpr ⟨mcd_110, List.forall_mem_cons.mpr ⟨mcd_111, List.forall_mem_cons.mpr ⟨mcd_112, List.forall_mem_cons.mpr ⟨mcd_113, fun _ h => absurd h List.not_mem_nil⟩⟩⟩⟩⟩⟩⟩⟩⟩⟩⟩⟩⟩⟩⟩⟩⟩⟩⟩
def mis_6 : List MI := [(11, yX11_thaws, cX11_thaws, 5, (some .int), 2, false, 0, 0, 990), (11, yX11_thaw, cX11_thaw, 5, (some .int), 1, false, 0, 0, 998), (11, yX11_work, cX11_work, 2, (some .int), 1, false, 0, 0, 1002), (11, yX11_share, cX11_share, 8, (some .int), 4, false, 0, 0, 1019), (11, yX11_undo, cX11_undo, 1, (some .int), 0, false, 0, 0, 1028), (11, yX11_redo, cX11_redo, 1, (some .int), 0, false, 0, 0, 1036), (11, yX11_count, cX11_count, 2, (some .int), 1, false, 0, 0, 1044), (11, yX11_refuse, cX11_refuse, 2, (some .int), 1, false, 0, 0, 521), (11, yX11_refuseStarred, cX11_refuseStarred, 2, (some .int), 1, false, 0, 0, 918), (11, yX11_outside, cX11_outside, 2, (some .boolean), 2, true, 0, 0, 517), (11, yX11_noPlate, cX11_noPlate, 2, (some .boolean), 1, false, 0, 0, 533), (11, yX11_strangers, cX11_strangers, 2, (some .boolean), 2, true, 0, 0, 959), (11, yX11_swap, cX11_swap, 4, (some .int), 3, true, 0, 0, 537), (11, yX11_link, cX11_link, 5, (some .int), 4, false, 0, 0, 592), (11, yX11_maker, cX11_maker, 5, (some .int), 4, false, 0, 0, 616), (11, yX11_freeHeaters, cX11_freeHeaters, 3, (some .int), 0, false, 0, 0, 861), (11, yX11_toldAlike, cX11_toldAlike, 6, (some .boolean), 3, false, 0, 0, 867), (11, yX11_allTrialsFit, cX11_allTrialsFit, 3, (some .boolean), 0, false, 0, 0, 952), (11, yX11_added, cX11_added, 6, (some .int), 4, false, 0, 0, 1023)]
theorem mck_6 : ∀ q ∈ mis_6, tables_1[q.2.2.2.2.2.2.2.2.2]? = some (.code q.2.1 q.2.2.1 q.2.2.2.1 q.2.2.2.2.1) := List.forall_mem_cons.mpr ⟨mcd_114, List.forall_mem_cons.mpr ⟨mcd_115, List.forall_mem_cons.mpr ⟨mcd_116, List.forall_mem_cons.mpr ⟨mcd_117, List.forall_mem_cons.mpr ⟨mcd_118, List.forall_mem_cons.mpr ⟨mcd_119, List.forall_mem_cons.mpr ⟨mcd_120, List.forall_mem_cons.mpr ⟨mcd_121, List.forall_mem_cons.mpr ⟨mcd_122, List.forall_mem_cons.mpr ⟨mcd_123, List.forall_mem_cons.mpr ⟨mcd_124, List.forall_mem_cons.mpr ⟨mcd_125, List.forall_mem_cons.mpr ⟨mcd_126, List.forall_mem_cons.mpr ⟨mcd_127, List.forall_mem_cons.mpr ⟨mcd_128, List.forall_mem_cons.mpr ⟨mcd_129, List.forall_mem_cons.mpr ⟨mcd_130, List.forall_mem_cons.mpr ⟨mcd_131, List.forall_mem_cons.mpr ⟨mcd_132, fun _ h => absurd h List.not_mem_nil⟩⟩⟩⟩⟩⟩⟩⟩⟩⟩⟩⟩⟩⟩⟩⟩⟩⟩⟩
def mis_7 : List MI := [(12, yX12_init, cX12_init, 2, none, 0, false, 54, 2956, 1049), (12, yX12_within, cX12_within, 3, (some .boolean), 3, true, 0, 0, 1338), (12, yX12_refuse, cX12_refuse, 2, (some .int), 1, false, 0, 0, 1342), (12, yX12_isPlate, cX12_isPlate, 2, (some .boolean), 1, false, 0, 0, 1350), (12, yX12_isHour, cX12_isHour, 1, (some .boolean), 1, true, 0, 0, 1369), (12, yX12_isYear, cX12_isYear, 1, (some .boolean), 1, true, 0, 0, 1362), (12, yX12_plate, cX12_plate, 4, (some .int), 3, false, 0, 0, 1335), (12, yX12_heat, cX12_heat, 4, (some .int), 2, false, 0, 0, 1346), (12, yX12_point, cX12_point, 4, (some .int), 2, false, 0, 0, 1355), (12, yX12_coat, cX12_coat, 7, (some .int), 4, false, 0, 0, 1359), (12, yX12_sun, cX12_sun, 4, (some .int), 2, false, 0, 0, 1366), (12, yX12_valueOf, cX12_valueOf, 3, (some .int), 2, false, 0, 0, 1393), (12, yX12_become, cX12_become, 4, none, 3, false, 0, 0, 1377), (12, yX12_act, cX12_act, 6, none, 3, false, 0, 0, 1389), (12, yX12_forget, cX12_forget, 1, none, 0, false, 0, 0, 1530), (12, yX12_undo, cX12_undo, 1, (some .int), 0, false, 0, 0, 1373), (12, yX12_redo, cX12_redo, 1, (some .int), 0, false, 0, 0, 1381), (12, yX12_face, cX12_face, 4, (some .int), 2, false, 0, 0, 1385), (12, yX12_noWay, cX12_noWay, 6, (some .int), 5, false, 0, 0, 1401)]
theorem mck_7 : ∀ q ∈ mis_7, tables_1[q.2.2.2.2.2.2.2.2.2]? = some (.code q.2.1 q.2.2.1 q.2.2.2.1 q.2.2.2.2.1) := List.forall_mem_cons.mpr ⟨mcd_133, List.forall_mem_cons.mpr ⟨mcd_134, List.forall_mem_cons.mpr ⟨mcd_135, List.forall_mem_cons.mpr ⟨mcd_136, List.forall_mem_cons.mpr ⟨mcd_137, List.forall_mem_cons.mpr ⟨mcd_138, List.forall_mem_cons.mpr ⟨mcd_139, List.forall_mem_cons.mpr ⟨mcd_140, List.forall_mem_cons.mpr ⟨mcd_141, List.forall_mem_cons.mpr ⟨mcd_142, List.forall_mem_cons.mpr ⟨mcd_143, List.forall_mem_cons.mpr ⟨mcd_144, List.forall_mem_cons.mpr ⟨mcd_145, List.forall_mem_cons.mpr ⟨mcd_146, List.forall_mem_cons.mpr ⟨mcd_147, List.forall_mem_cons.mpr ⟨mcd_148, List.forall_mem_cons.mpr ⟨mcd_149, List.forall_mem_cons.mpr ⟨mcd_150, List.forall_mem_cons.mpr ⟨mcd_151, fun _ h => absurd h List.not_mem_nil⟩⟩⟩⟩⟩⟩⟩⟩⟩⟩⟩⟩⟩⟩⟩⟩⟩⟩⟩
def mis_8 : List MI := [(12, yX12_joint, cX12_joint, 5, (some .int), 3, false, 0, 0, 1397), (12, yX12_pipe, cX12_pipe, 5, (some .int), 3, false, 0, 0, 1405), (12, yX12_frozen, cX12_frozen, 3, (some .int), 2, false, 0, 0, 1409), (12, yX12_box, cX12_box, 3, (some .int), 2, false, 0, 0, 1413), (12, yX12_works, cX12_works, 3, (some .int), 2, false, 0, 0, 1417), (12, yX12_heater, cX12_heater, 3, (some .int), 2, false, 0, 0, 1421), (12, yX12_isHeater, cX12_isHeater, 2, (some .boolean), 1, false, 0, 0, 1433), (12, yX12_flap, cX12_flap, 2, (some .int), 1, false, 0, 0, 1425), (12, yX12_state, cX12_state, 5, (some .int), 3, false, 0, 0, 1429), (12, yX12_feed, cX12_feed, 5, (some .int), 2, false, 0, 0, 1437), (12, yX12_byteAt, cX12_byteAt, 1, (some .int), 0, false, 0, 0, 1446), (12, yX12_wrong, cX12_wrong, 1, none, 0, false, 0, 0, 1450), (12, yX12_takes, cX12_takes, 2, (some .boolean), 1, false, 0, 0, 1458), (12, yX12_isDigit, cX12_isDigit, 1, (some .boolean), 0, false, 0, 0, 1454), (12, yX12_test, cX12_test, 3, (some .boolean), 0, false, 0, 0, 1466), (12, yX12_term, cX12_term, 3, (some .boolean), 0, false, 0, 0, 1470), (12, yX12_part, cX12_part, 5, (some .boolean), 0, false, 0, 0, 1474), (12, yX12_fact, cX12_fact, 2, (some .int), 0, false, 0, 0, 1478), (12, yX12_number, cX12_number, 3, (some .int), 0, false, 0, 0, 1482)]
theorem mck_8 : ∀ q ∈ mis_8, tables_1[q.2.2.2.2.2.2.2.2.2]? = some (.code q.2.1 q.2.2.1 q.2.2.2.1 q.2.2.2.2.1) := List.forall_mem_cons.mpr ⟨mcd_152, List.forall_mem_cons.mpr ⟨mcd_153, List.forall_mem_cons.mpr ⟨mcd_154, List.forall_mem_cons.mpr ⟨mcd_155, List.forall_mem_cons.mpr ⟨mcd_156, List.forall_mem_cons.mpr ⟨mcd_157, List.forall_mem_cons.mpr ⟨mcd_158, List.forall_mem_cons.mpr ⟨mcd_159, List.forall_mem_cons.mpr ⟨mcd_160, List.forall_mem_cons.mpr ⟨mcd_161, List.forall_mem_cons.mpr ⟨mcd_162, List.forall_mem_cons.mpr ⟨mcd_163, List.forall_mem_cons.mpr ⟨mcd_164, List.forall_mem_cons.mpr ⟨mcd_165, List.forall_mem_cons.mpr ⟨mcd_166, List.forall_mem_cons.mpr ⟨mcd_167, List.forall_mem_cons.mpr ⟨mcd_168, List.forall_mem_cons.mpr ⟨mcd_169, List.forall_mem_cons.mpr ⟨mcd_170, fun _ h => absurd h List.not_mem_nil⟩⟩⟩⟩⟩⟩⟩⟩⟩⟩⟩⟩⟩⟩⟩⟩⟩⟩⟩
def mis_9 : List MI := [(12, yX12_cases, cX12_cases, 3, none, 0, false, 0, 0, 1462), (12, yX12_text, cX12_text, 6, (some .int), 0, false, 0, 0, 1442), (12, yX12_toldBy, cX12_toldBy, 2, (some .int), 1, false, 0, 0, 1502), (12, yX12_year, cX12_year, 3, (some .int), 1, false, 0, 0, 1486), (12, yX12_warmthOf, cX12_warmthOf, 3, (some .int), 1, false, 0, 0, 1498), (12, yX12_sendingAt, cX12_sendingAt, 3, (some .int), 1, false, 0, 0, 1522), (12, yX12_layOut, cX12_layOut, 3, none, 1, false, 0, 0, 1506), (12, yX12_takesOf, cX12_takesOf, 2, (some .int), 1, false, 0, 0, 1510), (12, yX12_makesOf, cX12_makesOf, 4, (some .int), 1, false, 0, 0, 1514), (12, yX12_sendsOf, cX12_sendsOf, 4, (some .int), 1, false, 0, 0, 1518), (12, yX12_ledTo, cX12_ledTo, 5, (some .int), 1, false, 0, 0, 1526), (12, yX12_tick, cX12_tick, 7, none, 0, false, 0, 0, 1494), (12, yX12_ticks, cX12_ticks, 3, (some .int), 1, false, 0, 0, 1490), (12, yX12_of, cX12_of, 3, (some .int), 2, false, 0, 0, 1534), (12, yX12_sum, cX12_sum, 2, (some .long), 1, false, 0, 0, 1538), (12, yX12_findRest, cX12_findRest, 3, none, 0, false, 0, 0, 1550), (12, yX12_restOf, cX12_restOf, 2, (some .int), 1, false, 0, 0, 1546), (12, yX12_rest, cX12_rest, 3, (some .int), 2, false, 0, 0, 1542), (12, yX12_isRuled, cX12_isRuled, 2, (some .boolean), 1, false, 0, 0, 1562)]
theorem mck_9 : ∀ q ∈ mis_9, tables_1[q.2.2.2.2.2.2.2.2.2]? = some (.code q.2.1 q.2.2.1 q.2.2.2.1 q.2.2.2.2.1) := List.forall_mem_cons.mpr ⟨mcd_171, List.forall_mem_cons.mpr ⟨mcd_172, List.forall_mem_cons.mpr ⟨mcd_173, List.forall_mem_cons.mpr ⟨mcd_174, List.forall_mem_cons.mpr ⟨mcd_175, List.forall_mem_cons.mpr ⟨mcd_176, List.forall_mem_cons.mpr ⟨mcd_177, List.forall_mem_cons.mpr ⟨mcd_178, List.forall_mem_cons.mpr ⟨mcd_179, List.forall_mem_cons.mpr ⟨mcd_180, List.forall_mem_cons.mpr ⟨mcd_181, List.forall_mem_cons.mpr ⟨mcd_182, List.forall_mem_cons.mpr ⟨mcd_183, List.forall_mem_cons.mpr ⟨mcd_184, List.forall_mem_cons.mpr ⟨mcd_185, List.forall_mem_cons.mpr ⟨mcd_186, List.forall_mem_cons.mpr ⟨mcd_187, List.forall_mem_cons.mpr ⟨mcd_188, List.forall_mem_cons.mpr ⟨mcd_189, fun _ h => absurd h List.not_mem_nil⟩⟩⟩⟩⟩⟩⟩⟩⟩⟩⟩⟩⟩⟩⟩⟩⟩⟩⟩
def mis_10 : List MI := [(12, yX12_isRest, cX12_isRest, 7, (some .boolean), 2, false, 0, 0, 1558), (12, yX12_rests, cX12_rests, 5, (some .int), 2, false, 0, 0, 1554), (12, yX12_span, cX12_span, 4, (some .int), 2, false, 0, 0, 1566), (12, yX12_worstOf, cX12_worstOf, 6, (some .int), 4, false, 0, 0, 1574), (12, yX12_worst, cX12_worst, 4, (some .int), 3, false, 0, 0, 1570), (12, yX12_nowAt, cX12_nowAt, 2, (some .int), 1, false, 0, 0, 1586), (12, yX12_save, cX12_save, 2, none, 0, false, 0, 0, 1582), (12, yX12_putBack, cX12_putBack, 2, none, 0, false, 0, 0, 1594), (12, yX12_areAlike, cX12_areAlike, 5, (some .boolean), 2, false, 0, 0, 1590), (12, yX12_repeat, cX12_repeat, 5, (some .int), 1, false, 0, 0, 1578), (12, yX12_age, cX12_age, 6, (some .int), 4, false, 0, 0, 1598), (12, yX12_changeBy, cX12_changeBy, 6, (some .int), 4, false, 0, 0, 1607), (12, yX12_bolt, cX12_bolt, 6, (some .int), 4, false, 0, 0, 1602), (12, yX12_matters, cX12_matters, 7, (some .int), 2, false, 0, 0, 1611), (12, yX12_test_, cX12_test_, 6, (some .int), 5, false, 0, 0, 1615), (12, yX12_canBalance, cX12_canBalance, 2, (some .int), 1, false, 0, 0, 1627), (12, yX12_canRest, cX12_canRest, 6, (some .int), 3, false, 0, 0, 1623), (12, yX12_fits, cX12_fits, 10, (some .int), 2, false, 0, 0, 1619), (12, yX12_countOf, cX12_countOf, 3, (some .int), 1, true, 0, 0, 1634)]
theorem mck_10 : ∀ q ∈ mis_10, tables_1[q.2.2.2.2.2.2.2.2.2]? = some (.code q.2.1 q.2.2.1 q.2.2.2.1 q.2.2.2.2.1) := List.forall_mem_cons.mpr ⟨mcd_190, List.forall_mem_cons.mpr ⟨mcd_191, List.forall_mem_cons.mpr ⟨mcd_192, List.forall_mem_cons.mpr ⟨mcd_193, List.forall_mem_cons.mpr ⟨mcd_194, List.forall_mem_cons.mpr ⟨mcd_195, List.forall_mem_cons.mpr ⟨mcd_196, List.forall_mem_cons.mpr ⟨mcd_197, List.forall_mem_cons.mpr ⟨mcd_198, List.forall_mem_cons.mpr ⟨mcd_199, List.forall_mem_cons.mpr ⟨mcd_200, List.forall_mem_cons.mpr ⟨mcd_201, List.forall_mem_cons.mpr ⟨mcd_202, List.forall_mem_cons.mpr ⟨mcd_203, List.forall_mem_cons.mpr ⟨mcd_204, List.forall_mem_cons.mpr ⟨mcd_205, List.forall_mem_cons.mpr ⟨mcd_206, List.forall_mem_cons.mpr ⟨mcd_207, List.forall_mem_cons.mpr ⟨mcd_208, fun _ h => absurd h List.not_mem_nil⟩⟩⟩⟩⟩⟩⟩⟩⟩⟩⟩⟩⟩⟩⟩⟩⟩⟩⟩
def mis_11 : List MI := [(12, yX12_places, cX12_places, 5, none, 2, false, 0, 0, 1638), (12, yX12_place, cX12_place, 6, (some .int), 4, false, 0, 0, 1631), (12, yX12_marks, cX12_marks, 4, (some .int), 3, false, 0, 0, 1642), (12, yX12_fails, cX12_fails, 5, (some .int), 3, false, 0, 0, 1646), (12, yX12_freeze, cX12_freeze, 3, (some .int), 1, false, 0, 0, 1650), (12, yX12_findThaw, cX12_findThaw, 5, none, 1, false, 0, 0, 1658), (12, yX12_thaws, cX12_thaws, 3, (some .int), 2, false, 0, 0, 1654), (12, yX12_thaw, cX12_thaw, 3, (some .int), 1, false, 0, 0, 1662), (12, yX12_work, cX12_work, 6, (some .int), 1, false, 0, 0, 1666), (12, yX12_restBy, cX12_restBy, 5, (some .int), 3, false, 0, 0, 1674), (12, yX12_share, cX12_share, 9, (some .int), 4, false, 0, 0, 1670), (12, yX12_count, cX12_count, 2, (some .int), 1, false, 0, 0, 1678), (13, yJ6_compare_7cf53, cJ6_compare_7cf53, 2, (some .int), 2, true, 0, 0, 747), (13, yJ6_bitCount_0f7a4, cJ6_bitCount_0f7a4, 1, (some .int), 1, true, 0, 0, 962), (14, yJ9_abs_0f7a4, cJ9_abs_0f7a4, 1, (some .int), 1, true, 0, 0, 927), (14, yJ9_max_7cf53, cJ9_max_7cf53, 2, (some .int), 2, true, 0, 0, 784), (14, yJ9_min_7cf53, cJ9_min_7cf53, 2, (some .int), 2, true, 0, 0, 728), (16, yJ7_fill_53178, cJ7_fill_53178, 4, none, 2, true, 0, 0, 173)]
theorem mck_11 : ∀ q ∈ mis_11, tables_1[q.2.2.2.2.2.2.2.2.2]? = some (.code q.2.1 q.2.2.1 q.2.2.2.1 q.2.2.2.2.1) := List.forall_mem_cons.mpr ⟨mcd_209, List.forall_mem_cons.mpr ⟨mcd_210, List.forall_mem_cons.mpr ⟨mcd_211, List.forall_mem_cons.mpr ⟨mcd_212, List.forall_mem_cons.mpr ⟨mcd_213, List.forall_mem_cons.mpr ⟨mcd_214, List.forall_mem_cons.mpr ⟨mcd_215, List.forall_mem_cons.mpr ⟨mcd_216, List.forall_mem_cons.mpr ⟨mcd_217, List.forall_mem_cons.mpr ⟨mcd_218, List.forall_mem_cons.mpr ⟨mcd_219, List.forall_mem_cons.mpr ⟨mcd_220, List.forall_mem_cons.mpr ⟨mcd_221, List.forall_mem_cons.mpr ⟨mcd_222, List.forall_mem_cons.mpr ⟨mcd_223, List.forall_mem_cons.mpr ⟨mcd_224, List.forall_mem_cons.mpr ⟨mcd_225, List.forall_mem_cons.mpr ⟨mcd_226, fun _ h => absurd h List.not_mem_nil⟩⟩⟩⟩⟩⟩⟩⟩⟩⟩⟩⟩⟩⟩⟩⟩⟩⟩
def misA : List MI := mis_0 ++ (mis_1 ++ (mis_2 ++ (mis_3 ++ (mis_4 ++ (mis_5 ++ (mis_6 ++ (mis_7 ++ (mis_8 ++ (mis_9 ++ (mis_10 ++ (mis_11 ++ ([]))))))))))))
theorem mckA : ∀ q ∈ misA, tables_1[q.2.2.2.2.2.2.2.2.2]? = some (.code q.2.1 q.2.2.1 q.2.2.2.1 q.2.2.2.2.1) := List.forall_mem_append.mpr ⟨mck_0, List.forall_mem_append.mpr ⟨mck_1, List.forall_mem_append.mpr ⟨mck_2, List.forall_mem_append.mpr ⟨mck_3, List.forall_mem_append.mpr ⟨mck_4, List.forall_mem_append.mpr ⟨mck_5, List.forall_mem_append.mpr ⟨mck_6, List.forall_mem_append.mpr ⟨mck_7, List.forall_mem_append.mpr ⟨mck_8, List.forall_mem_append.mpr ⟨mck_9, List.forall_mem_append.mpr ⟨mck_10, List.forall_mem_append.mpr ⟨mck_11, fun _ h => absurd h List.not_mem_nil⟩⟩⟩⟩⟩⟩⟩⟩⟩⟩⟩⟩
set_option maxRecDepth 100000 in
theorem misA_eq : mis.take 227 = misA := rfl
theorem met_code {μ : Nat} (hμ : μ < 227) : tables_1[(mi μ).2.2.2.2.2.2.2.2.2]? = some (.code (mY μ) (mC μ) (mL μ) (mR μ)) := by
  have h2 : μ < mis.length := by rw [mis_len]; omega
  have e : mi μ = mis[μ] := by unfold mi; rw [List.getD_eq_getElem?_getD, List.getElem?_eq_getElem h2]; rfl
  have hm : mi μ ∈ misA := by
    rw [← misA_eq, e]
    refine List.mem_of_getElem? (i := μ) ?_
    rw [List.getElem?_take_of_lt hμ]
    exact List.getElem?_eq_getElem h2
  exact mckA _ hm
