set_option maxRecDepth 100000 in
theorem mt_1 : Mok D_1 := kt_met (i := 161) (j := 128) rfl (by decide +kernel)
set_option maxRecDepth 100000 in
theorem mt_2 : Mok D_2 := kt_met (i := 515) (j := 128) rfl (by decide +kernel)
set_option maxRecDepth 100000 in
theorem mt_3 : Mok D_3 := kt_met (i := 500) (j := 128) rfl (by decide +kernel)
set_option maxRecDepth 100000 in
theorem mt_4 : Mok D_4 := kt_met (i := 1274) (j := 128) rfl (by decide +kernel)
set_option maxRecDepth 100000 in
theorem mt_5 : Mok D_5 := kt_met (i := 1296) (j := 128) rfl (by decide +kernel)
set_option maxRecDepth 100000 in
theorem mt_6 : Mok D_6 := kt_met (i := 1432) (j := 128) rfl (by decide +kernel)
set_option maxRecDepth 100000 in
theorem mt_7 : Mok D_7 := kt_met (i := 827) (j := 128) rfl (by decide +kernel)
set_option maxRecDepth 100000 in
theorem mt_8 : Mok D_8 := kt_met (i := 815) (j := 128) rfl (by decide +kernel)
set_option maxRecDepth 100000 in
theorem mt_9 : Mok D_9 := kt_met (i := 838) (j := 128) rfl (by decide +kernel)
set_option maxRecDepth 100000 in
theorem mt_10 : Mok D_10 := kt_met (i := 812) (j := 128) rfl (by decide +kernel)
set_option maxRecDepth 100000 in
theorem mt_11 : Mok D_11 := kt_met (i := 842) (j := 128) rfl (by decide +kernel)
set_option maxRecDepth 100000 in
theorem mt_12 : Mok D_12 := kt_met (i := 1064) (j := 128) rfl (by decide +kernel)
set_option maxRecDepth 100000 in
theorem mt_13 : Mok D_13 := kt_met (i := 1024) (j := 128) rfl (by decide +kernel)
set_option maxRecDepth 100000 in
theorem mt_14 : Mok D_14 := kt_met (i := 852) (j := 128) rfl (by decide +kernel)
set_option maxRecDepth 100000 in
theorem mt_15 : Mok D_15 := kt_met (i := 996) (j := 128) rfl (by decide +kernel)
set_option maxRecDepth 100000 in
theorem mt_16 : Mok D_16 := kt_met (i := 442) (j := 128) rfl (by decide +kernel)
set_option maxRecDepth 100000 in
theorem mt_17 : Mok D_17 := kt_met (i := 1220) (j := 128) rfl (by decide +kernel)
set_option maxRecDepth 100000 in
theorem mt_18 : Mok D_18 := kt_met (i := 1224) (j := 128) rfl (by decide +kernel)
set_option maxRecDepth 100000 in
theorem mt_19 : Mok D_19 := kt_met (i := 798) (j := 128) rfl (by decide +kernel)
set_option maxRecDepth 100000 in
theorem mt_20 : Mok D_20 := kt_met (i := 1340) (j := 128) rfl (by decide +kernel)
set_option maxRecDepth 100000 in
theorem mt_21 : Mok D_21 := kt_met (i := 834) (j := 128) rfl (by decide +kernel)
set_option maxRecDepth 100000 in
theorem mt_22 : Mok D_22 := kt_met (i := 1101) (j := 128) rfl (by decide +kernel)
set_option maxRecDepth 100000 in
theorem mt_23 : Mok D_23 := kt_met (i := 488) (j := 128) rfl (by decide +kernel)
set_option maxRecDepth 100000 in
theorem mt_24 : Mok D_24 := kt_met (i := 492) (j := 128) rfl (by decide +kernel)
set_option maxRecDepth 100000 in
theorem mt_25 : Mok D_25 := kt_met (i := 1021) (j := 128) rfl (by decide +kernel)
set_option maxRecDepth 100000 in
theorem mt_26 : Mok D_26 := kt_met (i := 1212) (j := 128) rfl (by decide +kernel)
set_option maxRecDepth 100000 in
theorem mt_27 : Mok D_27 := kt_met (i := 1239) (j := 128) rfl (by decide +kernel)
set_option maxRecDepth 100000 in
theorem mt_28 : Mok D_28 := kt_met (i := 1267) (j := 128) rfl (by decide +kernel)
set_option maxRecDepth 100000 in
theorem mt_29 : Mok D_29 := kt_met (i := 1243) (j := 128) rfl (by decide +kernel)
set_option maxRecDepth 100000 in
theorem mt_30 : Mok D_30 := kt_met (i := 791) (j := 128) rfl (by decide +kernel)
set_option maxRecDepth 100000 in
theorem mt_31 : Mok D_31 := kt_met (i := 1388) (j := 128) rfl (by decide +kernel)
set_option maxRecDepth 100000 in
theorem mt_32 : Mok D_32 := kt_met (i := 823) (j := 128) rfl (by decide +kernel)
set_option maxRecDepth 100000 in
theorem mt_33 : Mok D_33 := kt_met (i := 1077) (j := 128) rfl (by decide +kernel)
set_option maxRecDepth 100000 in
theorem mt_34 : Mok D_34 := kt_met (i := 1097) (j := 128) rfl (by decide +kernel)
set_option maxRecDepth 100000 in
theorem mt_35 : Mok D_35 := kt_met (i := 1208) (j := 128) rfl (by decide +kernel)
set_option maxRecDepth 100000 in
theorem mt_36 : Mok D_36 := kt_met (i := 808) (j := 128) rfl (by decide +kernel)
set_option maxRecDepth 100000 in
theorem mt_37 : Mok D_37 := kt_met (i := 1416) (j := 128) rfl (by decide +kernel)
set_option maxRecDepth 100000 in
theorem mt_38 : Mok D_38 := kt_met (i := 1278) (j := 128) rfl (by decide +kernel)
set_option maxRecDepth 100000 in
theorem mt_39 : Mok D_39 := kt_met (i := 619) (j := 128) rfl (by decide +kernel)
set_option maxRecDepth 100000 in
theorem mt_40 : Mok D_40 := kt_met (i := 1293) (j := 128) rfl (by decide +kernel)
set_option maxRecDepth 100000 in
theorem mt_41 : Mok D_41 := kt_met (i := 1332) (j := 128) rfl (by decide +kernel)
set_option maxRecDepth 100000 in
theorem mt_42 : Mok D_42 := kt_met (i := 496) (j := 128) rfl (by decide +kernel)
set_option maxRecDepth 100000 in
theorem mt_43 : Mok D_43 := kt_met (i := 1060) (j := 128) rfl (by decide +kernel)
set_option maxRecDepth 100000 in
theorem mt_44 : Mok D_44 := kt_met (i := 1232) (j := 128) rfl (by decide +kernel)
set_option maxRecDepth 100000 in
theorem mt_45 : Mok D_45 := kt_met (i := 1399) (j := 128) rfl (by decide +kernel)
set_option maxRecDepth 100000 in
theorem mt_46 : Mok D_46 := kt_met (i := 1305) (j := 128) rfl (by decide +kernel)
set_option maxRecDepth 100000 in
theorem mt_47 : Mok D_47 := kt_met (i := 1309) (j := 128) rfl (by decide +kernel)
set_option maxRecDepth 100000 in
theorem mt_48 : Mok D_48 := kt_met (i := 1370) (j := 128) rfl (by decide +kernel)
set_option maxRecDepth 100000 in
theorem mt_49 : Mok D_49 := kt_met (i := 1347) (j := 128) rfl (by decide +kernel)
set_option maxRecDepth 100000 in
theorem mt_50 : Mok D_50 := kt_met (i := 1392) (j := 128) rfl (by decide +kernel)
set_option maxRecDepth 100000 in
theorem mt_51 : Mok D_51 := kt_met (i := 884) (j := 128) rfl (by decide +kernel)
set_option maxRecDepth 100000 in
theorem mt_52 : Mok D_52 := kt_met (i := 1355) (j := 128) rfl (by decide +kernel)
set_option maxRecDepth 100000 in
theorem mt_53 : Mok D_53 := kt_met (i := 1428) (j := 128) rfl (by decide +kernel)
set_option maxRecDepth 100000 in
theorem mt_54 : Mok D_54 := kt_met (i := 504) (j := 128) rfl (by decide +kernel)
set_option maxRecDepth 100000 in
theorem mt_55 : Mok D_55 := kt_met (i := 1439) (j := 128) rfl (by decide +kernel)
set_option maxRecDepth 100000 in
theorem mt_56 : Mok D_56 := kt_met (i := 978) (j := 128) rfl (by decide +kernel)
set_option maxRecDepth 100000 in
theorem mt_57 : Mok D_57 := kt_met (i := 971) (j := 128) rfl (by decide +kernel)
set_option maxRecDepth 100000 in
theorem mt_58 : Mok D_58 := kt_met (i := 985) (j := 128) rfl (by decide +kernel)
set_option maxRecDepth 100000 in
theorem mt_59 : Mok D_59 := kt_met (i := 849) (j := 128) rfl (by decide +kernel)
set_option maxRecDepth 100000 in
theorem mt_60 : Mok D_60 := kt_met (i := 992) (j := 128) rfl (by decide +kernel)
set_option maxRecDepth 100000 in
theorem mt_61 : Mok D_61 := kt_met (i := 1362) (j := 128) rfl (by decide +kernel)
set_option maxRecDepth 100000 in
theorem mt_62 : Mok D_62 := kt_met (i := 1366) (j := 128) rfl (by decide +kernel)
set_option maxRecDepth 100000 in
theorem mt_63 : Mok D_63 := kt_met (i := 1014) (j := 128) rfl (by decide +kernel)
set_option maxRecDepth 100000 in
theorem mt_64 : Mok D_64 := kt_met (i := 1377) (j := 128) rfl (by decide +kernel)
set_option maxRecDepth 100000 in
theorem mt_65 : Mok D_65 := kt_met (i := 1381) (j := 128) rfl (by decide +kernel)
set_option maxRecDepth 100000 in
theorem mt_66 : Mok D_66 := kt_met (i := 1072) (j := 128) rfl (by decide +kernel)
set_option maxRecDepth 100000 in
theorem mt_67 : Mok D_67 := kt_met (i := 595) (j := 128) rfl (by decide +kernel)
set_option maxRecDepth 100000 in
theorem mt_68 : Mok D_68 := kt_met (i := 1005) (j := 128) rfl (by decide +kernel)
set_option maxRecDepth 100000 in
theorem mt_69 : Mok D_69 := kt_met (i := 858) (j := 148) rfl (by decide +kernel)
set_option maxRecDepth 100000 in
theorem mt_70 : Mok D_70 := kt_met (i := 1173) (j := 155) rfl (by decide +kernel)
set_option maxRecDepth 100000 in
theorem mt_71 : Mok D_71 := kt_met (i := 169) (j := 129) rfl (by decide +kernel)
set_option maxRecDepth 100000 in
theorem mt_72 : Mok D_72 := kt_met (i := 454) (j := 129) rfl (by decide +kernel)
set_option maxRecDepth 100000 in
theorem mt_73 : Mok D_73 := kt_met (i := 450) (j := 129) rfl (by decide +kernel)
set_option maxRecDepth 100000 in
theorem mt_74 : Mok D_74 := kt_met (i := 462) (j := 129) rfl (by decide +kernel)
set_option maxRecDepth 100000 in
theorem mt_75 : Mok D_75 := kt_met (i := 446) (j := 129) rfl (by decide +kernel)
set_option maxRecDepth 100000 in
theorem mt_76 : Mok D_76 := kt_met (i := 458) (j := 129) rfl (by decide +kernel)
set_option maxRecDepth 100000 in
theorem mt_77 : Mok D_77 := kt_met (i := 1028) (j := 129) rfl (by decide +kernel)
set_option maxRecDepth 100000 in
theorem mt_78 : Mok D_78 := kt_met (i := 1036) (j := 154) rfl (by decide +kernel)
set_option maxRecDepth 100000 in
theorem mt_79 : Mok D_79 := kt_met (i := 1282) (j := 154) rfl (by decide +kernel)
set_option maxRecDepth 100000 in
theorem mt_80 : Mok D_80 := kt_met (i := 1049) (j := 154) rfl (by decide +kernel)
set_option maxRecDepth 100000 in
theorem mt_81 : Mok D_81 := kt_met (i := 1085) (j := 154) rfl (by decide +kernel)
set_option maxRecDepth 100000 in
theorem mt_82 : Mok D_82 := kt_met (i := 1286) (j := 154) rfl (by decide +kernel)
set_option maxRecDepth 100000 in
theorem mt_83 : Mok D_83 := kt_met (i := 1089) (j := 154) rfl (by decide +kernel)
set_option maxRecDepth 100000 in
theorem mt_84 : Mok D_84 := kt_met (i := 1031) (j := 154) rfl (by decide +kernel)
set_option maxRecDepth 100000 in
theorem mt_85 : Mok D_85 := kt_met (i := 1260) (j := 154) rfl (by decide +kernel)
set_option maxRecDepth 100000 in
theorem mt_86 : Mok D_86 := kt_met (i := 1053) (j := 154) rfl (by decide +kernel)
set_option maxRecDepth 100000 in
theorem mt_87 : Mok D_87 := kt_met (i := 1256) (j := 154) rfl (by decide +kernel)
set_option maxRecDepth 100000 in
theorem mt_88 : Mok D_88 := kt_met (i := 1409) (j := 154) rfl (by decide +kernel)
set_option maxRecDepth 100000 in
theorem mt_89 : Mok D_89 := kt_met (i := 1406) (j := 154) rfl (by decide +kernel)
set_option maxRecDepth 100000 in
theorem mt_90 : Mok D_90 := kt_met (i := 1247) (j := 154) rfl (by decide +kernel)
set_option maxRecDepth 100000 in
theorem mt_91 : Mok D_91 := kt_met (i := 1252) (j := 154) rfl (by decide +kernel)
set_option maxRecDepth 100000 in
theorem mt_92 : Mok D_92 := kt_met (i := 1403) (j := 154) rfl (by decide +kernel)
set_option maxRecDepth 100000 in
theorem mt_93 : Mok D_93 := kt_met (i := 1080) (j := 154) rfl (by decide +kernel)
set_option maxRecDepth 100000 in
theorem mt_94 : Mok D_94 := kt_met (i := 224) (j := 133) rfl (by decide +kernel)
set_option maxRecDepth 100000 in
theorem mt_95 : Mok D_95 := kt_met (i := 767) (j := 133) rfl (by decide +kernel)
set_option maxRecDepth 100000 in
theorem mt_96 : Mok D_96 := kt_met (i := 324) (j := 133) rfl (by decide +kernel)
set_option maxRecDepth 100000 in
theorem mt_97 : Mok D_97 := kt_met (i := 779) (j := 133) rfl (by decide +kernel)
set_option maxRecDepth 100000 in
theorem mt_98 : Mok D_98 := kt_met (i := 375) (j := 135) rfl (by decide +kernel)
set_option maxRecDepth 100000 in
theorem mt_99 : Mok D_99 := kt_met (i := 1117) (j := 135) rfl (by decide +kernel)
set_option maxRecDepth 100000 in
theorem mt_100 : Mok D_100 := kt_met (i := 1129) (j := 135) rfl (by decide +kernel)
set_option maxRecDepth 100000 in
theorem mt_101 : Mok D_101 := kt_met (i := 1125) (j := 135) rfl (by decide +kernel)
set_option maxRecDepth 100000 in
theorem mt_102 : Mok D_102 := kt_met (i := 1163) (j := 135) rfl (by decide +kernel)
set_option maxRecDepth 100000 in
theorem mt_103 : Mok D_103 := kt_met (i := 1133) (j := 135) rfl (by decide +kernel)
set_option maxRecDepth 100000 in
theorem mt_104 : Mok D_104 := kt_met (i := 1168) (j := 135) rfl (by decide +kernel)
set_option maxRecDepth 100000 in
theorem mt_105 : Mok D_105 := kt_met (i := 1420) (j := 135) rfl (by decide +kernel)
set_option maxRecDepth 100000 in
theorem mt_106 : Mok D_106 := kt_met (i := 1109) (j := 135) rfl (by decide +kernel)
set_option maxRecDepth 100000 in
theorem mt_107 : Mok D_107 := kt_met (i := 1105) (j := 135) rfl (by decide +kernel)
set_option maxRecDepth 100000 in
theorem mt_108 : Mok D_108 := kt_met (i := 381) (j := 136) rfl (by decide +kernel)
set_option maxRecDepth 100000 in
theorem mt_109 : Mok D_109 := kt_met (i := 1121) (j := 136) rfl (by decide +kernel)
set_option maxRecDepth 100000 in
theorem mt_110 : Mok D_110 := kt_met (i := 1113) (j := 136) rfl (by decide +kernel)
set_option maxRecDepth 100000 in
theorem mt_111 : Mok D_111 := kt_met (i := 1150) (j := 136) rfl (by decide +kernel)
set_option maxRecDepth 100000 in
theorem mt_112 : Mok D_112 := kt_met (i := 1158) (j := 136) rfl (by decide +kernel)
set_option maxRecDepth 100000 in
theorem mt_113 : Mok D_113 := kt_met (i := 1146) (j := 136) rfl (by decide +kernel)
set_option maxRecDepth 100000 in
theorem mt_114 : Mok D_114 := kt_met (i := 1154) (j := 136) rfl (by decide +kernel)
set_option maxRecDepth 100000 in
theorem mt_115 : Mok D_115 := kt_met (i := 1137) (j := 136) rfl (by decide +kernel)
set_option maxRecDepth 100000 in
theorem mt_116 : Mok D_116 := kt_met (i := 1142) (j := 136) rfl (by decide +kernel)
set_option maxRecDepth 100000 in
theorem mt_117 : Mok D_117 := kt_met (i := 329) (j := 134) rfl (by decide +kernel)
set_option maxRecDepth 100000 in
theorem mt_118 : Mok D_118 := kt_met (i := 587) (j := 134) rfl (by decide +kernel)
set_option maxRecDepth 100000 in
theorem mt_119 : Mok D_119 := kt_met (i := 629) (j := 134) rfl (by decide +kernel)
set_option maxRecDepth 100000 in
theorem mt_120 : Mok D_120 := kt_met (i := 750) (j := 134) rfl (by decide +kernel)
set_option maxRecDepth 100000 in
theorem mt_121 : Mok D_121 := kt_met (i := 736) (j := 134) rfl (by decide +kernel)
set_option maxRecDepth 100000 in
theorem mt_122 : Mok D_122 := kt_met (i := 758) (j := 134) rfl (by decide +kernel)
set_option maxRecDepth 100000 in
theorem mt_123 : Mok D_123 := kt_met (i := 646) (j := 134) rfl (by decide +kernel)
set_option maxRecDepth 100000 in
theorem mt_124 : Mok D_124 := kt_met (i := 771) (j := 134) rfl (by decide +kernel)
set_option maxRecDepth 100000 in
theorem mt_125 : Mok D_125 := kt_met (i := 763) (j := 134) rfl (by decide +kernel)
set_option maxRecDepth 100000 in
theorem mt_126 : Mok D_126 := kt_met (i := 731) (j := 134) rfl (by decide +kernel)
set_option maxRecDepth 100000 in
theorem mt_127 : Mok D_127 := kt_met (i := 740) (j := 134) rfl (by decide +kernel)
set_option maxRecDepth 100000 in
theorem mt_128 : Mok D_128 := kt_met (i := 718) (j := 134) rfl (by decide +kernel)
set_option maxRecDepth 100000 in
theorem mt_129 : Mok D_129 := kt_met (i := 744) (j := 134) rfl (by decide +kernel)
set_option maxRecDepth 100000 in
theorem mt_130 : Mok D_130 := kt_met (i := 783) (j := 134) rfl (by decide +kernel)
set_option maxRecDepth 100000 in
theorem mt_131 : Mok D_131 := kt_met (i := 775) (j := 134) rfl (by decide +kernel)
set_option maxRecDepth 100000 in
theorem mt_132 : Mok D_132 := kt_met (i := 727) (j := 134) rfl (by decide +kernel)
set_option maxRecDepth 100000 in
theorem mt_133 : Mok D_133 := kt_met (i := 637) (j := 134) rfl (by decide +kernel)
set_option maxRecDepth 100000 in
theorem mt_134 : Mok D_134 := kt_met (i := 623) (j := 134) rfl (by decide +kernel)
set_option maxRecDepth 100000 in
theorem mt_135 : Mok D_135 := kt_met (i := 642) (j := 134) rfl (by decide +kernel)
set_option maxRecDepth 100000 in
theorem mt_136 : Mok D_136 := kt_met (i := 698) (j := 134) rfl (by decide +kernel)
set_option maxRecDepth 100000 in
theorem mt_137 : Mok D_137 := kt_met (i := 633) (j := 134) rfl (by decide +kernel)
set_option maxRecDepth 100000 in
theorem mt_138 : Mok D_138 := kt_met (i := 722) (j := 134) rfl (by decide +kernel)
set_option maxRecDepth 100000 in
theorem mt_139 : Mok D_139 := kt_met (i := 510) (j := 127) rfl (by decide +kernel)
set_option maxRecDepth 100000 in
theorem mt_140 : Mok D_140 := kt_met (i := 1270) (j := 127) rfl (by decide +kernel)
set_option maxRecDepth 100000 in
theorem mt_141 : Mok D_141 := kt_met (i := 1216) (j := 127) rfl (by decide +kernel)
set_option maxRecDepth 100000 in
theorem mt_142 : Mok D_142 := kt_met (i := 794) (j := 127) rfl (by decide +kernel)
set_option maxRecDepth 100000 in
theorem mt_143 : Mok D_143 := kt_met (i := 1336) (j := 127) rfl (by decide +kernel)
set_option maxRecDepth 100000 in
theorem mt_144 : Mok D_144 := kt_met (i := 830) (j := 127) rfl (by decide +kernel)
set_option maxRecDepth 100000 in
theorem mt_145 : Mok D_145 := kt_met (i := 1017) (j := 127) rfl (by decide +kernel)
set_option maxRecDepth 100000 in
theorem mt_146 : Mok D_146 := kt_met (i := 1235) (j := 127) rfl (by decide +kernel)
set_option maxRecDepth 100000 in
theorem mt_147 : Mok D_147 := kt_met (i := 1263) (j := 127) rfl (by decide +kernel)
set_option maxRecDepth 100000 in
theorem mt_148 : Mok D_148 := kt_met (i := 1384) (j := 127) rfl (by decide +kernel)
set_option maxRecDepth 100000 in
theorem mt_149 : Mok D_149 := kt_met (i := 819) (j := 127) rfl (by decide +kernel)
set_option maxRecDepth 100000 in
theorem mt_150 : Mok D_150 := kt_met (i := 1093) (j := 127) rfl (by decide +kernel)
set_option maxRecDepth 100000 in
theorem mt_151 : Mok D_151 := kt_met (i := 1204) (j := 127) rfl (by decide +kernel)
set_option maxRecDepth 100000 in
theorem mt_152 : Mok D_152 := kt_met (i := 804) (j := 127) rfl (by decide +kernel)
set_option maxRecDepth 100000 in
theorem mt_153 : Mok D_153 := kt_met (i := 1412) (j := 127) rfl (by decide +kernel)
set_option maxRecDepth 100000 in
theorem mt_154 : Mok D_154 := kt_met (i := 614) (j := 127) rfl (by decide +kernel)
set_option maxRecDepth 100000 in
theorem mt_155 : Mok D_155 := kt_met (i := 1289) (j := 127) rfl (by decide +kernel)
set_option maxRecDepth 100000 in
theorem mt_156 : Mok D_156 := kt_met (i := 1328) (j := 127) rfl (by decide +kernel)
set_option maxRecDepth 100000 in
theorem mt_157 : Mok D_157 := kt_met (i := 1056) (j := 127) rfl (by decide +kernel)
set_option maxRecDepth 100000 in
theorem mt_158 : Mok D_158 := kt_met (i := 1228) (j := 127) rfl (by decide +kernel)
set_option maxRecDepth 100000 in
theorem mt_159 : Mok D_159 := kt_met (i := 1395) (j := 127) rfl (by decide +kernel)
set_option maxRecDepth 100000 in
theorem mt_160 : Mok D_160 := kt_met (i := 1300) (j := 127) rfl (by decide +kernel)
set_option maxRecDepth 100000 in
theorem mt_161 : Mok D_161 := kt_met (i := 1343) (j := 127) rfl (by decide +kernel)
set_option maxRecDepth 100000 in
theorem mt_162 : Mok D_162 := kt_met (i := 1351) (j := 127) rfl (by decide +kernel)
set_option maxRecDepth 100000 in
theorem mt_163 : Mok D_163 := kt_met (i := 1424) (j := 127) rfl (by decide +kernel)
set_option maxRecDepth 100000 in
theorem mt_164 : Mok D_164 := kt_met (i := 1435) (j := 127) rfl (by decide +kernel)
set_option maxRecDepth 100000 in
theorem mt_165 : Mok D_165 := kt_met (i := 974) (j := 127) rfl (by decide +kernel)
set_option maxRecDepth 100000 in
theorem mt_166 : Mok D_166 := kt_met (i := 967) (j := 127) rfl (by decide +kernel)
set_option maxRecDepth 100000 in
theorem mt_167 : Mok D_167 := kt_met (i := 981) (j := 127) rfl (by decide +kernel)
set_option maxRecDepth 100000 in
theorem mt_168 : Mok D_168 := kt_met (i := 845) (j := 127) rfl (by decide +kernel)
set_option maxRecDepth 100000 in
theorem mt_169 : Mok D_169 := kt_met (i := 988) (j := 127) rfl (by decide +kernel)
set_option maxRecDepth 100000 in
theorem mt_170 : Mok D_170 := kt_met (i := 1358) (j := 127) rfl (by decide +kernel)
set_option maxRecDepth 100000 in
theorem mt_171 : Mok D_171 := kt_met (i := 1373) (j := 127) rfl (by decide +kernel)
set_option maxRecDepth 100000 in
theorem mt_172 : Mok D_172 := kt_met (i := 1068) (j := 127) rfl (by decide +kernel)
set_option maxRecDepth 100000 in
theorem mt_173 : Mok D_173 := kt_met (i := 590) (j := 127) rfl (by decide +kernel)
set_option maxRecDepth 100000 in
theorem mt_174 : Mok D_174 := kt_met (i := 1001) (j := 127) rfl (by decide +kernel)
set_option maxRecDepth 100000 in
theorem mt_175 : Mok D_175 := kt_met (i := 1444) (j := 137) rfl (by decide +kernel)
set_option maxRecDepth 100000 in
theorem mt_176 : Mok D_176 := kt_met (i := 1640) (j := 137) rfl (by decide +kernel)
set_option maxRecDepth 100000 in
theorem mt_177 : Mok D_177 := kt_met (i := 1846) (j := 137) rfl (by decide +kernel)
set_option maxRecDepth 100000 in
theorem mt_178 : Mok D_178 := kt_met (i := 1947) (j := 137) rfl (by decide +kernel)
set_option maxRecDepth 100000 in
theorem mt_179 : Mok D_179 := kt_met (i := 1795) (j := 137) rfl (by decide +kernel)
set_option maxRecDepth 100000 in
theorem mt_180 : Mok D_180 := kt_met (i := 1571) (j := 137) rfl (by decide +kernel)
set_option maxRecDepth 100000 in
theorem mt_181 : Mok D_181 := kt_met (i := 1995) (j := 137) rfl (by decide +kernel)
set_option maxRecDepth 100000 in
theorem mt_182 : Mok D_182 := kt_met (i := 1826) (j := 137) rfl (by decide +kernel)
set_option maxRecDepth 100000 in
theorem mt_183 : Mok D_183 := kt_met (i := 1959) (j := 137) rfl (by decide +kernel)
set_option maxRecDepth 100000 in
theorem mt_184 : Mok D_184 := kt_met (i := 1919) (j := 137) rfl (by decide +kernel)
set_option maxRecDepth 100000 in
theorem mt_185 : Mok D_185 := kt_met (i := 1926) (j := 137) rfl (by decide +kernel)
set_option maxRecDepth 100000 in
theorem mt_186 : Mok D_186 := kt_met (i := 1811) (j := 137) rfl (by decide +kernel)
set_option maxRecDepth 100000 in
theorem mt_187 : Mok D_187 := kt_met (i := 1736) (j := 137) rfl (by decide +kernel)
set_option maxRecDepth 100000 in
theorem mt_188 : Mok D_188 := kt_met (i := 1776) (j := 137) rfl (by decide +kernel)
set_option maxRecDepth 100000 in
theorem mt_189 : Mok D_189 := kt_met (i := 1842) (j := 137) rfl (by decide +kernel)
set_option maxRecDepth 100000 in
theorem mt_190 : Mok D_190 := kt_met (i := 1854) (j := 137) rfl (by decide +kernel)
set_option maxRecDepth 100000 in
theorem mt_191 : Mok D_191 := kt_met (i := 1783) (j := 137) rfl (by decide +kernel)
set_option maxRecDepth 100000 in
theorem mt_192 : Mok D_192 := kt_met (i := 1886) (j := 137) rfl (by decide +kernel)
set_option maxRecDepth 100000 in
theorem mt_193 : Mok D_193 := kt_met (i := 1660) (j := 137) rfl (by decide +kernel)
set_option maxRecDepth 100000 in
theorem mt_194 : Mok D_194 := kt_met (i := 1891) (j := 137) rfl (by decide +kernel)
set_option maxRecDepth 100000 in
theorem mt_195 : Mok D_195 := kt_met (i := 1688) (j := 137) rfl (by decide +kernel)
set_option maxRecDepth 100000 in
theorem mt_196 : Mok D_196 := kt_met (i := 1979) (j := 137) rfl (by decide +kernel)
set_option maxRecDepth 100000 in
theorem mt_197 : Mok D_197 := kt_met (i := 1967) (j := 137) rfl (by decide +kernel)
set_option maxRecDepth 100000 in
theorem mt_198 : Mok D_198 := kt_met (i := 1708) (j := 137) rfl (by decide +kernel)
set_option maxRecDepth 100000 in
theorem mt_199 : Mok D_199 := kt_met (i := 1951) (j := 137) rfl (by decide +kernel)
set_option maxRecDepth 100000 in
theorem mt_200 : Mok D_200 := kt_met (i := 1720) (j := 137) rfl (by decide +kernel)
set_option maxRecDepth 100000 in
theorem mt_201 : Mok D_201 := kt_met (i := 1631) (j := 137) rfl (by decide +kernel)
set_option maxRecDepth 100000 in
theorem mt_202 : Mok D_202 := kt_met (i := 1680) (j := 137) rfl (by decide +kernel)
set_option maxRecDepth 100000 in
theorem mt_203 : Mok D_203 := kt_met (i := 1684) (j := 137) rfl (by decide +kernel)
set_option maxRecDepth 100000 in
theorem mt_204 : Mok D_204 := kt_met (i := 1760) (j := 137) rfl (by decide +kernel)
set_option maxRecDepth 100000 in
theorem mt_205 : Mok D_205 := kt_met (i := 1575) (j := 137) rfl (by decide +kernel)
set_option maxRecDepth 100000 in
theorem mt_206 : Mok D_206 := kt_met (i := 1830) (j := 137) rfl (by decide +kernel)
set_option maxRecDepth 100000 in
theorem mt_207 : Mok D_207 := kt_met (i := 1907) (j := 137) rfl (by decide +kernel)
set_option maxRecDepth 100000 in
theorem mt_208 : Mok D_208 := kt_met (i := 1915) (j := 137) rfl (by decide +kernel)
set_option maxRecDepth 100000 in
theorem mt_209 : Mok D_209 := kt_met (i := 1911) (j := 137) rfl (by decide +kernel)
set_option maxRecDepth 100000 in
theorem mt_210 : Mok D_210 := kt_met (i := 1579) (j := 137) rfl (by decide +kernel)
set_option maxRecDepth 100000 in
theorem mt_211 : Mok D_211 := kt_met (i := 2015) (j := 137) rfl (by decide +kernel)
set_option maxRecDepth 100000 in
theorem mt_212 : Mok D_212 := kt_met (i := 2019) (j := 137) rfl (by decide +kernel)
set_option maxRecDepth 100000 in
theorem mt_213 : Mok D_213 := kt_met (i := 1700) (j := 137) rfl (by decide +kernel)
set_option maxRecDepth 100000 in
theorem mt_214 : Mok D_214 := kt_met (i := 1862) (j := 137) rfl (by decide +kernel)
set_option maxRecDepth 100000 in
theorem mt_215 : Mok D_215 := kt_met (i := 1858) (j := 137) rfl (by decide +kernel)
set_option maxRecDepth 100000 in
theorem mt_216 : Mok D_216 := kt_met (i := 1611) (j := 137) rfl (by decide +kernel)
set_option maxRecDepth 100000 in
theorem mt_217 : Mok D_217 := kt_met (i := 1586) (j := 137) rfl (by decide +kernel)
set_option maxRecDepth 100000 in
theorem mt_218 : Mok D_218 := kt_met (i := 1787) (j := 137) rfl (by decide +kernel)
set_option maxRecDepth 100000 in
theorem mt_219 : Mok D_219 := kt_met (i := 1653) (j := 137) rfl (by decide +kernel)
set_option maxRecDepth 100000 in
theorem mt_220 : Mok D_220 := kt_met (i := 1818) (j := 137) rfl (by decide +kernel)
set_option maxRecDepth 100000 in
theorem mt_221 : Mok D_221 := kt_met (i := 1822) (j := 137) rfl (by decide +kernel)
set_option maxRecDepth 100000 in
theorem mt_222 : Mok D_222 := kt_met (i := 1704) (j := 137) rfl (by decide +kernel)
set_option maxRecDepth 100000 in
theorem mt_223 : Mok D_223 := kt_met (i := 1882) (j := 137) rfl (by decide +kernel)
set_option maxRecDepth 100000 in
theorem mt_224 : Mok D_224 := kt_met (i := 1712) (j := 137) rfl (by decide +kernel)
set_option maxRecDepth 100000 in
theorem mt_225 : Mok D_225 := kt_met (i := 1814) (j := 137) rfl (by decide +kernel)
set_option maxRecDepth 100000 in
theorem mt_226 : Mok D_226 := kt_met (i := 1696) (j := 137) rfl (by decide +kernel)
set_option maxRecDepth 100000 in
theorem mt_227 : Mok D_227 := kt_met (i := 1716) (j := 137) rfl (by decide +kernel)
set_option maxRecDepth 100000 in
theorem mt_228 : Mok D_228 := kt_met (i := 1935) (j := 137) rfl (by decide +kernel)
set_option maxRecDepth 100000 in
theorem mt_229 : Mok D_229 := kt_met (i := 2007) (j := 137) rfl (by decide +kernel)
set_option maxRecDepth 100000 in
theorem mt_230 : Mok D_230 := kt_met (i := 1740) (j := 137) rfl (by decide +kernel)
set_option maxRecDepth 100000 in
theorem mt_231 : Mok D_231 := kt_met (i := 1764) (j := 137) rfl (by decide +kernel)
set_option maxRecDepth 100000 in
theorem mt_232 : Mok D_232 := kt_met (i := 1772) (j := 137) rfl (by decide +kernel)
set_option maxRecDepth 100000 in
theorem mt_233 : Mok D_233 := kt_met (i := 1768) (j := 137) rfl (by decide +kernel)
set_option maxRecDepth 100000 in
theorem mt_234 : Mok D_234 := kt_met (i := 1834) (j := 137) rfl (by decide +kernel)
set_option maxRecDepth 100000 in
theorem mt_235 : Mok D_235 := kt_met (i := 1878) (j := 137) rfl (by decide +kernel)
set_option maxRecDepth 100000 in
theorem mt_236 : Mok D_236 := kt_met (i := 1850) (j := 137) rfl (by decide +kernel)
set_option maxRecDepth 100000 in
theorem mt_237 : Mok D_237 := kt_met (i := 1692) (j := 137) rfl (by decide +kernel)
set_option maxRecDepth 100000 in
theorem mt_238 : Mok D_238 := kt_met (i := 1899) (j := 137) rfl (by decide +kernel)
set_option maxRecDepth 100000 in
theorem mt_239 : Mok D_239 := kt_met (i := 1590) (j := 137) rfl (by decide +kernel)
set_option maxRecDepth 100000 in
theorem mt_240 : Mok D_240 := kt_met (i := 1923) (j := 137) rfl (by decide +kernel)
set_option maxRecDepth 100000 in
theorem mt_241 : Mok D_241 := kt_met (i := 1943) (j := 137) rfl (by decide +kernel)
set_option maxRecDepth 100000 in
theorem mt_242 : Mok D_242 := kt_met (i := 1599) (j := 137) rfl (by decide +kernel)
set_option maxRecDepth 100000 in
theorem mt_243 : Mok D_243 := kt_met (i := 1644) (j := 137) rfl (by decide +kernel)
set_option maxRecDepth 100000 in
theorem mt_244 : Mok D_244 := kt_met (i := 1626) (j := 137) rfl (by decide +kernel)
set_option maxRecDepth 100000 in
theorem mt_245 : Mok D_245 := kt_met (i := 1648) (j := 137) rfl (by decide +kernel)
set_option maxRecDepth 100000 in
theorem mt_246 : Mok D_246 := kt_met (i := 1724) (j := 137) rfl (by decide +kernel)
set_option maxRecDepth 100000 in
theorem mt_247 : Mok D_247 := kt_met (i := 1803) (j := 137) rfl (by decide +kernel)
set_option maxRecDepth 100000 in
theorem mt_248 : Mok D_248 := kt_met (i := 1903) (j := 137) rfl (by decide +kernel)
set_option maxRecDepth 100000 in
theorem mt_249 : Mok D_249 := kt_met (i := 2023) (j := 137) rfl (by decide +kernel)
set_option maxRecDepth 100000 in
theorem mt_250 : Mok D_250 := kt_met (i := 1799) (j := 137) rfl (by decide +kernel)
set_option maxRecDepth 100000 in
theorem mt_251 : Mok D_251 := kt_met (i := 1955) (j := 137) rfl (by decide +kernel)
set_option maxRecDepth 100000 in
theorem mt_252 : Mok D_252 := kt_met (i := 1791) (j := 137) rfl (by decide +kernel)
set_option maxRecDepth 100000 in
theorem mt_253 : Mok D_253 := kt_met (i := 1931) (j := 137) rfl (by decide +kernel)
set_option maxRecDepth 100000 in
theorem mt_254 : Mok D_254 := kt_met (i := 1939) (j := 137) rfl (by decide +kernel)
set_option maxRecDepth 100000 in
theorem mt_255 : Mok D_255 := kt_met (i := 1971) (j := 137) rfl (by decide +kernel)
set_option maxRecDepth 100000 in
theorem mt_256 : Mok D_256 := kt_met (i := 1838) (j := 137) rfl (by decide +kernel)
set_option maxRecDepth 100000 in
theorem mt_257 : Mok D_257 := kt_met (i := 1668) (j := 137) rfl (by decide +kernel)
set_option maxRecDepth 100000 in
theorem mt_258 : Mok D_258 := kt_met (i := 1664) (j := 137) rfl (by decide +kernel)
set_option maxRecDepth 100000 in
theorem mt_259 : Mok D_259 := kt_met (i := 1594) (j := 137) rfl (by decide +kernel)
set_option maxRecDepth 100000 in
theorem mt_260 : Mok D_260 := kt_met (i := 1635) (j := 137) rfl (by decide +kernel)
set_option maxRecDepth 100000 in
theorem mt_261 : Mok D_261 := kt_met (i := 1676) (j := 137) rfl (by decide +kernel)
set_option maxRecDepth 100000 in
theorem mt_262 : Mok D_262 := kt_met (i := 1672) (j := 137) rfl (by decide +kernel)
set_option maxRecDepth 100000 in
theorem mt_263 : Mok D_263 := kt_met (i := 1975) (j := 137) rfl (by decide +kernel)
set_option maxRecDepth 100000 in
theorem mt_264 : Mok D_264 := kt_met (i := 2027) (j := 137) rfl (by decide +kernel)
set_option maxRecDepth 100000 in
theorem mt_265 : Mok D_265 := kt_met (i := 1999) (j := 137) rfl (by decide +kernel)
set_option maxRecDepth 100000 in
theorem mt_266 : Mok D_266 := kt_met (i := 1870) (j := 137) rfl (by decide +kernel)
set_option maxRecDepth 100000 in
theorem mt_267 : Mok D_267 := kt_met (i := 1895) (j := 137) rfl (by decide +kernel)
set_option maxRecDepth 100000 in
theorem mt_268 : Mok D_268 := kt_met (i := 1748) (j := 137) rfl (by decide +kernel)
set_option maxRecDepth 100000 in
theorem mt_269 : Mok D_269 := kt_met (i := 1744) (j := 137) rfl (by decide +kernel)
set_option maxRecDepth 100000 in
theorem mt_270 : Mok D_270 := kt_met (i := 1752) (j := 137) rfl (by decide +kernel)
set_option maxRecDepth 100000 in
theorem mt_271 : Mok D_271 := kt_met (i := 1732) (j := 137) rfl (by decide +kernel)
set_option maxRecDepth 100000 in
theorem mt_272 : Mok D_272 := kt_met (i := 1756) (j := 137) rfl (by decide +kernel)
set_option maxRecDepth 100000 in
theorem mt_273 : Mok D_273 := kt_met (i := 1991) (j := 137) rfl (by decide +kernel)
set_option maxRecDepth 100000 in
theorem mt_274 : Mok D_274 := kt_met (i := 1963) (j := 137) rfl (by decide +kernel)
set_option maxRecDepth 100000 in
theorem mt_275 : Mok D_275 := kt_met (i := 1983) (j := 137) rfl (by decide +kernel)
set_option maxRecDepth 100000 in
theorem mt_276 : Mok D_276 := kt_met (i := 1987) (j := 137) rfl (by decide +kernel)
set_option maxRecDepth 100000 in
theorem mt_277 : Mok D_277 := kt_met (i := 1603) (j := 137) rfl (by decide +kernel)
set_option maxRecDepth 100000 in
theorem mt_278 : Mok D_278 := kt_met (i := 1874) (j := 137) rfl (by decide +kernel)
set_option maxRecDepth 100000 in
theorem mt_279 : Mok D_279 := kt_met (i := 2003) (j := 137) rfl (by decide +kernel)
set_option maxRecDepth 100000 in
theorem mt_280 : Mok D_280 := kt_met (i := 2011) (j := 137) rfl (by decide +kernel)
set_option maxRecDepth 100000 in
theorem mt_281 : Mok D_281 := kt_met (i := 1567) (j := 137) rfl (by decide +kernel)
set_option maxRecDepth 100000 in
theorem mt_282 : Mok D_282 := kt_met (i := 1780) (j := 137) rfl (by decide +kernel)
set_option maxRecDepth 100000 in
theorem mt_283 : Mok D_283 := kt_met (i := 1807) (j := 137) rfl (by decide +kernel)
set_option maxRecDepth 100000 in
theorem mt_284 : Mok D_284 := kt_met (i := 1583) (j := 137) rfl (by decide +kernel)
set_option maxRecDepth 100000 in
theorem mt_285 : Mok D_285 := kt_met (i := 1866) (j := 137) rfl (by decide +kernel)
set_option maxRecDepth 100000 in
theorem mt_286 : Mok D_286 := kt_met (i := 1728) (j := 137) rfl (by decide +kernel)
set_option maxRecDepth 100000 in
theorem mt_287 : Mok D_287 := kt_met (i := 1607) (j := 137) rfl (by decide +kernel)
set_option maxRecDepth 100000 in
theorem mt_288 : Mok D_288 := kt_met (i := 1615) (j := 137) rfl (by decide +kernel)
set_option maxRecDepth 100000 in
theorem mt_289 : Mok D_289 := kt_met (i := 1622) (j := 137) rfl (by decide +kernel)
set_option maxRecDepth 100000 in
theorem mt_290 : Mok D_290 := kt_met (i := 202) (j := 130) rfl (by decide +kernel)
set_option maxRecDepth 100000 in
theorem mt_291 : Mok D_291 := kt_met (i := 199) (j := 131) rfl (by decide +kernel)
set_option maxRecDepth 100000 in
theorem mt_292 : Mok D_292 := kt_met (i := 196) (j := 132) rfl (by decide +kernel)
set_option maxRecDepth 100000 in
theorem mt_293 : Mok D_293 := kt_met (i := 907) (j := 132) rfl (by decide +kernel)
set_option maxRecDepth 100000 in
theorem mt_294 : Mok D_294 := kt_met (i := 911) (j := 132) rfl (by decide +kernel)
set_option maxRecDepth 100000 in
theorem mt_295 : Mok D_295 := kt_met (i := 787) (j := 132) rfl (by decide +kernel)
set_option maxRecDepth 100000 in
theorem mt_296 : Mok D_296 := kt_met (i := 900) (j := 132) rfl (by decide +kernel)
set_option maxRecDepth 100000 in
theorem mt_297 : Mok D_297 := kt_met (i := 915) (j := 132) rfl (by decide +kernel)
set_option maxRecDepth 100000 in
theorem mt_298 : Mok D_298 := kt_met (i := 919) (j := 132) rfl (by decide +kernel)
set_option maxRecDepth 100000 in
theorem mt_299 : Mok D_299 := kt_met (i := 1009) (j := 132) rfl (by decide +kernel)
set_option maxRecDepth 100000 in
theorem mt_300 : Mok D_300 := kt_met (i := 892) (j := 132) rfl (by decide +kernel)
set_option maxRecDepth 100000 in
theorem mt_301 : Mok D_301 := kt_met (i := 888) (j := 132) rfl (by decide +kernel)
set_option maxRecDepth 100000 in
theorem mt_302 : Mok D_302 := kt_met (i := 895) (j := 149) rfl (by decide +kernel)
set_option maxRecDepth 100000 in
theorem mt_303 : Mok D_303 := kt_met (i := 675) (j := 145) rfl (by decide +kernel)
set_option maxRecDepth 100000 in
theorem mdok : ∀ d ∈ MDX, Mok d := List.forall_mem_cons.mpr ⟨mt_1, List.forall_mem_cons.mpr ⟨mt_2, List.forall_mem_cons.mpr ⟨mt_3, List.forall_mem_cons.mpr ⟨mt_4, List.forall_mem_cons.mpr ⟨mt_5, List.forall_mem_cons.mpr ⟨mt_6, List.forall_mem_cons.mpr ⟨mt_7, List.forall_mem_cons.mpr ⟨mt_8, List.forall_mem_cons.mpr ⟨mt_9, List.forall_mem_cons.mpr ⟨mt_10, List.forall_mem_cons.mpr ⟨mt_11, List.forall_mem_cons.mpr ⟨mt_12, List.forall_mem_cons.mpr ⟨mt_13, List.forall_mem_cons.mpr ⟨mt_14, List.forall_mem_cons.mpr ⟨mt_15, List.forall_mem_cons.mpr ⟨mt_16, List.forall_mem_cons.mpr ⟨mt_17, List.forall_mem_cons.mpr ⟨mt_18, List.forall_mem_cons.mpr ⟨mt_19, List.forall_mem_cons.mpr ⟨mt_20, List.forall_mem_cons.mpr ⟨mt_21, List.forall_mem_cons.mpr ⟨mt_22, List.forall_mem_cons.mpr ⟨mt_23, List.forall_mem_cons.mpr ⟨mt_24, List.forall_mem_cons.mpr ⟨mt_25, List.forall_mem_cons.mpr ⟨mt_26, List.forall_mem_cons.mpr ⟨mt_27, List.forall_mem_cons.mpr ⟨mt_28, List.forall_mem_cons.mpr ⟨mt_29, List.forall_mem_cons.mpr ⟨mt_30, List.forall_mem_cons.mpr ⟨mt_31, List.forall_mem_cons.mpr ⟨mt_32, List.forall_mem_cons.mpr ⟨mt_33, List.forall_mem_cons.mpr ⟨mt_34, List.forall_mem_cons.mpr ⟨mt_35, List.forall_mem_cons.mpr ⟨mt_36, List.forall_mem_cons.mpr ⟨mt_37, List.forall_mem_cons.mpr ⟨mt_38, List.forall_mem_cons.mpr ⟨mt_39, List.forall_mem_cons.mpr ⟨mt_40, List.forall_mem_cons.mpr ⟨mt_41, List.forall_mem_cons.mpr ⟨mt_42, List.forall_mem_cons.mpr ⟨mt_43, List.forall_mem_cons.mpr ⟨mt_44, List.forall_mem_cons.mpr ⟨mt_45, List.forall_mem_cons.mpr ⟨mt_46, List.forall_mem_cons.mpr ⟨mt_47, List.forall_mem_cons.mpr ⟨mt_48, List.forall_mem_cons.mpr ⟨mt_49, List.forall_mem_cons.mpr ⟨mt_50, List.forall_mem_cons.mpr ⟨mt_51, List.forall_mem_cons.mpr ⟨mt_52, List.forall_mem_cons.mpr ⟨mt_53, List.forall_mem_cons.mpr ⟨mt_54, List.forall_mem_cons.mpr ⟨mt_55, List.forall_mem_cons.mpr ⟨mt_56, List.forall_mem_cons.mpr ⟨mt_57, List.forall_mem_cons.mpr ⟨mt_58, List.forall_mem_cons.mpr ⟨mt_59, List.forall_mem_cons.mpr ⟨mt_60, List.forall_mem_cons.mpr ⟨mt_61, List.forall_mem_cons.mpr ⟨mt_62, List.forall_mem_cons.mpr ⟨mt_63, List.forall_mem_cons.mpr ⟨mt_64, List.forall_mem_cons.mpr ⟨mt_65, List.forall_mem_cons.mpr ⟨mt_66, List.forall_mem_cons.mpr ⟨mt_67, List.forall_mem_cons.mpr ⟨mt_68, List.forall_mem_cons.mpr ⟨mt_69, List.forall_mem_cons.mpr ⟨mt_70, List.forall_mem_cons.mpr ⟨mt_71, List.forall_mem_cons.mpr ⟨mt_72, List.forall_mem_cons.mpr ⟨mt_73, List.forall_mem_cons.mpr ⟨mt_74, List.forall_mem_cons.mpr ⟨mt_75, List.forall_mem_cons.mpr ⟨mt_76, List.forall_mem_cons.mpr ⟨mt_77, List.forall_mem_cons.mpr ⟨mt_78, List.forall_mem_cons.mpr ⟨mt_79, List.forall_mem_cons.mpr ⟨mt_80, List.forall_mem_cons.mpr ⟨mt_81, List.forall_mem_cons.mpr ⟨mt_82, List.forall_mem_cons.mpr ⟨mt_83, List.forall_mem_cons.mpr ⟨mt_84, List.forall_mem_cons.mpr ⟨mt_85, List.forall_mem_cons.mpr ⟨mt_86, List.forall_mem_cons.mpr ⟨mt_87, List.forall_mem_cons.mpr ⟨mt_88, List.forall_mem_cons.mpr ⟨mt_89, List.forall_mem_cons.mpr ⟨mt_90, List.forall_mem_cons.mpr ⟨mt_91, List.forall_mem_cons.mpr ⟨mt_92, List.forall_mem_cons.mpr ⟨mt_93, List.forall_mem_cons.mpr ⟨mt_94, List.forall_mem_cons.mpr ⟨mt_95, List.forall_mem_cons.mpr ⟨mt_96, List.forall_mem_cons.mpr ⟨mt_97, List.forall_mem_cons.mpr ⟨mt_98, List.forall_mem_cons.mpr ⟨mt_99, List.forall_mem_cons.mpr ⟨mt_100, List.forall_mem_cons.mpr ⟨mt_101, List.forall_mem_cons.mpr ⟨mt_102, List.forall_mem_cons.mpr ⟨mt_103, List.forall_mem_cons.mpr ⟨mt_104, List.forall_mem_cons.mpr ⟨mt_105, List.forall_mem_cons.mpr ⟨mt_106, List.forall_mem_cons.mpr ⟨mt_107, List.forall_mem_cons.mpr ⟨mt_108, List.forall_mem_cons.mpr ⟨mt_109, List.forall_mem_cons.mpr ⟨mt_110, List.forall_mem_cons.mpr ⟨mt_111, List.forall_mem_cons.mpr ⟨mt_112, List.forall_mem_cons.mpr ⟨mt_113, List.forall_mem_cons.mpr ⟨mt_114, List.forall_mem_cons.mpr ⟨mt_115, List.forall_mem_cons.mpr ⟨mt_116, List.forall_mem_cons.mpr ⟨mt_117, List.forall_mem_cons.mpr ⟨mt_118, List.forall_mem_cons.mpr ⟨mt_119, List.forall_mem_cons.mpr ⟨mt_120, List.forall_mem_cons.mpr ⟨mt_121, List.forall_mem_cons.mpr ⟨mt_122, List.forall_mem_cons.mpr ⟨mt_123, List.forall_mem_cons.mpr ⟨mt_124, List.forall_mem_cons.mpr ⟨mt_125, List.forall_mem_cons.mpr ⟨mt_126, List.forall_mem_cons.mpr ⟨mt_127, List.forall_mem_cons.mpr ⟨mt_128, List.forall_mem_cons.mpr ⟨mt_129, List.forall_mem_cons.mpr ⟨mt_130, List.forall_mem_cons.mpr ⟨mt_131, List.forall_mem_cons.mpr ⟨mt_132, List.forall_mem_cons.mpr ⟨mt_133, List.forall_mem_cons.mpr ⟨mt_134, List.forall_mem_cons.mpr ⟨mt_135, List.forall_mem_cons.mpr ⟨mt_136, List.forall_mem_cons.mpr ⟨mt_137, List.forall_mem_cons.mpr ⟨mt_138, List.forall_mem_cons.mpr ⟨mt_139, List.forall_mem_cons.mpr ⟨mt_140, List.forall_mem_cons.mpr ⟨mt_141, List.forall_mem_cons.mpr ⟨mt_142, List.forall_mem_cons.mpr ⟨mt_143, List.forall_mem_cons.mpr ⟨mt_144, List.forall_mem_cons.mpr ⟨mt_145, List.forall_mem_cons.mpr ⟨mt_146, List.forall_mem_cons.mpr ⟨mt_147, List.forall_mem_cons.mpr ⟨mt_148, List.forall_mem_cons.mpr ⟨mt_149, List.forall_mem_cons.mpr ⟨mt_150, List.forall_mem_cons.mpr ⟨mt_151, List.forall_mem_cons.mpr ⟨mt_152, List.forall_mem_cons.mpr ⟨mt_153, List.forall_mem_cons.mpr ⟨mt_154, List.forall_mem_cons.mpr ⟨mt_155, List.forall_mem_cons.mpr ⟨mt_156, List.forall_mem_cons.mpr ⟨mt_157, List.forall_mem_cons.mpr ⟨mt_158, List.forall_mem_cons.mpr ⟨mt_159, List.forall_mem_cons.mpr ⟨mt_160, List.forall_mem_cons.mpr ⟨mt_161, List.forall_mem_cons.mpr ⟨mt_162, List.forall_mem_cons.mpr ⟨mt_163, List.forall_mem_cons.mpr ⟨mt_164, List.forall_mem_cons.mpr ⟨mt_165, List.forall_mem_cons.mpr ⟨mt_166, List.forall_mem_cons.mpr ⟨mt_167, List.forall_mem_cons.mpr ⟨mt_168, List.forall_mem_cons.mpr ⟨mt_169, List.forall_mem_cons.mpr ⟨mt_170, List.forall_mem_cons.mpr ⟨mt_171, List.forall_mem_cons.mpr ⟨mt_172, List.forall_mem_cons.mpr ⟨mt_173, List.forall_mem_cons.mpr ⟨mt_174, List.forall_mem_cons.mpr ⟨mt_175, List.forall_mem_cons.mpr ⟨mt_176, List.forall_mem_cons.mpr ⟨mt_177, List.forall_mem_cons.mpr ⟨mt_178, List.forall_mem_cons.mpr ⟨mt_179, List.forall_mem_cons.mpr ⟨mt_180, List.forall_mem_cons.mpr ⟨mt_181, List.forall_mem_cons.mpr ⟨mt_182, List.forall_mem_cons.mpr ⟨mt_183, List.forall_mem_cons.mpr ⟨mt_184, List.forall_mem_cons.mpr ⟨mt_185, List.forall_mem_cons.mpr ⟨mt_186, List.forall_mem_cons.mpr ⟨mt_187, List.forall_mem_cons.mpr ⟨mt_188, List.forall_mem_cons.mpr ⟨mt_189, List.forall_mem_cons.mpr ⟨mt_190, List.forall_mem_cons.mpr ⟨mt_191, List.forall_mem_cons.mpr ⟨mt_192, List.forall_mem_cons.mpr ⟨mt_193, List.forall_mem_cons.mpr ⟨mt_194, List.forall_mem_cons.mpr ⟨mt_195, List.forall_mem_cons.mpr ⟨mt_196, List.forall_mem_cons.mpr ⟨mt_197, List.forall_mem_cons.mpr ⟨mt_198, List.forall_mem_cons.mpr ⟨mt_199, List.forall_mem_cons.mpr ⟨mt_200, List.forall_mem_cons.mpr ⟨mt_201, List.forall_mem_cons.mpr ⟨mt_202, List.forall_mem_cons.mpr ⟨mt_203, List.forall_mem_cons.mpr ⟨mt_204, List.forall_mem_cons.mpr ⟨mt_205, List.forall_mem_cons.mpr ⟨mt_206, List.forall_mem_cons.mpr ⟨mt_207, List.forall_mem_cons.mpr ⟨mt_208, List.forall_mem_cons.mpr ⟨mt_209, List.forall_mem_cons.mpr ⟨mt_210, List.forall_mem_cons.mpr ⟨mt_211, List.forall_mem_cons.mpr ⟨mt_212, List.forall_mem_cons.mpr ⟨mt_213, List.forall_mem_cons.mpr ⟨mt_214, List.forall_mem_cons.mpr ⟨mt_215, List.forall_mem_cons.mpr ⟨mt_216, List.forall_mem_cons.mpr ⟨mt_217, List.forall_mem_cons.mpr ⟨mt_218, List.forall_mem_cons.mpr ⟨mt_219, List.forall_mem_cons.mpr ⟨mt_220, List.forall_mem_cons.mpr ⟨mt_221, List.forall_mem_cons.mpr ⟨mt_222, List.forall_mem_cons.mpr ⟨mt_223, List.forall_mem_cons.mpr ⟨mt_224, List.forall_mem_cons.mpr ⟨mt_225, List.forall_mem_cons.mpr ⟨mt_226, List.forall_mem_cons.mpr ⟨mt_227, List.forall_mem_cons.mpr ⟨mt_228, List.forall_mem_cons.mpr ⟨mt_229, List.forall_mem_cons.mpr ⟨mt_230, List.forall_mem_cons.mpr ⟨mt_231, List.forall_mem_cons.mpr ⟨mt_232, List.forall_mem_cons.mpr ⟨mt_233, List.forall_mem_cons.mpr ⟨mt_234, List.forall_mem_cons.mpr ⟨mt_235, List.forall_mem_cons.mpr ⟨mt_236, List.forall_mem_cons.mpr ⟨mt_237, List.forall_mem_cons.mpr ⟨mt_238, List.forall_mem_cons.mpr ⟨mt_239, List.forall_mem_cons.mpr ⟨mt_240, List.forall_mem_cons.mpr ⟨mt_241, List.forall_mem_cons.mpr ⟨mt_242, List.forall_mem_cons.mpr ⟨mt_243, List.forall_mem_cons.mpr ⟨mt_244, List.forall_mem_cons.mpr ⟨mt_245, List.forall_mem_cons.mpr ⟨mt_246, List.forall_mem_cons.mpr ⟨mt_247, List.forall_mem_cons.mpr ⟨mt_248, List.forall_mem_cons.mpr ⟨mt_249, List.forall_mem_cons.mpr ⟨mt_250, List.forall_mem_cons.mpr ⟨mt_251, List.forall_mem_cons.mpr ⟨mt_252, List.forall_mem_cons.mpr ⟨mt_253, List.forall_mem_cons.mpr ⟨mt_254, List.forall_mem_cons.mpr ⟨mt_255, List.forall_mem_cons.mpr ⟨mt_256, List.forall_mem_cons.mpr ⟨mt_257, List.forall_mem_cons.mpr ⟨mt_258, List.forall_mem_cons.mpr ⟨mt_259, List.forall_mem_cons.mpr ⟨mt_260, List.forall_mem_cons.mpr ⟨mt_261, List.forall_mem_cons.mpr ⟨mt_262, List.forall_mem_cons.mpr ⟨mt_263, List.forall_mem_cons.mpr ⟨mt_264, List.forall_mem_cons.mpr ⟨mt_265, List.forall_mem_cons.mpr ⟨mt_266, List.forall_mem_cons.mpr ⟨mt_267, List.forall_mem_cons.mpr ⟨mt_268, List.forall_mem_cons.mpr ⟨mt_269, List.forall_mem_cons.mpr ⟨mt_270, List.forall_mem_cons.mpr ⟨mt_271, List.forall_mem_cons.mpr ⟨mt_272, List.forall_mem_cons.mpr ⟨mt_273, List.forall_mem_cons.mpr ⟨mt_274, List.forall_mem_cons.mpr ⟨mt_275, List.forall_mem_cons.mpr ⟨mt_276, List.forall_mem_cons.mpr ⟨mt_277, List.forall_mem_cons.mpr ⟨mt_278, List.forall_mem_cons.mpr ⟨mt_279, List.forall_mem_cons.mpr ⟨mt_280, List.forall_mem_cons.mpr ⟨mt_281, List.forall_mem_cons.mpr ⟨mt_282, List.forall_mem_cons.mpr ⟨mt_283, List.forall_mem_cons.mpr ⟨mt_284, List.forall_mem_cons.mpr ⟨mt_285, List.forall_mem_cons.mpr ⟨mt_286, List.forall_mem_cons.mpr ⟨mt_287, List.forall_mem_cons.mpr ⟨mt_288, List.forall_mem_cons.mpr ⟨mt_289, List.forall_mem_cons.mpr ⟨mt_290, List.forall_mem_cons.mpr ⟨mt_291, List.forall_mem_cons.mpr ⟨mt_292, List.forall_mem_cons.mpr ⟨mt_293, List.forall_mem_cons.mpr ⟨mt_294, List.forall_mem_cons.mpr ⟨mt_295, List.forall_mem_cons.mpr ⟨mt_296, List.forall_mem_cons.mpr ⟨mt_297, List.forall_mem_cons.mpr ⟨mt_298, List.forall_mem_cons.mpr ⟨mt_299, List.forall_mem_cons.mpr ⟨mt_300, List.forall_mem_cons.mpr ⟨mt_301, List.forall_mem_cons.mpr ⟨mt_302, List.forall_mem_cons.mpr ⟨mt_303, (fun _ h => absurd h List.not_mem_nil)⟩⟩⟩⟩⟩⟩⟩⟩⟩⟩⟩⟩⟩⟩⟩⟩⟩⟩⟩⟩⟩⟩⟩⟩⟩⟩⟩⟩⟩⟩⟩⟩⟩⟩⟩⟩⟩⟩⟩⟩⟩⟩⟩⟩⟩⟩⟩⟩⟩⟩⟩⟩⟩⟩⟩⟩⟩⟩⟩⟩⟩⟩⟩⟩⟩⟩⟩⟩⟩⟩⟩⟩⟩⟩⟩⟩⟩⟩⟩⟩⟩⟩⟩⟩⟩⟩⟩⟩⟩⟩⟩⟩⟩⟩⟩⟩⟩⟩⟩⟩⟩⟩⟩⟩⟩⟩⟩⟩⟩⟩⟩⟩⟩⟩⟩⟩⟩⟩⟩⟩⟩⟩⟩⟩⟩⟩⟩⟩⟩⟩⟩⟩⟩⟩⟩⟩⟩⟩⟩⟩⟩⟩⟩⟩⟩⟩⟩⟩⟩⟩⟩⟩⟩⟩⟩⟩⟩⟩⟩⟩⟩⟩⟩⟩⟩⟩⟩⟩⟩⟩⟩⟩⟩⟩⟩⟩⟩⟩⟩⟩⟩⟩⟩⟩⟩⟩⟩⟩⟩⟩⟩⟩⟩⟩⟩⟩⟩⟩⟩⟩⟩⟩⟩⟩⟩⟩⟩⟩⟩⟩⟩⟩⟩⟩⟩⟩⟩⟩⟩⟩⟩⟩⟩⟩⟩⟩⟩⟩⟩⟩⟩⟩⟩⟩⟩⟩⟩⟩⟩⟩⟩⟩⟩⟩⟩⟩⟩⟩⟩⟩⟩⟩⟩⟩⟩⟩⟩⟩⟩⟩⟩⟩⟩⟩⟩⟩⟩⟩⟩⟩⟩⟩⟩⟩⟩⟩⟩⟩⟩⟩⟩⟩⟩⟩⟩⟩⟩⟩⟩⟩⟩⟩⟩⟩⟩⟩⟩⟩⟩⟩⟩⟩⟩
theorem hbx : HB CLS tyX ftX mdx := ⟨clok, fun u d' h => by
  match u, h with
  | n + 1, h => exact mdok d' (List.mem_of_getElem? h)⟩
