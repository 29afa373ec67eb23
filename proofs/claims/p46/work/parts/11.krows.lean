/-! The methods -/
theorem kRo_0 : pm_rowok kcl kALL klks kRow_0 := ⟨pm_rowB_ok (by decide +kernel), by decide +kernel, kw_1191, kw_1192⟩
theorem kRo_1 : pm_rowok kcl kALL klks kRow_1 := ⟨pm_rowB_ok (by decide +kernel), by decide +kernel, kw_1193, kw_1192⟩
theorem kRo_2 : pm_rowok kcl kALL klks kRow_2 := ⟨pm_rowB_ok (by decide +kernel), by decide +kernel, kw_1194, kw_1192⟩
theorem kRo_3 : pm_rowok kcl kALL klks kRow_3 := ⟨pm_rowB_ok (by decide +kernel), by decide +kernel, kw_1195, kw_1192⟩
theorem kRo_4 : pm_rowok kcl kALL klks kRow_4 := ⟨pm_rowB_ok (by decide +kernel), by decide +kernel, kw_1196, kw_1192⟩
theorem kRo_5 : pm_rowok kcl kALL klks kRow_5 := ⟨pm_rowB_ok (by decide +kernel), by decide +kernel, kw_1197, kw_1192⟩
theorem kRo_6 : pm_rowok kcl kALL klks kRow_6 := ⟨pm_rowB_ok (by decide +kernel), by decide +kernel, kw_1198, kw_1192⟩
theorem kRo_7 : pm_rowok kcl kALL klks kRow_7 := ⟨pm_rowB_ok (by decide +kernel), by decide +kernel, kw_1199, kw_1192⟩
theorem kRo_8 : pm_rowok kcl kALL klks kRow_8 := ⟨pm_rowB_ok (by decide +kernel), by decide +kernel, kw_1200, kw_1192⟩
theorem kRo_9 : pm_rowok kcl kALL klks kRow_9 := ⟨pm_rowB_ok (by decide +kernel), by decide +kernel, kw_1201, kw_1192⟩
theorem kRo_10 : pm_rowok kcl kALL klks kRow_10 := ⟨pm_rowB_ok (by decide +kernel), by decide +kernel, kw_1202, kw_1192⟩
theorem kRo_11 : pm_rowok kcl kALL klks kRow_11 := ⟨pm_rowB_ok (by decide +kernel), by decide +kernel, kw_1203, kw_1192⟩
theorem kRo_12 : pm_rowok kcl kALL klks kRow_12 := ⟨pm_rowB_ok (by decide +kernel), by decide +kernel, kw_1204, kw_1192⟩
theorem kRo_13 : pm_rowok kcl kALL klks kRow_13 := ⟨pm_rowB_ok (by decide +kernel), by decide +kernel, kw_1205, kw_1192⟩
theorem kRo_14 : pm_rowok kcl kALL klks kRow_14 := ⟨pm_rowB_ok (by decide +kernel), by decide +kernel, kw_1206, kw_1192⟩
theorem kRo_15 : pm_rowok kcl kALL klks kRow_15 := ⟨pm_rowB_ok (by decide +kernel), by decide +kernel, kw_1207, kw_1208⟩
theorem kRo_16 : pm_rowok kcl kALL klks kRow_16 := ⟨pm_rowB_ok (by decide +kernel), by decide +kernel, kw_1209, kw_1208⟩
theorem kRo_17 : pm_rowok kcl kALL klks kRow_17 := ⟨pm_rowB_ok (by decide +kernel), by decide +kernel, kw_1210, kw_1208⟩
theorem kRo_18 : pm_rowok kcl kALL klks kRow_18 := ⟨pm_rowB_ok (by decide +kernel), by decide +kernel, kw_1211, kw_1208⟩
theorem kRo_19 : pm_rowok kcl kALL klks kRow_19 := ⟨pm_rowB_ok (by decide +kernel), by decide +kernel, kw_1212, kw_1208⟩
theorem kRo_20 : pm_rowok kcl kALL klks kRow_20 := ⟨pm_rowB_ok (by decide +kernel), by decide +kernel, kw_1213, kw_1208⟩
theorem kRo_21 : pm_rowok kcl kALL klks kRow_21 := ⟨pm_rowB_ok (by decide +kernel), by decide +kernel, kw_1214, kw_1208⟩
theorem kRo_22 : pm_rowok kcl kALL klks kRow_22 := ⟨pm_rowB_ok (by decide +kernel), by decide +kernel, kw_1215, kw_1208⟩
theorem kRo_23 : pm_rowok kcl kALL klks kRow_23 := ⟨pm_rowB_ok (by decide +kernel), by decide +kernel, kw_1216, kw_1208⟩
theorem kRo_24 : pm_rowok kcl kALL klks kRow_24 := ⟨pm_rowB_ok (by decide +kernel), by decide +kernel, kw_1217, kw_1208⟩
theorem kRo_25 : pm_rowok kcl kALL klks kRow_25 := ⟨pm_rowB_ok (by decide +kernel), by decide +kernel, kw_1218, kw_1208⟩
theorem kRo_26 : pm_rowok kcl kALL klks kRow_26 := ⟨pm_rowB_ok (by decide +kernel), by decide +kernel, kw_1219, kw_1220⟩
theorem kRo_27 : pm_rowok kcl kALL klks kRow_27 := ⟨pm_rowB_ok (by decide +kernel), by decide +kernel, kw_1221, kw_1220⟩
theorem kRo_28 : pm_rowok kcl kALL klks kRow_28 := ⟨pm_rowB_ok (by decide +kernel), by decide +kernel, kw_1222, kw_1220⟩
theorem kRo_29 : pm_rowok kcl kALL klks kRow_29 := ⟨pm_rowB_ok (by decide +kernel), by decide +kernel, kw_1223, kw_1220⟩
theorem kRo_30 : pm_rowok kcl kALL klks kRow_30 := ⟨pm_rowB_ok (by decide +kernel), by decide +kernel, kw_1224, kw_1220⟩
theorem kRo_31 : pm_rowok kcl kALL klks kRow_31 := ⟨pm_rowB_ok (by decide +kernel), by decide +kernel, kw_1225, kw_1220⟩
theorem kRo_32 : pm_rowok kcl kALL klks kRow_32 := ⟨pm_rowB_ok (by decide +kernel), by decide +kernel, kw_1226, kw_1220⟩
theorem kRo_33 : pm_rowok kcl kALL klks kRow_33 := ⟨pm_rowB_ok (by decide +kernel), by decide +kernel, kw_1227, kw_1228⟩
theorem kRo_34 : pm_rowok kcl kALL klks kRow_34 := ⟨pm_rowB_ok (by decide +kernel), by decide +kernel, kw_1229, kw_1228⟩
theorem kRo_35 : pm_rowok kcl kALL klks kRow_35 := ⟨pm_rowB_ok (by decide +kernel), by decide +kernel, kw_1230, kw_1228⟩
theorem kRo_36 : pm_rowok kcl kALL klks kRow_36 := ⟨pm_rowB_ok (by decide +kernel), by decide +kernel, kw_1231, kw_1228⟩
theorem kRo_37 : pm_rowok kcl kALL klks kRow_37 := ⟨pm_rowB_ok (by decide +kernel), by decide +kernel, kw_1232, kw_1228⟩
theorem kRo_38 : pm_rowok kcl kALL klks kRow_38 := ⟨pm_rowB_ok (by decide +kernel), by decide +kernel, kw_1233, kw_1228⟩
theorem kRo_39 : pm_rowok kcl kALL klks kRow_39 := ⟨pm_rowB_ok (by decide +kernel), by decide +kernel, kw_1234, kw_1228⟩
theorem kRo_40 : pm_rowok kcl kALL klks kRow_40 := ⟨pm_rowB_ok (by decide +kernel), by decide +kernel, kw_1235, kw_1228⟩
theorem kRo_41 : pm_rowok kcl kALL klks kRow_41 := ⟨pm_rowB_ok (by decide +kernel), by decide +kernel, kw_1236, kw_1228⟩
theorem kRo_42 : pm_rowok kcl kALL klks kRow_42 := ⟨pm_rowB_ok (by decide +kernel), by decide +kernel, kw_1237, kw_1228⟩
theorem kRo_43 : pm_rowok kcl kALL klks kRow_43 := ⟨pm_rowB_ok (by decide +kernel), by decide +kernel, kw_1238, kw_1228⟩
theorem kRo_44 : pm_rowok kcl kALL klks kRow_44 := ⟨pm_rowB_ok (by decide +kernel), by decide +kernel, kw_1239, kw_1228⟩
theorem kRo_45 : pm_rowok kcl kALL klks kRow_45 := ⟨pm_rowB_ok (by decide +kernel), by decide +kernel, kw_1240, kw_1228⟩
theorem kRo_46 : pm_rowok kcl kALL klks kRow_46 := ⟨pm_rowB_ok (by decide +kernel), by decide +kernel, kw_1241, kw_1228⟩
theorem kRo_47 : pm_rowok kcl kALL klks kRow_47 := ⟨pm_rowB_ok (by decide +kernel), by decide +kernel, kw_1242, kw_1228⟩
theorem kRo_48 : pm_rowok kcl kALL klks kRow_48 := ⟨pm_rowB_ok (by decide +kernel), by decide +kernel, kw_1243, kw_1228⟩
theorem kRo_49 : pm_rowok kcl kALL klks kRow_49 := ⟨pm_rowB_ok (by decide +kernel), by decide +kernel, kw_1244, kw_1228⟩
theorem kRo_50 : pm_rowok kcl kALL klks kRow_50 := ⟨pm_rowB_ok (by decide +kernel), by decide +kernel, kw_1245, kw_1228⟩
theorem kRo_51 : pm_rowok kcl kALL klks kRow_51 := ⟨pm_rowB_ok (by decide +kernel), by decide +kernel, kw_1246, kw_1228⟩
theorem kRo_52 : pm_rowok kcl kALL klks kRow_52 := ⟨pm_rowB_ok (by decide +kernel), by decide +kernel, kw_1247, kw_1248⟩
theorem kRo_53 : pm_rowok kcl kALL klks kRow_53 := ⟨pm_rowB_ok (by decide +kernel), by decide +kernel, kw_1249, kw_1248⟩
theorem kRo_54 : pm_rowok kcl kALL klks kRow_54 := ⟨pm_rowB_ok (by decide +kernel), by decide +kernel, kw_1250, kw_1248⟩
theorem kRo_55 : pm_rowok kcl kALL klks kRow_55 := ⟨pm_rowB_ok (by decide +kernel), by decide +kernel, kw_1251, kw_1248⟩
theorem kRo_56 : pm_rowok kcl kALL klks kRow_56 := ⟨pm_rowB_ok (by decide +kernel), by decide +kernel, kw_1252, kw_1253⟩
theorem kRo_57 : pm_rowok kcl kALL klks kRow_57 := ⟨pm_rowB_ok (by decide +kernel), by decide +kernel, kw_1254, kw_1253⟩
theorem kRo_58 : pm_rowok kcl kALL klks kRow_58 := ⟨pm_rowB_ok (by decide +kernel), by decide +kernel, kw_1255, kw_1253⟩
theorem kRo_59 : pm_rowok kcl kALL klks kRow_59 := ⟨pm_rowB_ok (by decide +kernel), by decide +kernel, kw_1256, kw_1253⟩
theorem kRo_60 : pm_rowok kcl kALL klks kRow_60 := ⟨pm_rowB_ok (by decide +kernel), by decide +kernel, kw_1257, kw_1253⟩
theorem kRo_61 : pm_rowok kcl kALL klks kRow_61 := ⟨pm_rowB_ok (by decide +kernel), by decide +kernel, kw_1258, kw_1259⟩
theorem kRo_62 : pm_rowok kcl kALL klks kRow_62 := ⟨pm_rowB_ok (by decide +kernel), by decide +kernel, kw_1260, kw_1259⟩
theorem kRo_63 : pm_rowok kcl kALL klks kRow_63 := ⟨pm_rowB_ok (by decide +kernel), by decide +kernel, kw_1261, kw_1259⟩
theorem kRo_64 : pm_rowok kcl kALL klks kRow_64 := ⟨pm_rowB_ok (by decide +kernel), by decide +kernel, kw_1262, kw_1259⟩
theorem kRo_65 : pm_rowok kcl kALL klks kRow_65 := ⟨pm_rowB_ok (by decide +kernel), by decide +kernel, kw_1263, kw_1259⟩
theorem kRo_66 : pm_rowok kcl kALL klks kRow_66 := ⟨pm_rowB_ok (by decide +kernel), by decide +kernel, kw_1264, kw_1259⟩
theorem kRo_67 : pm_rowok kcl kALL klks kRow_67 := ⟨pm_rowB_ok (by decide +kernel), by decide +kernel, kw_1265, kw_1259⟩
theorem kRo_68 : pm_rowok kcl kALL klks kRow_68 := ⟨pm_rowB_ok (by decide +kernel), by decide +kernel, kw_1266, kw_1259⟩
theorem kRo_69 : pm_rowok kcl kALL klks kRow_69 := ⟨pm_rowB_ok (by decide +kernel), by decide +kernel, kw_1267, kw_1268⟩
theorem kRo_70 : pm_rowok kcl kALL klks kRow_70 := ⟨pm_rowB_ok (by decide +kernel), by decide +kernel, kw_1269, kw_1268⟩
theorem kRo_71 : pm_rowok kcl kALL klks kRow_71 := ⟨pm_rowB_ok (by decide +kernel), by decide +kernel, kw_1270, kw_1268⟩
theorem kRo_72 : pm_rowok kcl kALL klks kRow_72 := ⟨pm_rowB_ok (by decide +kernel), by decide +kernel, kw_1271, kw_1268⟩
theorem kRo_73 : pm_rowok kcl kALL klks kRow_73 := ⟨pm_rowB_ok (by decide +kernel), by decide +kernel, kw_1272, kw_1268⟩
theorem kRo_74 : pm_rowok kcl kALL klks kRow_74 := ⟨pm_rowB_ok (by decide +kernel), by decide +kernel, kw_1273, kw_1274⟩
theorem kRo_75 : pm_rowok kcl kALL klks kRow_75 := ⟨pm_rowB_ok (by decide +kernel), by decide +kernel, kw_1275, kw_1274⟩
theorem kRo_76 : pm_rowok kcl kALL klks kRow_76 := ⟨pm_rowB_ok (by decide +kernel), by decide +kernel, kw_1276, kw_1274⟩
theorem kRo_77 : pm_rowok kcl kALL klks kRow_77 := ⟨pm_rowB_ok (by decide +kernel), by decide +kernel, kw_1277, kw_1274⟩
theorem kRo_78 : pm_rowok kcl kALL klks kRow_78 := ⟨pm_rowB_ok (by decide +kernel), by decide +kernel, kw_1278, kw_1274⟩
theorem kRo_79 : pm_rowok kcl kALL klks kRow_79 := ⟨pm_rowB_ok (by decide +kernel), by decide +kernel, kw_1279, kw_1274⟩
theorem kRo_80 : pm_rowok kcl kALL klks kRow_80 := ⟨pm_rowB_ok (by decide +kernel), by decide +kernel, kw_1280, kw_1274⟩
theorem kRo_81 : pm_rowok kcl kALL klks kRow_81 := ⟨pm_rowB_ok (by decide +kernel), by decide +kernel, kw_1281, kw_1274⟩
theorem kRo_82 : pm_rowok kcl kALL klks kRow_82 := ⟨pm_rowB_ok (by decide +kernel), by decide +kernel, kw_1282, kw_1274⟩
theorem kRo_83 : pm_rowok kcl kALL klks kRow_83 := ⟨pm_rowB_ok (by decide +kernel), by decide +kernel, kw_1283, kw_1274⟩
theorem kRo_84 : pm_rowok kcl kALL klks kRow_84 := ⟨pm_rowB_ok (by decide +kernel), by decide +kernel, kw_1284, kw_1274⟩
theorem kRo_85 : pm_rowok kcl kALL klks kRow_85 := ⟨pm_rowB_ok (by decide +kernel), by decide +kernel, kw_1285, kw_1274⟩
theorem kRo_86 : pm_rowok kcl kALL klks kRow_86 := ⟨pm_rowB_ok (by decide +kernel), by decide +kernel, kw_1286, kw_1274⟩
theorem kRo_87 : pm_rowok kcl kALL klks kRow_87 := ⟨pm_rowB_ok (by decide +kernel), by decide +kernel, kw_1287, kw_1274⟩
theorem kRo_88 : pm_rowok kcl kALL klks kRow_88 := ⟨pm_rowB_ok (by decide +kernel), by decide +kernel, kw_1288, kw_1274⟩
theorem kRo_89 : pm_rowok kcl kALL klks kRow_89 := ⟨pm_rowB_ok (by decide +kernel), by decide +kernel, kw_1289, kw_1274⟩
theorem kRo_90 : pm_rowok kcl kALL klks kRow_90 := ⟨pm_rowB_ok (by decide +kernel), by decide +kernel, kw_1290, kw_1274⟩
theorem kRo_91 : pm_rowok kcl kALL klks kRow_91 := ⟨pm_rowB_ok (by decide +kernel), by decide +kernel, kw_1291, kw_1274⟩
theorem kRo_92 : pm_rowok kcl kALL klks kRow_92 := ⟨pm_rowB_ok (by decide +kernel), by decide +kernel, kw_1292, kw_1274⟩
theorem kRo_93 : pm_rowok kcl kALL klks kRow_93 := ⟨pm_rowB_ok (by decide +kernel), by decide +kernel, kw_1293, kw_1274⟩
theorem kRo_94 : pm_rowok kcl kALL klks kRow_94 := ⟨pm_rowB_ok (by decide +kernel), by decide +kernel, kw_1294, kw_1295⟩
theorem kRo_95 : pm_rowok kcl kALL klks kRow_95 := ⟨pm_rowB_ok (by decide +kernel), by decide +kernel, kw_1296, kw_1295⟩
theorem kRo_96 : pm_rowok kcl kALL klks kRow_96 := ⟨pm_rowB_ok (by decide +kernel), by decide +kernel, kw_1297, kw_1295⟩
theorem kRo_97 : pm_rowok kcl kALL klks kRow_97 := ⟨pm_rowB_ok (by decide +kernel), by decide +kernel, kw_1298, kw_1295⟩
theorem kRo_98 : pm_rowok kcl kALL klks kRow_98 := ⟨pm_rowB_ok (by decide +kernel), by decide +kernel, kw_1299, kw_1295⟩
theorem kRo_99 : pm_rowok kcl kALL klks kRow_99 := ⟨pm_rowB_ok (by decide +kernel), by decide +kernel, kw_1300, kw_1295⟩
theorem kRo_100 : pm_rowok kcl kALL klks kRow_100 := ⟨pm_rowB_ok (by decide +kernel), by decide +kernel, kw_1301, kw_1295⟩
theorem kRo_101 : pm_rowok kcl kALL klks kRow_101 := ⟨pm_rowB_ok (by decide +kernel), by decide +kernel, kw_1302, kw_1303⟩
theorem kRo_102 : pm_rowok kcl kALL klks kRow_102 := ⟨pm_rowB_ok (by decide +kernel), by decide +kernel, kw_1304, kw_1303⟩
theorem kRo_103 : pm_rowok kcl kALL klks kRow_103 := ⟨pm_rowB_ok (by decide +kernel), by decide +kernel, kw_1305, kw_1303⟩
theorem kRo_104 : pm_rowok kcl kALL klks kRow_104 := ⟨pm_rowB_ok (by decide +kernel), by decide +kernel, kw_1306, kw_1303⟩
theorem kRo_105 : pm_rowok kcl kALL klks kRow_105 := ⟨pm_rowB_ok (by decide +kernel), by decide +kernel, kw_1307, kw_1303⟩
theorem kRo_106 : pm_rowok kcl kALL klks kRow_106 := ⟨pm_rowB_ok (by decide +kernel), by decide +kernel, kw_1308, kw_1303⟩
theorem kRo_107 : pm_rowok kcl kALL klks kRow_107 := ⟨pm_rowB_ok (by decide +kernel), by decide +kernel, kw_1309, kw_1303⟩
theorem kRo_108 : pm_rowok kcl kALL klks kRow_108 := ⟨pm_rowB_ok (by decide +kernel), by decide +kernel, kw_1310, kw_1303⟩
theorem kRo_109 : pm_rowok kcl kALL klks kRow_109 := ⟨pm_rowB_ok (by decide +kernel), by decide +kernel, kw_1311, kw_1303⟩
theorem kRo_110 : pm_rowok kcl kALL klks kRow_110 := ⟨pm_rowB_ok (by decide +kernel), by decide +kernel, kw_1312, kw_1303⟩
theorem kRo_111 : pm_rowok kcl kALL klks kRow_111 := ⟨pm_rowB_ok (by decide +kernel), by decide +kernel, kw_1313, kw_1303⟩
theorem kRo_112 : pm_rowok kcl kALL klks kRow_112 := ⟨pm_rowB_ok (by decide +kernel), by decide +kernel, kw_1314, kw_1303⟩
theorem kRo_113 : pm_rowok kcl kALL klks kRow_113 := ⟨pm_rowB_ok (by decide +kernel), by decide +kernel, kw_1315, kw_1303⟩
theorem kRo_114 : pm_rowok kcl kALL klks kRow_114 := ⟨pm_rowB_ok (by decide +kernel), by decide +kernel, kw_1316, kw_1303⟩
theorem kRo_115 : pm_rowok kcl kALL klks kRow_115 := ⟨pm_rowB_ok (by decide +kernel), by decide +kernel, kw_1317, kw_1318⟩
theorem kRo_116 : pm_rowok kcl kALL klks kRow_116 := ⟨pm_rowB_ok (by decide +kernel), by decide +kernel, kw_1319, kw_1318⟩
theorem kRo_117 : pm_rowok kcl kALL klks kRow_117 := ⟨pm_rowB_ok (by decide +kernel), by decide +kernel, kw_1320, kw_1318⟩
theorem kRo_118 : pm_rowok kcl kALL klks kRow_118 := ⟨pm_rowB_ok (by decide +kernel), by decide +kernel, kw_1321, kw_1318⟩
theorem kRo_119 : pm_rowok kcl kALL klks kRow_119 := ⟨pm_rowB_ok (by decide +kernel), by decide +kernel, kw_1322, kw_1318⟩
theorem kRo_120 : pm_rowok kcl kALL klks kRow_120 := ⟨pm_rowB_ok (by decide +kernel), by decide +kernel, kw_1323, kw_1318⟩
theorem kRo_121 : pm_rowok kcl kALL klks kRow_121 := ⟨pm_rowB_ok (by decide +kernel), by decide +kernel, kw_1324, kw_1325⟩
theorem kRo_122 : pm_rowok kcl kALL klks kRow_122 := ⟨pm_rowB_ok (by decide +kernel), by decide +kernel, kw_1326, kw_1325⟩
theorem kRo_123 : pm_rowok kcl kALL klks kRow_123 := ⟨pm_rowB_ok (by decide +kernel), by decide +kernel, kw_1327, kw_1325⟩
theorem kRo_124 : pm_rowok kcl kALL klks kRow_124 := ⟨pm_rowB_ok (by decide +kernel), by decide +kernel, kw_1328, kw_1325⟩
theorem kRo_125 : pm_rowok kcl kALL klks kRow_125 := ⟨pm_rowB_ok (by decide +kernel), by decide +kernel, kw_1329, kw_1325⟩
theorem kRo_126 : pm_rowok kcl kALL klks kRow_126 := ⟨pm_rowB_ok (by decide +kernel), by decide +kernel, kw_1330, kw_1325⟩
theorem kRo_127 : pm_rowok kcl kALL klks kRow_127 := ⟨pm_rowB_ok (by decide +kernel), by decide +kernel, kw_1331, kw_1325⟩
theorem kRo_128 : pm_rowok kcl kALL klks kRow_128 := ⟨pm_rowB_ok (by decide +kernel), by decide +kernel, kw_1332, kw_1325⟩
theorem kRo_129 : pm_rowok kcl kALL klks kRow_129 := ⟨pm_rowB_ok (by decide +kernel), by decide +kernel, kw_1333, kw_1325⟩
theorem kRo_130 : pm_rowok kcl kALL klks kRow_130 := ⟨pm_rowB_ok (by decide +kernel), by decide +kernel, kw_1334, kw_1325⟩
theorem kRo_131 : pm_rowok kcl kALL klks kRow_131 := ⟨pm_rowB_ok (by decide +kernel), by decide +kernel, kw_1335, kw_1325⟩
theorem kRo_132 : pm_rowok kcl kALL klks kRow_132 := ⟨pm_rowB_ok (by decide +kernel), by decide +kernel, kw_1336, kw_1325⟩
theorem kRo_133 : pm_rowok kcl kALL klks kRow_133 := ⟨pm_rowB_ok (by decide +kernel), by decide +kernel, kw_1337, kw_1325⟩
theorem kRo_134 : pm_rowok kcl kALL klks kRow_134 := ⟨pm_rowB_ok (by decide +kernel), by decide +kernel, kw_1338, kw_1325⟩
theorem kRo_135 : pm_rowok kcl kALL klks kRow_135 := ⟨pm_rowB_ok (by decide +kernel), by decide +kernel, kw_1339, kw_1325⟩
theorem kRo_136 : pm_rowok kcl kALL klks kRow_136 := ⟨pm_rowB_ok (by decide +kernel), by decide +kernel, kw_1340, kw_1325⟩
theorem kRo_137 : pm_rowok kcl kALL klks kRow_137 := ⟨pm_rowB_ok (by decide +kernel), by decide +kernel, kw_1341, kw_1325⟩
theorem kRo_138 : pm_rowok kcl kALL klks kRow_138 := ⟨pm_rowB_ok (by decide +kernel), by decide +kernel, kw_1342, kw_1325⟩
theorem kRo_139 : pm_rowok kcl kALL klks kRow_139 := ⟨pm_rowB_ok (by decide +kernel), by decide +kernel, kw_1343, kw_1325⟩
theorem kRo_140 : pm_rowok kcl kALL klks kRow_140 := ⟨pm_rowB_ok (by decide +kernel), by decide +kernel, kw_1344, kw_1325⟩
theorem kRo_141 : pm_rowok kcl kALL klks kRow_141 := ⟨pm_rowB_ok (by decide +kernel), by decide +kernel, kw_1345, kw_1325⟩
theorem kRo_142 : pm_rowok kcl kALL klks kRow_142 := ⟨pm_rowB_ok (by decide +kernel), by decide +kernel, kw_1346, kw_1325⟩
theorem kRo_143 : pm_rowok kcl kALL klks kRow_143 := ⟨pm_rowB_ok (by decide +kernel), by decide +kernel, kw_1347, kw_1325⟩
theorem kRo_144 : pm_rowok kcl kALL klks kRow_144 := ⟨pm_rowB_ok (by decide +kernel), by decide +kernel, kw_1348, kw_1325⟩
theorem kRo_145 : pm_rowok kcl kALL klks kRow_145 := ⟨pm_rowB_ok (by decide +kernel), by decide +kernel, kw_1349, kw_1325⟩
theorem kRo_146 : pm_rowok kcl kALL klks kRow_146 := ⟨pm_rowB_ok (by decide +kernel), by decide +kernel, kw_1350, kw_1325⟩
theorem kRo_147 : pm_rowok kcl kALL klks kRow_147 := ⟨pm_rowB_ok (by decide +kernel), by decide +kernel, kw_1351, kw_1325⟩
theorem kRo_148 : pm_rowok kcl kALL klks kRow_148 := ⟨pm_rowB_ok (by decide +kernel), by decide +kernel, kw_1352, kw_1325⟩
theorem kRo_149 : pm_rowok kcl kALL klks kRow_149 := ⟨pm_rowB_ok (by decide +kernel), by decide +kernel, kw_1353, kw_1325⟩
theorem kRo_150 : pm_rowok kcl kALL klks kRow_150 := ⟨pm_rowB_ok (by decide +kernel), by decide +kernel, kw_1354, kw_1325⟩
theorem kRo_151 : pm_rowok kcl kALL klks kRow_151 := ⟨pm_rowB_ok (by decide +kernel), by decide +kernel, kw_1355, kw_1325⟩
theorem kRo_152 : pm_rowok kcl kALL klks kRow_152 := ⟨pm_rowB_ok (by decide +kernel), by decide +kernel, kw_1356, kw_1325⟩
theorem kRo_153 : pm_rowok kcl kALL klks kRow_153 := ⟨pm_rowB_ok (by decide +kernel), by decide +kernel, kw_1357, kw_1325⟩
theorem kRo_154 : pm_rowok kcl kALL klks kRow_154 := ⟨pm_rowB_ok (by decide +kernel), by decide +kernel, kw_1358, kw_1325⟩
theorem kRo_155 : pm_rowok kcl kALL klks kRow_155 := ⟨pm_rowB_ok (by decide +kernel), by decide +kernel, kw_1359, kw_1325⟩
theorem kRo_156 : pm_rowok kcl kALL klks kRow_156 := ⟨pm_rowB_ok (by decide +kernel), by decide +kernel, kw_1360, kw_1325⟩
theorem kRo_157 : pm_rowok kcl kALL klks kRow_157 := ⟨pm_rowB_ok (by decide +kernel), by decide +kernel, kw_1361, kw_1325⟩
theorem kRo_158 : pm_rowok kcl kALL klks kRow_158 := ⟨pm_rowB_ok (by decide +kernel), by decide +kernel, kw_1362, kw_1325⟩
theorem kRo_159 : pm_rowok kcl kALL klks kRow_159 := ⟨pm_rowB_ok (by decide +kernel), by decide +kernel, kw_1363, kw_1325⟩
theorem kRo_160 : pm_rowok kcl kALL klks kRow_160 := ⟨pm_rowB_ok (by decide +kernel), by decide +kernel, kw_1364, kw_1325⟩
theorem kRo_161 : pm_rowok kcl kALL klks kRow_161 := ⟨pm_rowB_ok (by decide +kernel), by decide +kernel, kw_1365, kw_1325⟩
theorem kRo_162 : pm_rowok kcl kALL klks kRow_162 := ⟨pm_rowB_ok (by decide +kernel), by decide +kernel, kw_1366, kw_1325⟩
theorem kRo_163 : pm_rowok kcl kALL klks kRow_163 := ⟨pm_rowB_ok (by decide +kernel), by decide +kernel, kw_1367, kw_1325⟩
theorem kRo_164 : pm_rowok kcl kALL klks kRow_164 := ⟨pm_rowB_ok (by decide +kernel), by decide +kernel, kw_1368, kw_1325⟩
theorem kRo_165 : pm_rowok kcl kALL klks kRow_165 := ⟨pm_rowB_ok (by decide +kernel), by decide +kernel, kw_1369, kw_1325⟩
theorem kRo_166 : pm_rowok kcl kALL klks kRow_166 := ⟨pm_rowB_ok (by decide +kernel), by decide +kernel, kw_1370, kw_1325⟩
theorem kRo_167 : pm_rowok kcl kALL klks kRow_167 := ⟨pm_rowB_ok (by decide +kernel), by decide +kernel, kw_1371, kw_1325⟩
theorem kRo_168 : pm_rowok kcl kALL klks kRow_168 := ⟨pm_rowB_ok (by decide +kernel), by decide +kernel, kw_1372, kw_1325⟩
theorem kRo_169 : pm_rowok kcl kALL klks kRow_169 := ⟨pm_rowB_ok (by decide +kernel), by decide +kernel, kw_1373, kw_1325⟩
theorem kRo_170 : pm_rowok kcl kALL klks kRow_170 := ⟨pm_rowB_ok (by decide +kernel), by decide +kernel, kw_1374, kw_1325⟩
theorem kRo_171 : pm_rowok kcl kALL klks kRow_171 := ⟨pm_rowB_ok (by decide +kernel), by decide +kernel, kw_1375, kw_1325⟩
theorem kRo_172 : pm_rowok kcl kALL klks kRow_172 := ⟨pm_rowB_ok (by decide +kernel), by decide +kernel, kw_1376, kw_1325⟩
theorem kRo_173 : pm_rowok kcl kALL klks kRow_173 := ⟨pm_rowB_ok (by decide +kernel), by decide +kernel, kw_1377, kw_1325⟩
theorem kRo_174 : pm_rowok kcl kALL klks kRow_174 := ⟨pm_rowB_ok (by decide +kernel), by decide +kernel, kw_1378, kw_1325⟩
theorem kRo_175 : pm_rowok kcl kALL klks kRow_175 := ⟨pm_rowB_ok (by decide +kernel), by decide +kernel, kw_1379, kw_1325⟩
theorem kRo_176 : pm_rowok kcl kALL klks kRow_176 := ⟨pm_rowB_ok (by decide +kernel), by decide +kernel, kw_1380, kw_1325⟩
theorem kRo_177 : pm_rowok kcl kALL klks kRow_177 := ⟨pm_rowB_ok (by decide +kernel), by decide +kernel, kw_1381, kw_1325⟩
theorem kRo_178 : pm_rowok kcl kALL klks kRow_178 := ⟨pm_rowB_ok (by decide +kernel), by decide +kernel, kw_1382, kw_1325⟩
theorem kRo_179 : pm_rowok kcl kALL klks kRow_179 := ⟨pm_rowB_ok (by decide +kernel), by decide +kernel, kw_1383, kw_1325⟩
theorem kRo_180 : pm_rowok kcl kALL klks kRow_180 := ⟨pm_rowB_ok (by decide +kernel), by decide +kernel, kw_1384, kw_1325⟩
theorem kRo_181 : pm_rowok kcl kALL klks kRow_181 := ⟨pm_rowB_ok (by decide +kernel), by decide +kernel, kw_1385, kw_1386⟩
theorem kRo_182 : pm_rowok kcl kALL klks kRow_182 := ⟨pm_rowB_ok (by decide +kernel), by decide +kernel, kw_1387, kw_1386⟩
theorem kRo_183 : pm_rowok kcl kALL klks kRow_183 := ⟨pm_rowB_ok (by decide +kernel), by decide +kernel, kw_1388, kw_1386⟩
theorem kRo_184 : pm_rowok kcl kALL klks kRow_184 := ⟨pm_rowB_ok (by decide +kernel), by decide +kernel, kw_1389, kw_1386⟩
theorem kRo_185 : pm_rowok kcl kALL klks kRow_185 := ⟨pm_rowB_ok (by decide +kernel), by decide +kernel, kw_1390, kw_1386⟩
theorem kRo_186 : pm_rowok kcl kALL klks kRow_186 := ⟨pm_rowB_ok (by decide +kernel), by decide +kernel, kw_1391, kw_1386⟩
theorem kRo_187 : pm_rowok kcl kALL klks kRow_187 := ⟨pm_rowB_ok (by decide +kernel), by decide +kernel, kw_1392, kw_1386⟩
theorem kRo_188 : pm_rowok kcl kALL klks kRow_188 := ⟨pm_rowB_ok (by decide +kernel), by decide +kernel, kw_1393, kw_1386⟩
theorem kRo_189 : pm_rowok kcl kALL klks kRow_189 := ⟨pm_rowB_ok (by decide +kernel), by decide +kernel, kw_1394, kw_1386⟩
theorem kRo_190 : pm_rowok kcl kALL klks kRow_190 := ⟨pm_rowB_ok (by decide +kernel), by decide +kernel, kw_1395, kw_1386⟩
theorem kRo_191 : pm_rowok kcl kALL klks kRow_191 := ⟨pm_rowB_ok (by decide +kernel), by decide +kernel, kw_1396, kw_1386⟩
theorem kRo_192 : pm_rowok kcl kALL klks kRow_192 := ⟨pm_rowB_ok (by decide +kernel), by decide +kernel, kw_1397, kw_1386⟩
theorem kRo_193 : pm_rowok kcl kALL klks kRow_193 := ⟨pm_rowB_ok (by decide +kernel), by decide +kernel, kw_1398, kw_1386⟩
theorem kRo_194 : pm_rowok kcl kALL klks kRow_194 := ⟨pm_rowB_ok (by decide +kernel), by decide +kernel, kw_1399, kw_1386⟩
theorem kRo_195 : pm_rowok kcl kALL klks kRow_195 := ⟨pm_rowB_ok (by decide +kernel), by decide +kernel, kw_1400, kw_1386⟩
theorem kRo_196 : pm_rowok kcl kALL klks kRow_196 := ⟨pm_rowB_ok (by decide +kernel), by decide +kernel, kw_1401, kw_1386⟩
theorem kRo_197 : pm_rowok kcl kALL klks kRow_197 := ⟨pm_rowB_ok (by decide +kernel), by decide +kernel, kw_1402, kw_1386⟩
theorem kRo_198 : pm_rowok kcl kALL klks kRow_198 := ⟨pm_rowB_ok (by decide +kernel), by decide +kernel, kw_1403, kw_1386⟩
theorem kRo_199 : pm_rowok kcl kALL klks kRow_199 := ⟨pm_rowB_ok (by decide +kernel), by decide +kernel, kw_1404, kw_1386⟩
theorem kRo_200 : pm_rowok kcl kALL klks kRow_200 := ⟨pm_rowB_ok (by decide +kernel), by decide +kernel, kw_1405, kw_1386⟩
theorem kRo_201 : pm_rowok kcl kALL klks kRow_201 := ⟨pm_rowB_ok (by decide +kernel), by decide +kernel, kw_1406, kw_1386⟩
theorem kRo_202 : pm_rowok kcl kALL klks kRow_202 := ⟨pm_rowB_ok (by decide +kernel), by decide +kernel, kw_1407, kw_1386⟩
theorem kRo_203 : pm_rowok kcl kALL klks kRow_203 := ⟨pm_rowB_ok (by decide +kernel), by decide +kernel, kw_1408, kw_1386⟩
theorem kRo_204 : pm_rowok kcl kALL klks kRow_204 := ⟨pm_rowB_ok (by decide +kernel), by decide +kernel, kw_1409, kw_1386⟩
theorem kRo_205 : pm_rowok kcl kALL klks kRow_205 := ⟨pm_rowB_ok (by decide +kernel), by decide +kernel, kw_1410, kw_1386⟩
theorem kRo_206 : pm_rowok kcl kALL klks kRow_206 := ⟨pm_rowB_ok (by decide +kernel), by decide +kernel, kw_1411, kw_1386⟩
theorem kRo_207 : pm_rowok kcl kALL klks kRow_207 := ⟨pm_rowB_ok (by decide +kernel), by decide +kernel, kw_1412, kw_1386⟩
theorem kRo_208 : pm_rowok kcl kALL klks kRow_208 := ⟨pm_rowB_ok (by decide +kernel), by decide +kernel, kw_1413, kw_1386⟩
theorem kRo_209 : pm_rowok kcl kALL klks kRow_209 := ⟨pm_rowB_ok (by decide +kernel), by decide +kernel, kw_1414, kw_1386⟩
theorem kRo_210 : pm_rowok kcl kALL klks kRow_210 := ⟨pm_rowB_ok (by decide +kernel), by decide +kernel, kw_1415, kw_1386⟩
theorem kRo_211 : pm_rowok kcl kALL klks kRow_211 := ⟨pm_rowB_ok (by decide +kernel), by decide +kernel, kw_1416, kw_1386⟩
theorem kRo_212 : pm_rowok kcl kALL klks kRow_212 := ⟨pm_rowB_ok (by decide +kernel), by decide +kernel, kw_1417, kw_1386⟩
theorem kRo_213 : pm_rowok kcl kALL klks kRow_213 := ⟨pm_rowB_ok (by decide +kernel), by decide +kernel, kw_1418, kw_1386⟩
theorem kRo_214 : pm_rowok kcl kALL klks kRow_214 := ⟨pm_rowB_ok (by decide +kernel), by decide +kernel, kw_1419, kw_1386⟩
theorem kRo_215 : pm_rowok kcl kALL klks kRow_215 := ⟨pm_rowB_ok (by decide +kernel), by decide +kernel, kw_1420, kw_1386⟩
theorem kRo_216 : pm_rowok kcl kALL klks kRow_216 := ⟨pm_rowB_ok (by decide +kernel), by decide +kernel, kw_1421, kw_1386⟩
theorem kRo_217 : pm_rowok kcl kALL klks kRow_217 := ⟨pm_rowB_ok (by decide +kernel), by decide +kernel, kw_1422, kw_1386⟩
theorem kRo_218 : pm_rowok kcl kALL klks kRow_218 := ⟨pm_rowB_ok (by decide +kernel), by decide +kernel, kw_1423, kw_1386⟩
theorem kRo_219 : pm_rowok kcl kALL klks kRow_219 := ⟨pm_rowB_ok (by decide +kernel), by decide +kernel, kw_1424, kw_1386⟩
theorem kRo_220 : pm_rowok kcl kALL klks kRow_220 := ⟨pm_rowB_ok (by decide +kernel), by decide +kernel, kw_1425, kw_1386⟩
theorem kRo_221 : pm_rowok kcl kALL klks kRow_221 := ⟨pm_rowB_ok (by decide +kernel), by decide +kernel, kw_1426, kw_1386⟩
theorem kRo_222 : pm_rowok kcl kALL klks kRow_222 := ⟨pm_rowB_ok (by decide +kernel), by decide +kernel, kw_1427, kw_1386⟩
theorem kRo_223 : pm_rowok kcl kALL klks kRow_223 := ⟨pm_rowB_ok (by decide +kernel), by decide +kernel, kw_1428, kw_1386⟩
theorem kRo_224 : pm_rowok kcl kALL klks kRow_224 := ⟨pm_rowB_ok (by decide +kernel), by decide +kernel, kw_1429, kw_1386⟩
theorem kRo_225 : pm_rowok kcl kALL klks kRow_225 := ⟨pm_rowB_ok (by decide +kernel), by decide +kernel, kw_1430, kw_1386⟩
theorem kRo_226 : pm_rowok kcl kALL klks kRow_226 := ⟨pm_rowB_ok (by decide +kernel), by decide +kernel, kw_1431, kw_1386⟩
theorem kRo_227 : pm_rowok kcl kALL klks kRow_227 := ⟨pm_rowB_ok (by decide +kernel), by decide +kernel, kw_1432, kw_1386⟩
theorem kRo_228 : pm_rowok kcl kALL klks kRow_228 := ⟨pm_rowB_ok (by decide +kernel), by decide +kernel, kw_1433, kw_1386⟩
theorem kRo_229 : pm_rowok kcl kALL klks kRow_229 := ⟨pm_rowB_ok (by decide +kernel), by decide +kernel, kw_1434, kw_1386⟩
theorem kRo_230 : pm_rowok kcl kALL klks kRow_230 := ⟨pm_rowB_ok (by decide +kernel), by decide +kernel, kw_1435, kw_1386⟩
theorem kRo_231 : pm_rowok kcl kALL klks kRow_231 := ⟨pm_rowB_ok (by decide +kernel), by decide +kernel, kw_1436, kw_1386⟩
theorem kRo_232 : pm_rowok kcl kALL klks kRow_232 := ⟨pm_rowB_ok (by decide +kernel), by decide +kernel, kw_1437, kw_1386⟩
theorem kRo_233 : pm_rowok kcl kALL klks kRow_233 := ⟨pm_rowB_ok (by decide +kernel), by decide +kernel, kw_1438, kw_1386⟩
theorem kRo_234 : pm_rowok kcl kALL klks kRow_234 := ⟨pm_rowB_ok (by decide +kernel), by decide +kernel, kw_1439, kw_1386⟩
theorem kRo_235 : pm_rowok kcl kALL klks kRow_235 := ⟨pm_rowB_ok (by decide +kernel), by decide +kernel, kw_1440, kw_1386⟩
theorem kRo_236 : pm_rowok kcl kALL klks kRow_236 := ⟨pm_rowB_ok (by decide +kernel), by decide +kernel, kw_1441, kw_1386⟩
theorem kRo_237 : pm_rowok kcl kALL klks kRow_237 := ⟨pm_rowB_ok (by decide +kernel), by decide +kernel, kw_1442, kw_1386⟩
theorem kRo_238 : pm_rowok kcl kALL klks kRow_238 := ⟨pm_rowB_ok (by decide +kernel), by decide +kernel, kw_1443, kw_1386⟩
theorem kRo_239 : pm_rowok kcl kALL klks kRow_239 := ⟨pm_rowB_ok (by decide +kernel), by decide +kernel, kw_1444, kw_1386⟩
theorem kRo_240 : pm_rowok kcl kALL klks kRow_240 := ⟨pm_rowB_ok (by decide +kernel), by decide +kernel, kw_1445, kw_1386⟩
theorem kRo_241 : pm_rowok kcl kALL klks kRow_241 := ⟨pm_rowB_ok (by decide +kernel), by decide +kernel, kw_1446, kw_1386⟩
theorem kRo_242 : pm_rowok kcl kALL klks kRow_242 := ⟨pm_rowB_ok (by decide +kernel), by decide +kernel, kw_1447, kw_1386⟩
theorem kRo_243 : pm_rowok kcl kALL klks kRow_243 := ⟨pm_rowB_ok (by decide +kernel), by decide +kernel, kw_1448, kw_1386⟩
theorem kRo_244 : pm_rowok kcl kALL klks kRow_244 := ⟨pm_rowB_ok (by decide +kernel), by decide +kernel, kw_1449, kw_1386⟩
theorem kRo_245 : pm_rowok kcl kALL klks kRow_245 := ⟨pm_rowB_ok (by decide +kernel), by decide +kernel, kw_1450, kw_1386⟩
theorem kRo_246 : pm_rowok kcl kALL klks kRow_246 := ⟨pm_rowB_ok (by decide +kernel), by decide +kernel, kw_1451, kw_1386⟩
theorem kRo_247 : pm_rowok kcl kALL klks kRow_247 := ⟨pm_rowB_ok (by decide +kernel), by decide +kernel, kw_1452, kw_1386⟩
theorem kRo_248 : pm_rowok kcl kALL klks kRow_248 := ⟨pm_rowB_ok (by decide +kernel), by decide +kernel, kw_1453, kw_1386⟩
theorem kRo_249 : pm_rowok kcl kALL klks kRow_249 := ⟨pm_rowB_ok (by decide +kernel), by decide +kernel, kw_1454, kw_1386⟩
theorem kRo_250 : pm_rowok kcl kALL klks kRow_250 := ⟨pm_rowB_ok (by decide +kernel), by decide +kernel, kw_1455, kw_1386⟩
theorem kRo_251 : pm_rowok kcl kALL klks kRow_251 := ⟨pm_rowB_ok (by decide +kernel), by decide +kernel, kw_1456, kw_1386⟩
theorem kRo_252 : pm_rowok kcl kALL klks kRow_252 := ⟨pm_rowB_ok (by decide +kernel), by decide +kernel, kw_1457, kw_1386⟩
theorem kRo_253 : pm_rowok kcl kALL klks kRow_253 := ⟨pm_rowB_ok (by decide +kernel), by decide +kernel, kw_1458, kw_1386⟩
theorem kRo_254 : pm_rowok kcl kALL klks kRow_254 := ⟨pm_rowB_ok (by decide +kernel), by decide +kernel, kw_1459, kw_1386⟩
theorem kRo_255 : pm_rowok kcl kALL klks kRow_255 := ⟨pm_rowB_ok (by decide +kernel), by decide +kernel, kw_1460, kw_1386⟩
theorem kRo_256 : pm_rowok kcl kALL klks kRow_256 := ⟨pm_rowB_ok (by decide +kernel), by decide +kernel, kw_1461, kw_1386⟩
theorem kRo_257 : pm_rowok kcl kALL klks kRow_257 := ⟨pm_rowB_ok (by decide +kernel), by decide +kernel, kw_1462, kw_1386⟩
theorem kRo_258 : pm_rowok kcl kALL klks kRow_258 := ⟨pm_rowB_ok (by decide +kernel), by decide +kernel, kw_1463, kw_1386⟩
theorem kRo_259 : pm_rowok kcl kALL klks kRow_259 := ⟨pm_rowB_ok (by decide +kernel), by decide +kernel, kw_1464, kw_1386⟩
theorem kRo_260 : pm_rowok kcl kALL klks kRow_260 := ⟨pm_rowB_ok (by decide +kernel), by decide +kernel, kw_1465, kw_1386⟩
theorem kRo_261 : pm_rowok kcl kALL klks kRow_261 := ⟨pm_rowB_ok (by decide +kernel), by decide +kernel, kw_1466, kw_1386⟩
theorem kRo_262 : pm_rowok kcl kALL klks kRow_262 := ⟨pm_rowB_ok (by decide +kernel), by decide +kernel, kw_1467, kw_1386⟩
theorem kRo_263 : pm_rowok kcl kALL klks kRow_263 := ⟨pm_rowB_ok (by decide +kernel), by decide +kernel, kw_1468, kw_1386⟩
theorem kRo_264 : pm_rowok kcl kALL klks kRow_264 := ⟨pm_rowB_ok (by decide +kernel), by decide +kernel, kw_1469, kw_1386⟩
theorem kRo_265 : pm_rowok kcl kALL klks kRow_265 := ⟨pm_rowB_ok (by decide +kernel), by decide +kernel, kw_1470, kw_1386⟩
theorem kRo_266 : pm_rowok kcl kALL klks kRow_266 := ⟨pm_rowB_ok (by decide +kernel), by decide +kernel, kw_1471, kw_1386⟩
theorem kRo_267 : pm_rowok kcl kALL klks kRow_267 := ⟨pm_rowB_ok (by decide +kernel), by decide +kernel, kw_1472, kw_1386⟩
theorem kRo_268 : pm_rowok kcl kALL klks kRow_268 := ⟨pm_rowB_ok (by decide +kernel), by decide +kernel, kw_1473, kw_1386⟩
theorem kRo_269 : pm_rowok kcl kALL klks kRow_269 := ⟨pm_rowB_ok (by decide +kernel), by decide +kernel, kw_1474, kw_1386⟩
theorem kRo_270 : pm_rowok kcl kALL klks kRow_270 := ⟨pm_rowB_ok (by decide +kernel), by decide +kernel, kw_1475, kw_1386⟩
theorem kRo_271 : pm_rowok kcl kALL klks kRow_271 := ⟨pm_rowB_ok (by decide +kernel), by decide +kernel, kw_1476, kw_1386⟩
theorem kRo_272 : pm_rowok kcl kALL klks kRow_272 := ⟨pm_rowB_ok (by decide +kernel), by decide +kernel, kw_1477, kw_1386⟩
theorem kRo_273 : pm_rowok kcl kALL klks kRow_273 := ⟨pm_rowB_ok (by decide +kernel), by decide +kernel, kw_1478, kw_1386⟩
theorem kRo_274 : pm_rowok kcl kALL klks kRow_274 := ⟨pm_rowB_ok (by decide +kernel), by decide +kernel, kw_1479, kw_1386⟩
theorem kRo_275 : pm_rowok kcl kALL klks kRow_275 := ⟨pm_rowB_ok (by decide +kernel), by decide +kernel, kw_1480, kw_1386⟩
theorem kRo_276 : pm_rowok kcl kALL klks kRow_276 := ⟨pm_rowB_ok (by decide +kernel), by decide +kernel, kw_1481, kw_1386⟩
theorem kRo_277 : pm_rowok kcl kALL klks kRow_277 := ⟨pm_rowB_ok (by decide +kernel), by decide +kernel, kw_1482, kw_1386⟩
theorem kRo_278 : pm_rowok kcl kALL klks kRow_278 := ⟨pm_rowB_ok (by decide +kernel), by decide +kernel, kw_1483, kw_1386⟩
theorem kRo_279 : pm_rowok kcl kALL klks kRow_279 := ⟨pm_rowB_ok (by decide +kernel), by decide +kernel, kw_1484, kw_1386⟩
theorem kRo_280 : pm_rowok kcl kALL klks kRow_280 := ⟨pm_rowB_ok (by decide +kernel), by decide +kernel, kw_1485, kw_1386⟩
theorem kRo_281 : pm_rowok kcl kALL klks kRow_281 := ⟨pm_rowB_ok (by decide +kernel), by decide +kernel, kw_1486, kw_1386⟩
theorem kRo_282 : pm_rowok kcl kALL klks kRow_282 := ⟨pm_rowB_ok (by decide +kernel), by decide +kernel, kw_1487, kw_1386⟩
theorem kRo_283 : pm_rowok kcl kALL klks kRow_283 := ⟨pm_rowB_ok (by decide +kernel), by decide +kernel, kw_1488, kw_1386⟩
theorem kRo_284 : pm_rowok kcl kALL klks kRow_284 := ⟨pm_rowB_ok (by decide +kernel), by decide +kernel, kw_1489, kw_1386⟩
theorem kRo_285 : pm_rowok kcl kALL klks kRow_285 := ⟨pm_rowB_ok (by decide +kernel), by decide +kernel, kw_1490, kw_1386⟩
theorem kRo_286 : pm_rowok kcl kALL klks kRow_286 := ⟨pm_rowB_ok (by decide +kernel), by decide +kernel, kw_1491, kw_1386⟩
theorem kRo_287 : pm_rowok kcl kALL klks kRow_287 := ⟨pm_rowB_ok (by decide +kernel), by decide +kernel, kw_1492, kw_1386⟩
theorem kRo_288 : pm_rowok kcl kALL klks kRow_288 := ⟨pm_rowB_ok (by decide +kernel), by decide +kernel, kw_1493, kw_1386⟩
theorem kRo_289 : pm_rowok kcl kALL klks kRow_289 := ⟨pm_rowB_ok (by decide +kernel), by decide +kernel, kw_1494, kw_1386⟩
theorem kRo_290 : pm_rowok kcl kALL klks kRow_290 := ⟨pm_rowB_ok (by decide +kernel), by decide +kernel, kw_1495, kw_1386⟩
theorem kRo_291 : pm_rowok kcl kALL klks kRow_291 := ⟨pm_rowB_ok (by decide +kernel), by decide +kernel, kw_1496, kw_1386⟩
theorem kRo_292 : pm_rowok kcl kALL klks kRow_292 := ⟨pm_rowB_ok (by decide +kernel), by decide +kernel, kw_1497, kw_1386⟩
theorem kRo_293 : pm_rowok kcl kALL klks kRow_293 := ⟨pm_rowB_ok (by decide +kernel), by decide +kernel, kw_1498, kw_1386⟩
theorem kRo_294 : pm_rowok kcl kALL klks kRow_294 := ⟨pm_rowB_ok (by decide +kernel), by decide +kernel, kw_1499, kw_1386⟩
theorem kRo_295 : pm_rowok kcl kALL klks kRow_295 := ⟨pm_rowB_ok (by decide +kernel), by decide +kernel, kw_1500, kw_1386⟩
theorem kRo_296 : pm_rowok kcl kALL klks kRow_296 := ⟨pm_rowB_ok (by decide +kernel), by decide +kernel, kw_1501, kw_1386⟩
theorem kRo_297 : pm_rowok kcl kALL klks kRow_297 := ⟨pm_rowB_ok (by decide +kernel), by decide +kernel, kw_1502, kw_1386⟩
theorem kRo_298 : pm_rowok kcl kALL klks kRow_298 := ⟨pm_rowB_ok (by decide +kernel), by decide +kernel, kw_1503, kw_1386⟩
theorem kRo_299 : pm_rowok kcl kALL klks kRow_299 := ⟨pm_rowB_ok (by decide +kernel), by decide +kernel, kw_1504, kw_1386⟩
theorem kRo_300 : pm_rowok kcl kALL klks kRow_300 := ⟨pm_rowB_ok (by decide +kernel), by decide +kernel, kw_1505, kw_1506⟩
theorem kRo_301 : pm_rowok kcl kALL klks kRow_301 := ⟨pm_rowB_ok (by decide +kernel), by decide +kernel, kw_1507, kw_1506⟩
theorem kRo_302 : pm_rowok kcl kALL klks kRow_302 := ⟨pm_rowB_ok (by decide +kernel), by decide +kernel, kw_1508, kw_1506⟩
theorem kRo_303 : pm_rowok kcl kALL klks kRow_303 := ⟨pm_rowB_ok (by decide +kernel), by decide +kernel, kw_1509, kw_1510⟩
theorem kRo_304 : pm_rowok kcl kALL klks kRow_304 := ⟨pm_rowB_ok (by decide +kernel), by decide +kernel, kw_1511, kw_1510⟩
theorem kRo_305 : pm_rowok kcl kALL klks kRow_305 := ⟨pm_rowB_ok (by decide +kernel), by decide +kernel, kw_1512, kw_1513⟩
theorem kRo_306 : pm_rowok kcl kALL klks kRow_306 := ⟨pm_rowB_ok (by decide +kernel), by decide +kernel, kw_1514, kw_1515⟩
theorem kRo_307 : pm_rowok kcl kALL klks kRow_307 := ⟨pm_rowB_ok (by decide +kernel), by decide +kernel, kw_1516, kw_1515⟩
theorem kRo_308 : pm_rowok kcl kALL klks kRow_308 := ⟨pm_rowB_ok (by decide +kernel), by decide +kernel, kw_1517, kw_1515⟩
theorem kRo_309 : pm_rowok kcl kALL klks kRow_309 := ⟨pm_rowB_ok (by decide +kernel), by decide +kernel, kw_1518, kw_1515⟩
theorem kRo_310 : pm_rowok kcl kALL klks kRow_310 := ⟨pm_rowB_ok (by decide +kernel), by decide +kernel, kw_1519, kw_1515⟩
theorem kRo_311 : pm_rowok kcl kALL klks kRow_311 := ⟨pm_rowB_ok (by decide +kernel), by decide +kernel, kw_1520, kw_1515⟩
theorem kRo_312 : pm_rowok kcl kALL klks kRow_312 := ⟨pm_rowB_ok (by decide +kernel), by decide +kernel, kw_1521, kw_1515⟩
theorem kRo_313 : pm_rowok kcl kALL klks kRow_313 := ⟨pm_rowB_ok (by decide +kernel), by decide +kernel, kw_1522, kw_1515⟩
theorem kRo_314 : pm_rowok kcl kALL klks kRow_314 := ⟨pm_rowB_ok (by decide +kernel), by decide +kernel, kw_1523, kw_1524⟩
theorem kRo_315 : pm_rowok kcl kALL klks kRow_315 := ⟨pm_rowB_ok (by decide +kernel), by decide +kernel, kw_1525, kw_1524⟩
theorem kRo_316 : pm_rowok kcl kALL klks kRow_316 := ⟨pm_rowB_ok (by decide +kernel), by decide +kernel, kw_1526, kw_1524⟩
theorem kRo_317 : pm_rowok kcl kALL klks kRow_317 := ⟨pm_rowB_ok (by decide +kernel), by decide +kernel, kw_1527, kw_1524⟩
theorem kRo_318 : pm_rowok kcl kALL klks kRow_318 := ⟨pm_rowB_ok (by decide +kernel), by decide +kernel, kw_1528, kw_1529⟩
theorem kRo_319 : pm_rowok kcl kALL klks kRow_319 := ⟨pm_rowB_ok (by decide +kernel), by decide +kernel, kw_1530, kw_1529⟩
theorem kRo_320 : pm_rowok kcl kALL klks kRow_320 := ⟨pm_rowB_ok (by decide +kernel), by decide +kernel, kw_1531, kw_1529⟩
theorem kRo_321 : pm_rowok kcl kALL klks kRow_321 := ⟨pm_rowB_ok (by decide +kernel), by decide +kernel, kw_1532, kw_1529⟩
theorem kRo_322 : pm_rowok kcl kALL klks kRow_322 := ⟨pm_rowB_ok (by decide +kernel), by decide +kernel, kw_1533, kw_1529⟩
theorem kRo_323 : pm_rowok kcl kALL klks kRow_323 := ⟨pm_rowB_ok (by decide +kernel), by decide +kernel, kw_1534, kw_1529⟩
theorem kRo_324 : pm_rowok kcl kALL klks kRow_324 := ⟨pm_rowB_ok (by decide +kernel), by decide +kernel, kw_1535, kw_1529⟩
theorem kRo_325 : pm_rowok kcl kALL klks kRow_325 := ⟨pm_rowB_ok (by decide +kernel), by decide +kernel, kw_1536, kw_1529⟩
theorem kRo_326 : pm_rowok kcl kALL klks kRow_326 := ⟨pm_rowB_ok (by decide +kernel), by decide +kernel, kw_1537, kw_1529⟩
theorem kRo_327 : pm_rowok kcl kALL klks kRow_327 := ⟨pm_rowB_ok (by decide +kernel), by decide +kernel, kw_1538, kw_1539⟩
theorem kRo_328 : pm_rowok kcl kALL klks kRow_328 := ⟨pm_rowB_ok (by decide +kernel), by decide +kernel, kw_1540, kw_1539⟩
theorem kRo_329 : pm_rowok kcl kALL klks kRow_329 := ⟨pm_rowB_ok (by decide +kernel), by decide +kernel, kw_1541, kw_1542⟩
theorem kRo_330 : pm_rowok kcl kALL klks kRow_330 := ⟨pm_rowB_ok (by decide +kernel), by decide +kernel, kw_1543, kw_1542⟩
theorem kRc_0 : ∀ r ∈ kCh_0, pm_rowok kcl kALL klks r := List.forall_mem_cons.mpr ⟨kRo_0, List.forall_mem_cons.mpr ⟨kRo_1, List.forall_mem_cons.mpr ⟨kRo_2, List.forall_mem_cons.mpr ⟨kRo_3, List.forall_mem_cons.mpr ⟨kRo_4, List.forall_mem_cons.mpr ⟨kRo_5, List.forall_mem_cons.mpr ⟨kRo_6, List.forall_mem_cons.mpr ⟨kRo_7, List.forall_mem_cons.mpr ⟨kRo_8, List.forall_mem_cons.mpr ⟨kRo_9, List.forall_mem_cons.mpr ⟨kRo_10, List.forall_mem_cons.mpr ⟨kRo_11, List.forall_mem_cons.mpr ⟨kRo_12, List.forall_mem_cons.mpr ⟨kRo_13, List.forall_mem_cons.mpr ⟨kRo_14, List.forall_mem_cons.mpr ⟨kRo_15, fun _ h => absurd h List.not_mem_nil⟩⟩⟩⟩⟩⟩⟩⟩⟩⟩⟩⟩⟩⟩⟩⟩
theorem kRc_1 : ∀ r ∈ kCh_1, pm_rowok kcl kALL klks r := List.forall_mem_cons.mpr ⟨kRo_16, List.forall_mem_cons.mpr ⟨kRo_17, List.forall_mem_cons.mpr ⟨kRo_18, List.forall_mem_cons.mpr ⟨kRo_19, List.forall_mem_cons.mpr ⟨kRo_20, List.forall_mem_cons.mpr ⟨kRo_21, List.forall_mem_cons.mpr ⟨kRo_22, List.forall_mem_cons.mpr ⟨kRo_23, List.forall_mem_cons.mpr ⟨kRo_24, List.forall_mem_cons.mpr ⟨kRo_25, List.forall_mem_cons.mpr ⟨kRo_26, List.forall_mem_cons.mpr ⟨kRo_27, List.forall_mem_cons.mpr ⟨kRo_28, List.forall_mem_cons.mpr ⟨kRo_29, List.forall_mem_cons.mpr ⟨kRo_30, List.forall_mem_cons.mpr ⟨kRo_31, fun _ h => absurd h List.not_mem_nil⟩⟩⟩⟩⟩⟩⟩⟩⟩⟩⟩⟩⟩⟩⟩⟩
theorem kRc_2 : ∀ r ∈ kCh_2, pm_rowok kcl kALL klks r := List.forall_mem_cons.mpr ⟨kRo_32, List.forall_mem_cons.mpr ⟨kRo_33, List.forall_mem_cons.mpr ⟨kRo_34, List.forall_mem_cons.mpr ⟨kRo_35, List.forall_mem_cons.mpr ⟨kRo_36, List.forall_mem_cons.mpr ⟨kRo_37, List.forall_mem_cons.mpr ⟨kRo_38, List.forall_mem_cons.mpr ⟨kRo_39, List.forall_mem_cons.mpr ⟨kRo_40, List.forall_mem_cons.mpr ⟨kRo_41, List.forall_mem_cons.mpr ⟨kRo_42, List.forall_mem_cons.mpr ⟨kRo_43, List.forall_mem_cons.mpr ⟨kRo_44, List.forall_mem_cons.mpr ⟨kRo_45, List.forall_mem_cons.mpr ⟨kRo_46, List.forall_mem_cons.mpr ⟨kRo_47, fun _ h => absurd h List.not_mem_nil⟩⟩⟩⟩⟩⟩⟩⟩⟩⟩⟩⟩⟩⟩⟩⟩
theorem kRc_3 : ∀ r ∈ kCh_3, pm_rowok kcl kALL klks r := List.forall_mem_cons.mpr ⟨kRo_48, List.forall_mem_cons.mpr ⟨kRo_49, List.forall_mem_cons.mpr ⟨kRo_50, List.forall_mem_cons.mpr ⟨kRo_51, List.forall_mem_cons.mpr ⟨kRo_52, List.forall_mem_cons.mpr ⟨kRo_53, List.forall_mem_cons.mpr ⟨kRo_54, List.forall_mem_cons.mpr ⟨kRo_55, List.forall_mem_cons.mpr ⟨kRo_56, List.forall_mem_cons.mpr ⟨kRo_57, List.forall_mem_cons.mpr ⟨kRo_58, List.forall_mem_cons.mpr ⟨kRo_59, List.forall_mem_cons.mpr ⟨kRo_60, List.forall_mem_cons.mpr ⟨kRo_61, List.forall_mem_cons.mpr ⟨kRo_62, List.forall_mem_cons.mpr ⟨kRo_63, fun _ h => absurd h List.not_mem_nil⟩⟩⟩⟩⟩⟩⟩⟩⟩⟩⟩⟩⟩⟩⟩⟩
theorem kRc_4 : ∀ r ∈ kCh_4, pm_rowok kcl kALL klks r := List.forall_mem_cons.mpr ⟨kRo_64, List.forall_mem_cons.mpr ⟨kRo_65, List.forall_mem_cons.mpr ⟨kRo_66, List.forall_mem_cons.mpr ⟨kRo_67, List.forall_mem_cons.mpr ⟨kRo_68, List.forall_mem_cons.mpr ⟨kRo_69, List.forall_mem_cons.mpr ⟨kRo_70, List.forall_mem_cons.mpr ⟨kRo_71, List.forall_mem_cons.mpr ⟨kRo_72, List.forall_mem_cons.mpr ⟨kRo_73, List.forall_mem_cons.mpr ⟨kRo_74, List.forall_mem_cons.mpr ⟨kRo_75, List.forall_mem_cons.mpr ⟨kRo_76, List.forall_mem_cons.mpr ⟨kRo_77, List.forall_mem_cons.mpr ⟨kRo_78, List.forall_mem_cons.mpr ⟨kRo_79, fun _ h => absurd h List.not_mem_nil⟩⟩⟩⟩⟩⟩⟩⟩⟩⟩⟩⟩⟩⟩⟩⟩
theorem kRc_5 : ∀ r ∈ kCh_5, pm_rowok kcl kALL klks r := List.forall_mem_cons.mpr ⟨kRo_80, List.forall_mem_cons.mpr ⟨kRo_81, List.forall_mem_cons.mpr ⟨kRo_82, List.forall_mem_cons.mpr ⟨kRo_83, List.forall_mem_cons.mpr ⟨kRo_84, List.forall_mem_cons.mpr ⟨kRo_85, List.forall_mem_cons.mpr ⟨kRo_86, List.forall_mem_cons.mpr ⟨kRo_87, List.forall_mem_cons.mpr ⟨kRo_88, List.forall_mem_cons.mpr ⟨kRo_89, List.forall_mem_cons.mpr ⟨kRo_90, List.forall_mem_cons.mpr ⟨kRo_91, List.forall_mem_cons.mpr ⟨kRo_92, List.forall_mem_cons.mpr ⟨kRo_93, List.forall_mem_cons.mpr ⟨kRo_94, List.forall_mem_cons.mpr ⟨kRo_95, fun _ h => absurd h List.not_mem_nil⟩⟩⟩⟩⟩⟩⟩⟩⟩⟩⟩⟩⟩⟩⟩⟩
theorem kRc_6 : ∀ r ∈ kCh_6, pm_rowok kcl kALL klks r := List.forall_mem_cons.mpr ⟨kRo_96, List.forall_mem_cons.mpr ⟨kRo_97, List.forall_mem_cons.mpr ⟨kRo_98, List.forall_mem_cons.mpr ⟨kRo_99, List.forall_mem_cons.mpr ⟨kRo_100, List.forall_mem_cons.mpr ⟨kRo_101, List.forall_mem_cons.mpr ⟨kRo_102, List.forall_mem_cons.mpr ⟨kRo_103, List.forall_mem_cons.mpr ⟨kRo_104, List.forall_mem_cons.mpr ⟨kRo_105, List.forall_mem_cons.mpr ⟨kRo_106, List.forall_mem_cons.mpr ⟨kRo_107, List.forall_mem_cons.mpr ⟨kRo_108, List.forall_mem_cons.mpr ⟨kRo_109, List.forall_mem_cons.mpr ⟨kRo_110, List.forall_mem_cons.mpr ⟨kRo_111, fun _ h => absurd h List.not_mem_nil⟩⟩⟩⟩⟩⟩⟩⟩⟩⟩⟩⟩⟩⟩⟩⟩
theorem kRc_7 : ∀ r ∈ kCh_7, pm_rowok kcl kALL klks r := List.forall_mem_cons.mpr ⟨kRo_112, List.forall_mem_cons.mpr ⟨kRo_113, List.forall_mem_cons.mpr ⟨kRo_114, List.forall_mem_cons.mpr ⟨kRo_115, List.forall_mem_cons.mpr ⟨kRo_116, List.forall_mem_cons.mpr ⟨kRo_117, List.forall_mem_cons.mpr ⟨kRo_118, List.forall_mem_cons.mpr ⟨kRo_119, List.forall_mem_cons.mpr ⟨kRo_120, List.forall_mem_cons.mpr ⟨kRo_121, List.forall_mem_cons.mpr ⟨kRo_122, List.forall_mem_cons.mpr ⟨kRo_123, List.forall_mem_cons.mpr ⟨kRo_124, List.forall_mem_cons.mpr ⟨kRo_125, List.forall_mem_cons.mpr ⟨kRo_126, List.forall_mem_cons.mpr ⟨kRo_127, fun _ h => absurd h List.not_mem_nil⟩⟩⟩⟩⟩⟩⟩⟩⟩⟩⟩⟩⟩⟩⟩⟩
theorem kRc_8 : ∀ r ∈ kCh_8, pm_rowok kcl kALL klks r := List.forall_mem_cons.mpr ⟨kRo_128, List.forall_mem_cons.mpr ⟨kRo_129, List.forall_mem_cons.mpr ⟨kRo_130, List.forall_mem_cons.mpr ⟨kRo_131, List.forall_mem_cons.mpr ⟨kRo_132, List.forall_mem_cons.mpr ⟨kRo_133, List.forall_mem_cons.mpr ⟨kRo_134, List.forall_mem_cons.mpr ⟨kRo_135, List.forall_mem_cons.mpr ⟨kRo_136, List.forall_mem_cons.mpr ⟨kRo_137, List.forall_mem_cons.mpr ⟨kRo_138, List.forall_mem_cons.mpr ⟨kRo_139, List.forall_mem_cons.mpr ⟨kRo_140, List.forall_mem_cons.mpr ⟨kRo_141, List.forall_mem_cons.mpr ⟨kRo_142, List.forall_mem_cons.mpr ⟨kRo_143, fun _ h => absurd h List.not_mem_nil⟩⟩⟩⟩⟩⟩⟩⟩⟩⟩⟩⟩⟩⟩⟩⟩
theorem kRc_9 : ∀ r ∈ kCh_9, pm_rowok kcl kALL klks r := List.forall_mem_cons.mpr ⟨kRo_144, List.forall_mem_cons.mpr ⟨kRo_145, List.forall_mem_cons.mpr ⟨kRo_146, List.forall_mem_cons.mpr ⟨kRo_147, List.forall_mem_cons.mpr ⟨kRo_148, List.forall_mem_cons.mpr ⟨kRo_149, List.forall_mem_cons.mpr ⟨kRo_150, List.forall_mem_cons.mpr ⟨kRo_151, List.forall_mem_cons.mpr ⟨kRo_152, List.forall_mem_cons.mpr ⟨kRo_153, List.forall_mem_cons.mpr ⟨kRo_154, List.forall_mem_cons.mpr ⟨kRo_155, List.forall_mem_cons.mpr ⟨kRo_156, List.forall_mem_cons.mpr ⟨kRo_157, List.forall_mem_cons.mpr ⟨kRo_158, List.forall_mem_cons.mpr ⟨kRo_159, fun _ h => absurd h List.not_mem_nil⟩⟩⟩⟩⟩⟩⟩⟩⟩⟩⟩⟩⟩⟩⟩⟩
theorem kRc_10 : ∀ r ∈ kCh_10, pm_rowok kcl kALL klks r := List.forall_mem_cons.mpr ⟨kRo_160, List.forall_mem_cons.mpr ⟨kRo_161, List.forall_mem_cons.mpr ⟨kRo_162, List.forall_mem_cons.mpr ⟨kRo_163, List.forall_mem_cons.mpr ⟨kRo_164, List.forall_mem_cons.mpr ⟨kRo_165, List.forall_mem_cons.mpr ⟨kRo_166, List.forall_mem_cons.mpr ⟨kRo_167, List.forall_mem_cons.mpr ⟨kRo_168, List.forall_mem_cons.mpr ⟨kRo_169, List.forall_mem_cons.mpr ⟨kRo_170, List.forall_mem_cons.mpr ⟨kRo_171, List.forall_mem_cons.mpr ⟨kRo_172, List.forall_mem_cons.mpr ⟨kRo_173, List.forall_mem_cons.mpr ⟨kRo_174, List.forall_mem_cons.mpr ⟨kRo_175, fun _ h => absurd h List.not_mem_nil⟩⟩⟩⟩⟩⟩⟩⟩⟩⟩⟩⟩⟩⟩⟩⟩
theorem kRc_11 : ∀ r ∈ kCh_11, pm_rowok kcl kALL klks r := List.forall_mem_cons.mpr ⟨kRo_176, List.forall_mem_cons.mpr ⟨kRo_177, List.forall_mem_cons.mpr ⟨kRo_178, List.forall_mem_cons.mpr ⟨kRo_179, List.forall_mem_cons.mpr ⟨kRo_180, List.forall_mem_cons.mpr ⟨kRo_181, List.forall_mem_cons.mpr ⟨kRo_182, List.forall_mem_cons.mpr ⟨kRo_183, List.forall_mem_cons.mpr ⟨kRo_184, List.forall_mem_cons.mpr ⟨kRo_185, List.forall_mem_cons.mpr ⟨kRo_186, List.forall_mem_cons.mpr ⟨kRo_187, List.forall_mem_cons.mpr ⟨kRo_188, List.forall_mem_cons.mpr ⟨kRo_189, List.forall_mem_cons.mpr ⟨kRo_190, List.forall_mem_cons.mpr ⟨kRo_191, fun _ h => absurd h List.not_mem_nil⟩⟩⟩⟩⟩⟩⟩⟩⟩⟩⟩⟩⟩⟩⟩⟩
theorem kRc_12 : ∀ r ∈ kCh_12, pm_rowok kcl kALL klks r := List.forall_mem_cons.mpr ⟨kRo_192, List.forall_mem_cons.mpr ⟨kRo_193, List.forall_mem_cons.mpr ⟨kRo_194, List.forall_mem_cons.mpr ⟨kRo_195, List.forall_mem_cons.mpr ⟨kRo_196, List.forall_mem_cons.mpr ⟨kRo_197, List.forall_mem_cons.mpr ⟨kRo_198, List.forall_mem_cons.mpr ⟨kRo_199, List.forall_mem_cons.mpr ⟨kRo_200, List.forall_mem_cons.mpr ⟨kRo_201, List.forall_mem_cons.mpr ⟨kRo_202, List.forall_mem_cons.mpr ⟨kRo_203, List.forall_mem_cons.mpr ⟨kRo_204, List.forall_mem_cons.mpr ⟨kRo_205, List.forall_mem_cons.mpr ⟨kRo_206, List.forall_mem_cons.mpr ⟨kRo_207, fun _ h => absurd h List.not_mem_nil⟩⟩⟩⟩⟩⟩⟩⟩⟩⟩⟩⟩⟩⟩⟩⟩
theorem kRc_13 : ∀ r ∈ kCh_13, pm_rowok kcl kALL klks r := List.forall_mem_cons.mpr ⟨kRo_208, List.forall_mem_cons.mpr ⟨kRo_209, List.forall_mem_cons.mpr ⟨kRo_210, List.forall_mem_cons.mpr ⟨kRo_211, List.forall_mem_cons.mpr ⟨kRo_212, List.forall_mem_cons.mpr ⟨kRo_213, List.forall_mem_cons.mpr ⟨kRo_214, List.forall_mem_cons.mpr ⟨kRo_215, List.forall_mem_cons.mpr ⟨kRo_216, List.forall_mem_cons.mpr ⟨kRo_217, List.forall_mem_cons.mpr ⟨kRo_218, List.forall_mem_cons.mpr ⟨kRo_219, List.forall_mem_cons.mpr ⟨kRo_220, List.forall_mem_cons.mpr ⟨kRo_221, List.forall_mem_cons.mpr ⟨kRo_222, List.forall_mem_cons.mpr ⟨kRo_223, fun _ h => absurd h List.not_mem_nil⟩⟩⟩⟩⟩⟩⟩⟩⟩⟩⟩⟩⟩⟩⟩⟩
theorem kRc_14 : ∀ r ∈ kCh_14, pm_rowok kcl kALL klks r := List.forall_mem_cons.mpr ⟨kRo_224, List.forall_mem_cons.mpr ⟨kRo_225, List.forall_mem_cons.mpr ⟨kRo_226, List.forall_mem_cons.mpr ⟨kRo_227, List.forall_mem_cons.mpr ⟨kRo_228, List.forall_mem_cons.mpr ⟨kRo_229, List.forall_mem_cons.mpr ⟨kRo_230, List.forall_mem_cons.mpr ⟨kRo_231, List.forall_mem_cons.mpr ⟨kRo_232, List.forall_mem_cons.mpr ⟨kRo_233, List.forall_mem_cons.mpr ⟨kRo_234, List.forall_mem_cons.mpr ⟨kRo_235, List.forall_mem_cons.mpr ⟨kRo_236, List.forall_mem_cons.mpr ⟨kRo_237, List.forall_mem_cons.mpr ⟨kRo_238, List.forall_mem_cons.mpr ⟨kRo_239, fun _ h => absurd h List.not_mem_nil⟩⟩⟩⟩⟩⟩⟩⟩⟩⟩⟩⟩⟩⟩⟩⟩
theorem kRc_15 : ∀ r ∈ kCh_15, pm_rowok kcl kALL klks r := List.forall_mem_cons.mpr ⟨kRo_240, List.forall_mem_cons.mpr ⟨kRo_241, List.forall_mem_cons.mpr ⟨kRo_242, List.forall_mem_cons.mpr ⟨kRo_243, List.forall_mem_cons.mpr ⟨kRo_244, List.forall_mem_cons.mpr ⟨kRo_245, List.forall_mem_cons.mpr ⟨kRo_246, List.forall_mem_cons.mpr ⟨kRo_247, List.forall_mem_cons.mpr ⟨kRo_248, List.forall_mem_cons.mpr ⟨kRo_249, List.forall_mem_cons.mpr ⟨kRo_250, List.forall_mem_cons.mpr ⟨kRo_251, List.forall_mem_cons.mpr ⟨kRo_252, List.forall_mem_cons.mpr ⟨kRo_253, List.forall_mem_cons.mpr ⟨kRo_254, List.forall_mem_cons.mpr ⟨kRo_255, fun _ h => absurd h List.not_mem_nil⟩⟩⟩⟩⟩⟩⟩⟩⟩⟩⟩⟩⟩⟩⟩⟩
theorem kRc_16 : ∀ r ∈ kCh_16, pm_rowok kcl kALL klks r := List.forall_mem_cons.mpr ⟨kRo_256, List.forall_mem_cons.mpr ⟨kRo_257, List.forall_mem_cons.mpr ⟨kRo_258, List.forall_mem_cons.mpr ⟨kRo_259, List.forall_mem_cons.mpr ⟨kRo_260, List.forall_mem_cons.mpr ⟨kRo_261, List.forall_mem_cons.mpr ⟨kRo_262, List.forall_mem_cons.mpr ⟨kRo_263, List.forall_mem_cons.mpr ⟨kRo_264, List.forall_mem_cons.mpr ⟨kRo_265, List.forall_mem_cons.mpr ⟨kRo_266, List.forall_mem_cons.mpr ⟨kRo_267, List.forall_mem_cons.mpr ⟨kRo_268, List.forall_mem_cons.mpr ⟨kRo_269, List.forall_mem_cons.mpr ⟨kRo_270, List.forall_mem_cons.mpr ⟨kRo_271, fun _ h => absurd h List.not_mem_nil⟩⟩⟩⟩⟩⟩⟩⟩⟩⟩⟩⟩⟩⟩⟩⟩
theorem kRc_17 : ∀ r ∈ kCh_17, pm_rowok kcl kALL klks r := List.forall_mem_cons.mpr ⟨kRo_272, List.forall_mem_cons.mpr ⟨kRo_273, List.forall_mem_cons.mpr ⟨kRo_274, List.forall_mem_cons.mpr ⟨kRo_275, List.forall_mem_cons.mpr ⟨kRo_276, List.forall_mem_cons.mpr ⟨kRo_277, List.forall_mem_cons.mpr ⟨kRo_278, List.forall_mem_cons.mpr ⟨kRo_279, List.forall_mem_cons.mpr ⟨kRo_280, List.forall_mem_cons.mpr ⟨kRo_281, List.forall_mem_cons.mpr ⟨kRo_282, List.forall_mem_cons.mpr ⟨kRo_283, List.forall_mem_cons.mpr ⟨kRo_284, List.forall_mem_cons.mpr ⟨kRo_285, List.forall_mem_cons.mpr ⟨kRo_286, List.forall_mem_cons.mpr ⟨kRo_287, fun _ h => absurd h List.not_mem_nil⟩⟩⟩⟩⟩⟩⟩⟩⟩⟩⟩⟩⟩⟩⟩⟩
theorem kRc_18 : ∀ r ∈ kCh_18, pm_rowok kcl kALL klks r := List.forall_mem_cons.mpr ⟨kRo_288, List.forall_mem_cons.mpr ⟨kRo_289, List.forall_mem_cons.mpr ⟨kRo_290, List.forall_mem_cons.mpr ⟨kRo_291, List.forall_mem_cons.mpr ⟨kRo_292, List.forall_mem_cons.mpr ⟨kRo_293, List.forall_mem_cons.mpr ⟨kRo_294, List.forall_mem_cons.mpr ⟨kRo_295, List.forall_mem_cons.mpr ⟨kRo_296, List.forall_mem_cons.mpr ⟨kRo_297, List.forall_mem_cons.mpr ⟨kRo_298, List.forall_mem_cons.mpr ⟨kRo_299, List.forall_mem_cons.mpr ⟨kRo_300, List.forall_mem_cons.mpr ⟨kRo_301, List.forall_mem_cons.mpr ⟨kRo_302, List.forall_mem_cons.mpr ⟨kRo_303, fun _ h => absurd h List.not_mem_nil⟩⟩⟩⟩⟩⟩⟩⟩⟩⟩⟩⟩⟩⟩⟩⟩
theorem kRc_19 : ∀ r ∈ kCh_19, pm_rowok kcl kALL klks r := List.forall_mem_cons.mpr ⟨kRo_304, List.forall_mem_cons.mpr ⟨kRo_305, List.forall_mem_cons.mpr ⟨kRo_306, List.forall_mem_cons.mpr ⟨kRo_307, List.forall_mem_cons.mpr ⟨kRo_308, List.forall_mem_cons.mpr ⟨kRo_309, List.forall_mem_cons.mpr ⟨kRo_310, List.forall_mem_cons.mpr ⟨kRo_311, List.forall_mem_cons.mpr ⟨kRo_312, List.forall_mem_cons.mpr ⟨kRo_313, List.forall_mem_cons.mpr ⟨kRo_314, List.forall_mem_cons.mpr ⟨kRo_315, List.forall_mem_cons.mpr ⟨kRo_316, List.forall_mem_cons.mpr ⟨kRo_317, List.forall_mem_cons.mpr ⟨kRo_318, List.forall_mem_cons.mpr ⟨kRo_319, fun _ h => absurd h List.not_mem_nil⟩⟩⟩⟩⟩⟩⟩⟩⟩⟩⟩⟩⟩⟩⟩⟩
theorem kRc_20 : ∀ r ∈ kCh_20, pm_rowok kcl kALL klks r := List.forall_mem_cons.mpr ⟨kRo_320, List.forall_mem_cons.mpr ⟨kRo_321, List.forall_mem_cons.mpr ⟨kRo_322, List.forall_mem_cons.mpr ⟨kRo_323, List.forall_mem_cons.mpr ⟨kRo_324, List.forall_mem_cons.mpr ⟨kRo_325, List.forall_mem_cons.mpr ⟨kRo_326, List.forall_mem_cons.mpr ⟨kRo_327, List.forall_mem_cons.mpr ⟨kRo_328, List.forall_mem_cons.mpr ⟨kRo_329, List.forall_mem_cons.mpr ⟨kRo_330, fun _ h => absurd h List.not_mem_nil⟩⟩⟩⟩⟩⟩⟩⟩⟩⟩⟩
theorem kRall : ∀ c ∈ krows, ∀ r ∈ c, pm_rowok kcl kALL klks r := List.forall_mem_cons.mpr ⟨kRc_0, List.forall_mem_cons.mpr ⟨kRc_1, List.forall_mem_cons.mpr ⟨kRc_2, List.forall_mem_cons.mpr ⟨kRc_3, List.forall_mem_cons.mpr ⟨kRc_4, List.forall_mem_cons.mpr ⟨kRc_5, List.forall_mem_cons.mpr ⟨kRc_6, List.forall_mem_cons.mpr ⟨kRc_7, List.forall_mem_cons.mpr ⟨kRc_8, List.forall_mem_cons.mpr ⟨kRc_9, List.forall_mem_cons.mpr ⟨kRc_10, List.forall_mem_cons.mpr ⟨kRc_11, List.forall_mem_cons.mpr ⟨kRc_12, List.forall_mem_cons.mpr ⟨kRc_13, List.forall_mem_cons.mpr ⟨kRc_14, List.forall_mem_cons.mpr ⟨kRc_15, List.forall_mem_cons.mpr ⟨kRc_16, List.forall_mem_cons.mpr ⟨kRc_17, List.forall_mem_cons.mpr ⟨kRc_18, List.forall_mem_cons.mpr ⟨kRc_19, List.forall_mem_cons.mpr ⟨kRc_20, fun _ h => absurd h List.not_mem_nil⟩⟩⟩⟩⟩⟩⟩⟩⟩⟩⟩⟩⟩⟩⟩⟩⟩⟩⟩⟩⟩
/-! The kinds -/
theorem kWs_0 : ∀ w ∈ u_ws "BonnetValley$Formula" kT_0 9, w ∈ kALL := List.forall_mem_cons.mpr ⟨kw_1544, List.forall_mem_cons.mpr ⟨kw_1545, List.forall_mem_cons.mpr ⟨kw_1546, List.forall_mem_cons.mpr ⟨kw_1547, List.forall_mem_cons.mpr ⟨kw_1548, List.forall_mem_cons.mpr ⟨kw_1549, List.forall_mem_cons.mpr ⟨kw_1550, List.forall_mem_cons.mpr ⟨kw_1551, List.forall_mem_cons.mpr ⟨kw_1552, fun _ h => absurd h List.not_mem_nil⟩⟩⟩⟩⟩⟩⟩⟩⟩
theorem kDf_0 (ad : Nat → Nat) : ∀ j, j < 9 → defaultValue (kft 0 j) = vp_V ((knw 0).map (pm_u ad)) j := lt_s (lt_s (lt_s (lt_s (lt_s (lt_s (lt_s (lt_s (lt_s (lt_0) rfl) rfl) rfl) rfl) rfl) rfl) rfl) rfl) rfl
theorem kCk_0 : (∀ w ∈ u_ws "BonnetValley$Formula" kT_0 9, w ∈ kALL) ∧ (∀ k, k < 9 → parseFieldDescriptor (kT_0 k).2.2.1 = some (pm_fty kK 0 k)) ∧ (∀ a, a < 9 → ∀ b, b < 9 → a ≠ b → (kT_0 a).2.1 ≠ (kT_0 b).2.1) ∧ (∀ (ad : Nat → Nat) (j : Nat), j < 9 → defaultValue (pm_fty kK 0 j) = vp_V ((pm_new0 kK 0).map (pm_u ad)) j) ∧ Cond.instantiable "BonnetValley$Formula" 9 ∈ kALL ∧ Cond.initialized "BonnetValley$Formula" ∈ kALL ∧ (∀ k, k < 9 → (kT_0 k).1 = "BonnetValley$Formula") := ⟨kWs_0, by decide +kernel, by decide +kernel, kDf_0, kw_1553, kw_1192, by decide +kernel⟩
theorem kWs_1 : ∀ w ∈ u_ws "BonnetValley$Games" kT_1 4, w ∈ kALL := List.forall_mem_cons.mpr ⟨kw_1554, List.forall_mem_cons.mpr ⟨kw_1555, List.forall_mem_cons.mpr ⟨kw_1556, List.forall_mem_cons.mpr ⟨kw_1557, fun _ h => absurd h List.not_mem_nil⟩⟩⟩⟩
theorem kDf_1 (ad : Nat → Nat) : ∀ j, j < 4 → defaultValue (kft 1 j) = vp_V ((knw 1).map (pm_u ad)) j := lt_s (lt_s (lt_s (lt_s (lt_0) rfl) rfl) rfl) rfl
theorem kCk_1 : (∀ w ∈ u_ws "BonnetValley$Games" kT_1 4, w ∈ kALL) ∧ (∀ k, k < 4 → parseFieldDescriptor (kT_1 k).2.2.1 = some (pm_fty kK 1 k)) ∧ (∀ a, a < 4 → ∀ b, b < 4 → a ≠ b → (kT_1 a).2.1 ≠ (kT_1 b).2.1) ∧ (∀ (ad : Nat → Nat) (j : Nat), j < 4 → defaultValue (pm_fty kK 1 j) = vp_V ((pm_new0 kK 1).map (pm_u ad)) j) ∧ Cond.instantiable "BonnetValley$Games" 4 ∈ kALL ∧ Cond.initialized "BonnetValley$Games" ∈ kALL ∧ (∀ k, k < 4 → (kT_1 k).1 = "BonnetValley$Games") := ⟨kWs_1, by decide +kernel, by decide +kernel, kDf_1, kw_1558, kw_1208, by decide +kernel⟩
theorem kWs_2 : ∀ w ∈ u_ws "BonnetValley$History" kT_2 5, w ∈ kALL := List.forall_mem_cons.mpr ⟨kw_1559, List.forall_mem_cons.mpr ⟨kw_1560, List.forall_mem_cons.mpr ⟨kw_1561, List.forall_mem_cons.mpr ⟨kw_1562, List.forall_mem_cons.mpr ⟨kw_1563, fun _ h => absurd h List.not_mem_nil⟩⟩⟩⟩⟩
theorem kDf_2 (ad : Nat → Nat) : ∀ j, j < 5 → defaultValue (kft 2 j) = vp_V ((knw 2).map (pm_u ad)) j := lt_s (lt_s (lt_s (lt_s (lt_s (lt_0) rfl) rfl) rfl) rfl) rfl
theorem kCk_2 : (∀ w ∈ u_ws "BonnetValley$History" kT_2 5, w ∈ kALL) ∧ (∀ k, k < 5 → parseFieldDescriptor (kT_2 k).2.2.1 = some (pm_fty kK 2 k)) ∧ (∀ a, a < 5 → ∀ b, b < 5 → a ≠ b → (kT_2 a).2.1 ≠ (kT_2 b).2.1) ∧ (∀ (ad : Nat → Nat) (j : Nat), j < 5 → defaultValue (pm_fty kK 2 j) = vp_V ((pm_new0 kK 2).map (pm_u ad)) j) ∧ Cond.instantiable "BonnetValley$History" 5 ∈ kALL ∧ Cond.initialized "BonnetValley$History" ∈ kALL ∧ (∀ k, k < 5 → (kT_2 k).1 = "BonnetValley$History") := ⟨kWs_2, by decide +kernel, by decide +kernel, kDf_2, kw_1564, kw_1220, by decide +kernel⟩
theorem kWs_3 : ∀ w ∈ u_ws "BonnetValley$Land" kT_3 9, w ∈ kALL := List.forall_mem_cons.mpr ⟨kw_1565, List.forall_mem_cons.mpr ⟨kw_1566, List.forall_mem_cons.mpr ⟨kw_1567, List.forall_mem_cons.mpr ⟨kw_1568, List.forall_mem_cons.mpr ⟨kw_1569, List.forall_mem_cons.mpr ⟨kw_1570, List.forall_mem_cons.mpr ⟨kw_1571, List.forall_mem_cons.mpr ⟨kw_1572, List.forall_mem_cons.mpr ⟨kw_1573, fun _ h => absurd h List.not_mem_nil⟩⟩⟩⟩⟩⟩⟩⟩⟩
theorem kDf_3 (ad : Nat → Nat) : ∀ j, j < 9 → defaultValue (kft 3 j) = vp_V ((knw 3).map (pm_u ad)) j := lt_s (lt_s (lt_s (lt_s (lt_s (lt_s (lt_s (lt_s (lt_s (lt_0) rfl) rfl) rfl) rfl) rfl) rfl) rfl) rfl) rfl
theorem kCk_3 : (∀ w ∈ u_ws "BonnetValley$Land" kT_3 9, w ∈ kALL) ∧ (∀ k, k < 9 → parseFieldDescriptor (kT_3 k).2.2.1 = some (pm_fty kK 3 k)) ∧ (∀ a, a < 9 → ∀ b, b < 9 → a ≠ b → (kT_3 a).2.1 ≠ (kT_3 b).2.1) ∧ (∀ (ad : Nat → Nat) (j : Nat), j < 9 → defaultValue (pm_fty kK 3 j) = vp_V ((pm_new0 kK 3).map (pm_u ad)) j) ∧ Cond.instantiable "BonnetValley$Land" 9 ∈ kALL ∧ Cond.initialized "BonnetValley$Land" ∈ kALL ∧ (∀ k, k < 9 → (kT_3 k).1 = "BonnetValley$Land") := ⟨kWs_3, by decide +kernel, by decide +kernel, kDf_3, kw_1574, kw_1228, by decide +kernel⟩
theorem kWs_4 : ∀ w ∈ u_ws "BonnetValley$Lines" kT_4 3, w ∈ kALL := List.forall_mem_cons.mpr ⟨kw_1575, List.forall_mem_cons.mpr ⟨kw_1576, List.forall_mem_cons.mpr ⟨kw_1577, fun _ h => absurd h List.not_mem_nil⟩⟩⟩
theorem kDf_4 (ad : Nat → Nat) : ∀ j, j < 3 → defaultValue (kft 4 j) = vp_V ((knw 4).map (pm_u ad)) j := lt_s (lt_s (lt_s (lt_0) rfl) rfl) rfl
theorem kCk_4 : (∀ w ∈ u_ws "BonnetValley$Lines" kT_4 3, w ∈ kALL) ∧ (∀ k, k < 3 → parseFieldDescriptor (kT_4 k).2.2.1 = some (pm_fty kK 4 k)) ∧ (∀ a, a < 3 → ∀ b, b < 3 → a ≠ b → (kT_4 a).2.1 ≠ (kT_4 b).2.1) ∧ (∀ (ad : Nat → Nat) (j : Nat), j < 3 → defaultValue (pm_fty kK 4 j) = vp_V ((pm_new0 kK 4).map (pm_u ad)) j) ∧ Cond.instantiable "BonnetValley$Lines" 3 ∈ kALL ∧ Cond.initialized "BonnetValley$Lines" ∈ kALL ∧ (∀ k, k < 3 → (kT_4 k).1 = "BonnetValley$Lines") := ⟨kWs_4, by decide +kernel, by decide +kernel, kDf_4, kw_1578, kw_1248, by decide +kernel⟩
theorem kWs_5 : ∀ w ∈ u_ws "BonnetValley$Numbers" kT_5 2, w ∈ kALL := List.forall_mem_cons.mpr ⟨kw_1579, List.forall_mem_cons.mpr ⟨kw_1580, fun _ h => absurd h List.not_mem_nil⟩⟩
theorem kDf_5 (ad : Nat → Nat) : ∀ j, j < 2 → defaultValue (kft 5 j) = vp_V ((knw 5).map (pm_u ad)) j := lt_s (lt_s (lt_0) rfl) rfl
theorem kCk_5 : (∀ w ∈ u_ws "BonnetValley$Numbers" kT_5 2, w ∈ kALL) ∧ (∀ k, k < 2 → parseFieldDescriptor (kT_5 k).2.2.1 = some (pm_fty kK 5 k)) ∧ (∀ a, a < 2 → ∀ b, b < 2 → a ≠ b → (kT_5 a).2.1 ≠ (kT_5 b).2.1) ∧ (∀ (ad : Nat → Nat) (j : Nat), j < 2 → defaultValue (pm_fty kK 5 j) = vp_V ((pm_new0 kK 5).map (pm_u ad)) j) ∧ Cond.instantiable "BonnetValley$Numbers" 2 ∈ kALL ∧ Cond.initialized "BonnetValley$Numbers" ∈ kALL ∧ (∀ k, k < 2 → (kT_5 k).1 = "BonnetValley$Numbers") := ⟨kWs_5, by decide +kernel, by decide +kernel, kDf_5, kw_1581, kw_1253, by decide +kernel⟩
theorem kWs_6 : ∀ w ∈ u_ws "BonnetValley$Plan" kT_6 3, w ∈ kALL := List.forall_mem_cons.mpr ⟨kw_1582, List.forall_mem_cons.mpr ⟨kw_1583, List.forall_mem_cons.mpr ⟨kw_1584, fun _ h => absurd h List.not_mem_nil⟩⟩⟩
theorem kDf_6 (ad : Nat → Nat) : ∀ j, j < 3 → defaultValue (kft 6 j) = vp_V ((knw 6).map (pm_u ad)) j := lt_s (lt_s (lt_s (lt_0) rfl) rfl) rfl
theorem kCk_6 : (∀ w ∈ u_ws "BonnetValley$Plan" kT_6 3, w ∈ kALL) ∧ (∀ k, k < 3 → parseFieldDescriptor (kT_6 k).2.2.1 = some (pm_fty kK 6 k)) ∧ (∀ a, a < 3 → ∀ b, b < 3 → a ≠ b → (kT_6 a).2.1 ≠ (kT_6 b).2.1) ∧ (∀ (ad : Nat → Nat) (j : Nat), j < 3 → defaultValue (pm_fty kK 6 j) = vp_V ((pm_new0 kK 6).map (pm_u ad)) j) ∧ Cond.instantiable "BonnetValley$Plan" 3 ∈ kALL ∧ Cond.initialized "BonnetValley$Plan" ∈ kALL ∧ (∀ k, k < 3 → (kT_6 k).1 = "BonnetValley$Plan") := ⟨kWs_6, by decide +kernel, by decide +kernel, kDf_6, kw_1585, kw_1259, by decide +kernel⟩
theorem kWs_7 : ∀ w ∈ u_ws "BonnetValley$Route" kT_7 3, w ∈ kALL := List.forall_mem_cons.mpr ⟨kw_1586, List.forall_mem_cons.mpr ⟨kw_1587, List.forall_mem_cons.mpr ⟨kw_1588, fun _ h => absurd h List.not_mem_nil⟩⟩⟩
theorem kDf_7 (ad : Nat → Nat) : ∀ j, j < 3 → defaultValue (kft 7 j) = vp_V ((knw 7).map (pm_u ad)) j := lt_s (lt_s (lt_s (lt_0) rfl) rfl) rfl
theorem kCk_7 : (∀ w ∈ u_ws "BonnetValley$Route" kT_7 3, w ∈ kALL) ∧ (∀ k, k < 3 → parseFieldDescriptor (kT_7 k).2.2.1 = some (pm_fty kK 7 k)) ∧ (∀ a, a < 3 → ∀ b, b < 3 → a ≠ b → (kT_7 a).2.1 ≠ (kT_7 b).2.1) ∧ (∀ (ad : Nat → Nat) (j : Nat), j < 3 → defaultValue (pm_fty kK 7 j) = vp_V ((pm_new0 kK 7).map (pm_u ad)) j) ∧ Cond.instantiable "BonnetValley$Route" 3 ∈ kALL ∧ Cond.initialized "BonnetValley$Route" ∈ kALL ∧ (∀ k, k < 3 → (kT_7 k).1 = "BonnetValley$Route") := ⟨kWs_7, by decide +kernel, by decide +kernel, kDf_7, kw_1589, kw_1268, by decide +kernel⟩
theorem kWs_8 : ∀ w ∈ u_ws "BonnetValley$Sight" kT_8 8, w ∈ kALL := List.forall_mem_cons.mpr ⟨kw_1590, List.forall_mem_cons.mpr ⟨kw_1591, List.forall_mem_cons.mpr ⟨kw_1592, List.forall_mem_cons.mpr ⟨kw_1593, List.forall_mem_cons.mpr ⟨kw_1594, List.forall_mem_cons.mpr ⟨kw_1595, List.forall_mem_cons.mpr ⟨kw_1596, List.forall_mem_cons.mpr ⟨kw_1597, fun _ h => absurd h List.not_mem_nil⟩⟩⟩⟩⟩⟩⟩⟩
theorem kDf_8 (ad : Nat → Nat) : ∀ j, j < 8 → defaultValue (kft 8 j) = vp_V ((knw 8).map (pm_u ad)) j := lt_s (lt_s (lt_s (lt_s (lt_s (lt_s (lt_s (lt_s (lt_0) rfl) rfl) rfl) rfl) rfl) rfl) rfl) rfl
theorem kCk_8 : (∀ w ∈ u_ws "BonnetValley$Sight" kT_8 8, w ∈ kALL) ∧ (∀ k, k < 8 → parseFieldDescriptor (kT_8 k).2.2.1 = some (pm_fty kK 8 k)) ∧ (∀ a, a < 8 → ∀ b, b < 8 → a ≠ b → (kT_8 a).2.1 ≠ (kT_8 b).2.1) ∧ (∀ (ad : Nat → Nat) (j : Nat), j < 8 → defaultValue (pm_fty kK 8 j) = vp_V ((pm_new0 kK 8).map (pm_u ad)) j) ∧ Cond.instantiable "BonnetValley$Sight" 8 ∈ kALL ∧ Cond.initialized "BonnetValley$Sight" ∈ kALL ∧ (∀ k, k < 8 → (kT_8 k).1 = "BonnetValley$Sight") := ⟨kWs_8, by decide +kernel, by decide +kernel, kDf_8, kw_1598, kw_1274, by decide +kernel⟩
theorem kWs_9 : ∀ w ∈ u_ws "BonnetValley$Signs" kT_9 2, w ∈ kALL := List.forall_mem_cons.mpr ⟨kw_1599, List.forall_mem_cons.mpr ⟨kw_1600, fun _ h => absurd h List.not_mem_nil⟩⟩
theorem kDf_9 (ad : Nat → Nat) : ∀ j, j < 2 → defaultValue (kft 9 j) = vp_V ((knw 9).map (pm_u ad)) j := lt_s (lt_s (lt_0) rfl) rfl
theorem kCk_9 : (∀ w ∈ u_ws "BonnetValley$Signs" kT_9 2, w ∈ kALL) ∧ (∀ k, k < 2 → parseFieldDescriptor (kT_9 k).2.2.1 = some (pm_fty kK 9 k)) ∧ (∀ a, a < 2 → ∀ b, b < 2 → a ≠ b → (kT_9 a).2.1 ≠ (kT_9 b).2.1) ∧ (∀ (ad : Nat → Nat) (j : Nat), j < 2 → defaultValue (pm_fty kK 9 j) = vp_V ((pm_new0 kK 9).map (pm_u ad)) j) ∧ Cond.instantiable "BonnetValley$Signs" 2 ∈ kALL ∧ Cond.initialized "BonnetValley$Signs" ∈ kALL ∧ (∀ k, k < 2 → (kT_9 k).1 = "BonnetValley$Signs") := ⟨kWs_9, by decide +kernel, by decide +kernel, kDf_9, kw_1601, kw_1295, by decide +kernel⟩
theorem kWs_10 : ∀ w ∈ u_ws "BonnetValley$State" kT_10 8, w ∈ kALL := List.forall_mem_cons.mpr ⟨kw_1602, List.forall_mem_cons.mpr ⟨kw_1603, List.forall_mem_cons.mpr ⟨kw_1604, List.forall_mem_cons.mpr ⟨kw_1605, List.forall_mem_cons.mpr ⟨kw_1606, List.forall_mem_cons.mpr ⟨kw_1607, List.forall_mem_cons.mpr ⟨kw_1608, List.forall_mem_cons.mpr ⟨kw_1609, fun _ h => absurd h List.not_mem_nil⟩⟩⟩⟩⟩⟩⟩⟩
theorem kDf_10 (ad : Nat → Nat) : ∀ j, j < 8 → defaultValue (kft 10 j) = vp_V ((knw 10).map (pm_u ad)) j := lt_s (lt_s (lt_s (lt_s (lt_s (lt_s (lt_s (lt_s (lt_0) rfl) rfl) rfl) rfl) rfl) rfl) rfl) rfl
theorem kCk_10 : (∀ w ∈ u_ws "BonnetValley$State" kT_10 8, w ∈ kALL) ∧ (∀ k, k < 8 → parseFieldDescriptor (kT_10 k).2.2.1 = some (pm_fty kK 10 k)) ∧ (∀ a, a < 8 → ∀ b, b < 8 → a ≠ b → (kT_10 a).2.1 ≠ (kT_10 b).2.1) ∧ (∀ (ad : Nat → Nat) (j : Nat), j < 8 → defaultValue (pm_fty kK 10 j) = vp_V ((pm_new0 kK 10).map (pm_u ad)) j) ∧ Cond.instantiable "BonnetValley$State" 8 ∈ kALL ∧ Cond.initialized "BonnetValley$State" ∈ kALL ∧ (∀ k, k < 8 → (kT_10 k).1 = "BonnetValley$State") := ⟨kWs_10, by decide +kernel, by decide +kernel, kDf_10, kw_1610, kw_1303, by decide +kernel⟩
theorem kWs_11 : ∀ w ∈ u_ws "BonnetValley$Turning" kT_11 2, w ∈ kALL := List.forall_mem_cons.mpr ⟨kw_1611, List.forall_mem_cons.mpr ⟨kw_1612, fun _ h => absurd h List.not_mem_nil⟩⟩
theorem kDf_11 (ad : Nat → Nat) : ∀ j, j < 2 → defaultValue (kft 11 j) = vp_V ((knw 11).map (pm_u ad)) j := lt_s (lt_s (lt_0) rfl) rfl
theorem kCk_11 : (∀ w ∈ u_ws "BonnetValley$Turning" kT_11 2, w ∈ kALL) ∧ (∀ k, k < 2 → parseFieldDescriptor (kT_11 k).2.2.1 = some (pm_fty kK 11 k)) ∧ (∀ a, a < 2 → ∀ b, b < 2 → a ≠ b → (kT_11 a).2.1 ≠ (kT_11 b).2.1) ∧ (∀ (ad : Nat → Nat) (j : Nat), j < 2 → defaultValue (pm_fty kK 11 j) = vp_V ((pm_new0 kK 11).map (pm_u ad)) j) ∧ Cond.instantiable "BonnetValley$Turning" 2 ∈ kALL ∧ Cond.initialized "BonnetValley$Turning" ∈ kALL ∧ (∀ k, k < 2 → (kT_11 k).1 = "BonnetValley$Turning") := ⟨kWs_11, by decide +kernel, by decide +kernel, kDf_11, kw_1613, kw_1318, by decide +kernel⟩
theorem kWs_12 : ∀ w ∈ u_ws "BonnetValley" kT_12 15, w ∈ kALL := List.forall_mem_cons.mpr ⟨kw_1614, List.forall_mem_cons.mpr ⟨kw_1615, List.forall_mem_cons.mpr ⟨kw_1616, List.forall_mem_cons.mpr ⟨kw_1617, List.forall_mem_cons.mpr ⟨kw_1618, List.forall_mem_cons.mpr ⟨kw_1619, List.forall_mem_cons.mpr ⟨kw_1620, List.forall_mem_cons.mpr ⟨kw_1621, List.forall_mem_cons.mpr ⟨kw_1622, List.forall_mem_cons.mpr ⟨kw_1623, List.forall_mem_cons.mpr ⟨kw_1624, List.forall_mem_cons.mpr ⟨kw_1625, List.forall_mem_cons.mpr ⟨kw_1626, List.forall_mem_cons.mpr ⟨kw_1627, List.forall_mem_cons.mpr ⟨kw_1628, fun _ h => absurd h List.not_mem_nil⟩⟩⟩⟩⟩⟩⟩⟩⟩⟩⟩⟩⟩⟩⟩
theorem kDf_12 (ad : Nat → Nat) : ∀ j, j < 15 → defaultValue (kft 12 j) = vp_V ((knw 12).map (pm_u ad)) j := lt_s (lt_s (lt_s (lt_s (lt_s (lt_s (lt_s (lt_s (lt_s (lt_s (lt_s (lt_s (lt_s (lt_s (lt_s (lt_0) rfl) rfl) rfl) rfl) rfl) rfl) rfl) rfl) rfl) rfl) rfl) rfl) rfl) rfl) rfl
theorem kCk_12 : (∀ w ∈ u_ws "BonnetValley" kT_12 15, w ∈ kALL) ∧ (∀ k, k < 15 → parseFieldDescriptor (kT_12 k).2.2.1 = some (pm_fty kK 12 k)) ∧ (∀ a, a < 15 → ∀ b, b < 15 → a ≠ b → (kT_12 a).2.1 ≠ (kT_12 b).2.1) ∧ (∀ (ad : Nat → Nat) (j : Nat), j < 15 → defaultValue (pm_fty kK 12 j) = vp_V ((pm_new0 kK 12).map (pm_u ad)) j) ∧ Cond.instantiable "BonnetValley" 15 ∈ kALL ∧ Cond.initialized "BonnetValley" ∈ kALL ∧ (∀ k, k < 15 → (kT_12 k).1 = "BonnetValley") := ⟨kWs_12, by decide +kernel, by decide +kernel, kDf_12, kw_1629, kw_1325, by decide +kernel⟩
theorem kWs_13 : ∀ w ∈ u_ws "BonnetValleyModel" kT_13 49, w ∈ kALL := List.forall_mem_cons.mpr ⟨kw_1630, List.forall_mem_cons.mpr ⟨kw_1631, List.forall_mem_cons.mpr ⟨kw_1632, List.forall_mem_cons.mpr ⟨kw_1633, List.forall_mem_cons.mpr ⟨kw_1634, List.forall_mem_cons.mpr ⟨kw_1635, List.forall_mem_cons.mpr ⟨kw_1636, List.forall_mem_cons.mpr ⟨kw_1637, List.forall_mem_cons.mpr ⟨kw_1638, List.forall_mem_cons.mpr ⟨kw_1639, List.forall_mem_cons.mpr ⟨kw_1640, List.forall_mem_cons.mpr ⟨kw_1641, List.forall_mem_cons.mpr ⟨kw_1642, List.forall_mem_cons.mpr ⟨kw_1643, List.forall_mem_cons.mpr ⟨kw_1644, List.forall_mem_cons.mpr ⟨kw_1645, List.forall_mem_cons.mpr ⟨kw_1646, List.forall_mem_cons.mpr ⟨kw_1647, List.forall_mem_cons.mpr ⟨kw_1648, List.forall_mem_cons.mpr ⟨kw_1649, List.forall_mem_cons.mpr ⟨kw_1650, List.forall_mem_cons.mpr ⟨kw_1651, List.forall_mem_cons.mpr ⟨kw_1652, List.forall_mem_cons.mpr ⟨kw_1653, List.forall_mem_cons.mpr ⟨kw_1654, List.forall_mem_cons.mpr ⟨kw_1655, List.forall_mem_cons.mpr ⟨kw_1656, List.forall_mem_cons.mpr ⟨kw_1657, List.forall_mem_cons.mpr ⟨kw_1658, List.forall_mem_cons.mpr ⟨kw_1659, List.forall_mem_cons.mpr ⟨kw_1660, List.forall_mem_cons.mpr ⟨kw_1661, List.forall_mem_cons.mpr ⟨kw_1662, List.forall_mem_cons.mpr ⟨kw_1663, List.forall_mem_cons.mpr ⟨kw_1664, List.forall_mem_cons.mpr ⟨kw_1665, List.forall_mem_cons.mpr ⟨kw_1666, List.forall_mem_cons.mpr ⟨kw_1667, List.forall_mem_cons.mpr ⟨kw_1668, List.forall_mem_cons.mpr ⟨kw_1669, List.forall_mem_cons.mpr ⟨kw_1670, List.forall_mem_cons.mpr ⟨kw_1671, List.forall_mem_cons.mpr ⟨kw_1672, List.forall_mem_cons.mpr ⟨kw_1673, List.forall_mem_cons.mpr ⟨kw_1674, List.forall_mem_cons.mpr ⟨kw_1675, List.forall_mem_cons.mpr ⟨kw_1676, List.forall_mem_cons.mpr ⟨kw_1677, List.forall_mem_cons.mpr ⟨kw_1678, fun _ h => absurd h List.not_mem_nil⟩⟩⟩⟩⟩⟩⟩⟩⟩⟩⟩⟩⟩⟩⟩⟩⟩⟩⟩⟩⟩⟩⟩⟩⟩⟩⟩⟩⟩⟩⟩⟩⟩⟩⟩⟩⟩⟩⟩⟩⟩⟩⟩⟩⟩⟩⟩⟩⟩
theorem kDf_13 (ad : Nat → Nat) : ∀ j, j < 49 → defaultValue (kft 13 j) = vp_V ((knw 13).map (pm_u ad)) j := lt_s (lt_s (lt_s (lt_s (lt_s (lt_s (lt_s (lt_s (lt_s (lt_s (lt_s (lt_s (lt_s (lt_s (lt_s (lt_s (lt_s (lt_s (lt_s (lt_s (lt_s (lt_s (lt_s (lt_s (lt_s (lt_s (lt_s (lt_s (lt_s (lt_s (lt_s (lt_s (lt_s (lt_s (lt_s (lt_s (lt_s (lt_s (lt_s (lt_s (lt_s (lt_s (lt_s (lt_s (lt_s (lt_s (lt_s (lt_s (lt_s (lt_0) rfl) rfl) rfl) rfl) rfl) rfl) rfl) rfl) rfl) rfl) rfl) rfl) rfl) rfl) rfl) rfl) rfl) rfl) rfl) rfl) rfl) rfl) rfl) rfl) rfl) rfl) rfl) rfl) rfl) rfl) rfl) rfl) rfl) rfl) rfl) rfl) rfl) rfl) rfl) rfl) rfl) rfl) rfl) rfl) rfl) rfl) rfl) rfl) rfl
theorem kCk_13 : (∀ w ∈ u_ws "BonnetValleyModel" kT_13 49, w ∈ kALL) ∧ (∀ k, k < 49 → parseFieldDescriptor (kT_13 k).2.2.1 = some (pm_fty kK 13 k)) ∧ (∀ a, a < 49 → ∀ b, b < 49 → a ≠ b → (kT_13 a).2.1 ≠ (kT_13 b).2.1) ∧ (∀ (ad : Nat → Nat) (j : Nat), j < 49 → defaultValue (pm_fty kK 13 j) = vp_V ((pm_new0 kK 13).map (pm_u ad)) j) ∧ Cond.instantiable "BonnetValleyModel" 49 ∈ kALL ∧ Cond.initialized "BonnetValleyModel" ∈ kALL ∧ (∀ k, k < 49 → (kT_13 k).1 = "BonnetValleyModel") := ⟨kWs_13, by decide +kernel, by decide +kernel, kDf_13, kw_1679, kw_1386, by decide +kernel⟩
theorem kck : pm_ck kK kcl kALL := by
  intro ci C T N h
  match ci, h with
  | 0, h => cases h; exact kCk_0
  | 1, h => cases h; exact kCk_1
  | 2, h => cases h; exact kCk_2
  | 3, h => cases h; exact kCk_3
  | 4, h => cases h; exact kCk_4
  | 5, h => cases h; exact kCk_5
  | 6, h => cases h; exact kCk_6
  | 7, h => cases h; exact kCk_7
  | 8, h => cases h; exact kCk_8
  | 9, h => cases h; exact kCk_9
  | 10, h => cases h; exact kCk_10
  | 11, h => cases h; exact kCk_11
  | 12, h => cases h; exact kCk_12
  | 13, h => cases h; exact kCk_13
  | n + 14, h => exact absurd h (by simp [kcl])
theorem kbase : pm_base kALL := ⟨kw_1680, kw_1681, kw_1682, kw_1683, kw_1684, kw_1685, kw_1686, kw_1687, kw_1688, kw_1689, kw_1690, kw_1691, kw_1692, kw_1693, kw_1694⟩
theorem knwf : pm_nwf knws := by
  intro w hw
  simp only [knws, List.mem_cons, List.not_mem_nil, or_false] at hw
  rcases hw with rfl | rfl | rfl
  all_goals exact Or.inr ⟨_, _, _, _, rfl⟩
theorem kgood : GoodIn kALL kALL := fun w hw => ⟨hw, good_of_word (List.mem_filter.mp hw).2⟩
theorem kE : ∀ r, kcl[10]? = some r → r.1 = "BonnetValley$State" ∧ "BonnetValley$State" ∈ kaos := by
  intro r h
  cases h
  exact ⟨rfl, by decide +kernel⟩
/-! The fused call of String.checkIndex -/
theorem k8inv (v : Value) (x y : Int32) (st : List Value) (ph : pm_H) (hv : v = .null ∨ v = .ref 1048579) (hs : ((st.map fun v => v.category).sum ≤ 8)) : pm_inv kK 17 (.invokestatic 1059) (v :: .int x :: .int y :: st) ph = some (329, [.int y, .int x, v], st) := by
  have hl : pm_lnk kK 17 1059 = some (1, 329, 3, .null) := by decide +kernel
  have h2 : Nat.ble ((st.map fun v => v.category).sum) 8 = true := Nat.ble_eq_true_of_le hs
  have h3 : Nat.ble 3 (v :: .int x :: .int y :: st).length = true := Nat.ble_eq_true_of_le (by simp)
  have h4 : (((v :: Value.int x :: Value.int y :: st).drop 3).map fun v => v.category) = st.map fun v => v.category := rfl
  rw [pm_inv, hl]
  simp only [h4, h2, h3, Bool.and_self, cond_true]
  rfl
theorem k8run {al : Bool} {C : Nat → List Value → pm_H → pm_R → Prop} {x y : Int32} {v : Value} {ph : pm_H} (hv : v = .null ∨ v = .ref 1048579) (h0 : ¬ y < 0) (h1 : y < x) : pm_entB kK 329 [.int y, .int x, v] = true ∧ (∀ n r, pm_Tn kK al C 329 n (pm_ent kK 329 [.int y, .int x, v] ph) r → r = (some (.int y), ph, 0, 0)) ∧ pm_Tn kK al C 329 7 (pm_ent kK 329 [.int y, .int x, v] ph) (some (.int y), ph, 0, 0) := by
  have hL : pm_sl [.int y, .int x, v] = [some (.int y), some (.int x), some v] := by rcases hv with rfl | rfl <;> rfl
  have hsg : (pm_sig kK 329).2.1 = 3 := by decide +kernel
  have hsk : (pm_sig kK 329).2.2 = 1 := by decide +kernel
  have he : pm_ent kK 329 [.int y, .int x, v] ph = (0, [some (.int y), some (.int x), some v], [], ph, 0, 0) := by rw [pm_ent, hL, hsg]; rfl
  have c0 : pm_code kK 329 0 = some (2, .iload_n kF0, 0) := by decide +kernel
  have c1 : pm_code kK 329 1 = some (4, .ifCond .lt 8, 9) := by decide +kernel
  have c2 : pm_code kK 329 4 = some (2, .iload_n kF0, 0) := by decide +kernel
  have c3 : pm_code kK 329 5 = some (2, .iload_n kF1, 0) := by decide +kernel
  have c4 : pm_code kK 329 6 = some (4, .if_icmp .lt 10, 16) := by decide +kernel
  have c5 : pm_code kK 329 16 = some (2, .iload_n kF0, 0) := by decide +kernel
  have c6 : pm_code kK 329 17 = some (7, .ireturn, 0) := by decide +kernel
  have s0 : pm_step kK al 329 (0, [some (.int y), some (.int x), some v], [], ph, 0, 0) = some (.inl (1, [some (.int y), some (.int x), some v], [.int y], ph, 0, 0)) := by rw [pm_step, c0]; rfl
  have s1 : pm_step kK al 329 (1, [some (.int y), some (.int x), some v], [.int y], ph, 0, 0) = some (.inl (4, [some (.int y), some (.int x), some v], [], ph, 0, 0)) := by rw [pm_step, c1]; simp only [pm_br, decide_eq_false h0, cond_false]
  have s2 : pm_step kK al 329 (4, [some (.int y), some (.int x), some v], [], ph, 0, 0) = some (.inl (5, [some (.int y), some (.int x), some v], [.int y], ph, 0, 0)) := by rw [pm_step, c2]; rfl
  have s3 : pm_step kK al 329 (5, [some (.int y), some (.int x), some v], [.int y], ph, 0, 0) = some (.inl (6, [some (.int y), some (.int x), some v], [.int x, .int y], ph, 0, 0)) := by rw [pm_step, c3]; rfl
  have s4 : pm_step kK al 329 (6, [some (.int y), some (.int x), some v], [.int x, .int y], ph, 0, 0) = some (.inl (16, [some (.int y), some (.int x), some v], [], ph, 0, 0)) := by rw [pm_step, c4]; simp only [pm_br, decide_eq_true h1, cond_true]
  have s5 : pm_step kK al 329 (16, [some (.int y), some (.int x), some v], [], ph, 0, 0) = some (.inl (17, [some (.int y), some (.int x), some v], [.int y], ph, 0, 0)) := by rw [pm_step, c5]; rfl
  have s6 : pm_step kK al 329 (17, [some (.int y), some (.int x), some v], [.int y], ph, 0, 0) = some (.inr (.inr (some (.int y)))) := by rw [pm_step, c6]; simp only [hsk]; rfl
  refine ⟨by rw [pm_entB, hL, hsg]; rfl, fun n r h => ?_, ?_⟩
  · rw [he] at h
    cases n with
    | zero => exact h.elim
    | succ n =>
    rw [pm_Tn, s0] at h
    simp only at h
    cases n with
    | zero => exact h.elim
    | succ n =>
    rw [pm_Tn, s1] at h
    simp only at h
    cases n with
    | zero => exact h.elim
    | succ n =>
    rw [pm_Tn, s2] at h
    simp only at h
    cases n with
    | zero => exact h.elim
    | succ n =>
    rw [pm_Tn, s3] at h
    simp only at h
    cases n with
    | zero => exact h.elim
    | succ n =>
    rw [pm_Tn, s4] at h
    simp only at h
    cases n with
    | zero => exact h.elim
    | succ n =>
    rw [pm_Tn, s5] at h
    simp only at h
    cases n with
    | zero => exact h.elim
    | succ n =>
    rw [pm_Tn, s6] at h
    exact h
  · rw [he]
    iterate 1 rw [pm_Tn, s0]
    simp only
    rw [pm_Tn, s1]
    simp only
    rw [pm_Tn, s2]
    simp only
    rw [pm_Tn, s3]
    simp only
    rw [pm_Tn, s4]
    simp only
    rw [pm_Tn, s5]
    simp only
    rw [pm_Tn, s6]
theorem k8_312 : ∀ c ∈ kRow_312.2.2.2, ∀ q ∈ c, q.2.1 = 8 → pm_m8 kK kRow_312.1.2.1 kALL kzs (pm_cn klks kRow_312.2.1) kRow_312.2.1 q.1 q.2.2.1 q.2.2.2 := by
  intro c hc q hq hg
  simp only [kRow_312, kc_312, List.mem_cons, List.not_mem_nil, or_false] at hc
  subst hc
  simp only [List.mem_cons, List.not_mem_nil, or_false] at hq
  have hq2 : q = (2, 8, .getstatic 1053, 1059) := by
    rcases hq with rfl | rfl | rfl | rfl | rfl | rfl
    all_goals first | rfl | cases hg
  subst hq2
  refine ⟨1053, "jdk/internal/util/Preconditions", "SIOOBE_FORMATTER", "Ljava/util/function/BiFunction;", rfl, by decide +kernel, kw_1190, by decide +kernel, ?_⟩
  intro al D x y st ph j as r0 h0 h1 h
  have hs : ((st.map fun v => v.category).sum ≤ 8) := by
    have hl : pm_lnk kK 17 1059 = some (1, 329, 3, .null) := by decide +kernel
    have h4 : (((Value.null :: Value.int x :: Value.int y :: st).drop 3).map fun v => v.category) = st.map fun v => v.category := rfl
    change pm_inv kK 17 _ _ _ = _ at h
    rw [pm_inv, hl] at h
    simp only [h4] at h
    cases hb : Nat.ble ((st.map fun v => v.category).sum) 8 with
    | true => exact Nat.le_of_ble_eq_true hb
    | false => rw [hb, Bool.and_false] at h; cases h
  have h5 := (k8inv .null x y st ph (Or.inl rfl) hs).symm.trans h
  cases h5
  refine ⟨_, k8inv (.ref 1048579) x y st ph (Or.inr rfl) hs, fun r hr => ?_⟩
  cases D with
  | zero => exact hr.elim
  | succ D =>
    obtain ⟨-, n, hn⟩ := hr
    obtain ⟨b1, b2, b3⟩ := k8run (al := al) (C := pm_Rd kK al D) (ph := ph) (v := .null) (Or.inl rfl) h0 h1
    obtain ⟨d1, d2, d3⟩ := k8run (al := al) (C := pm_Rd kK al D) (ph := ph) (v := .ref 1048579) (Or.inr rfl) h0 h1
    cases b2 _ _ hn
    exact ⟨d1, 7, d3⟩
theorem k8c_0 : ∀ r ∈ kCh_0, pm_no8 r = true ∨ ∀ c ∈ r.2.2.2, ∀ q ∈ c, q.2.1 = 8 → pm_m8 kK r.1.2.1 kALL kzs (pm_cn klks r.2.1) r.2.1 q.1 q.2.2.1 q.2.2.2 := List.forall_mem_cons.mpr ⟨Or.inl (by decide +kernel), List.forall_mem_cons.mpr ⟨Or.inl (by decide +kernel), List.forall_mem_cons.mpr ⟨Or.inl (by decide +kernel), List.forall_mem_cons.mpr ⟨Or.inl (by decide +kernel), List.forall_mem_cons.mpr ⟨Or.inl (by decide +kernel), List.forall_mem_cons.mpr ⟨Or.inl (by decide +kernel), List.forall_mem_cons.mpr ⟨Or.inl (by decide +kernel), List.forall_mem_cons.mpr ⟨Or.inl (by decide +kernel), List.forall_mem_cons.mpr ⟨Or.inl (by decide +kernel), List.forall_mem_cons.mpr ⟨Or.inl (by decide +kernel), List.forall_mem_cons.mpr ⟨Or.inl (by decide +kernel), List.forall_mem_cons.mpr ⟨Or.inl (by decide +kernel), List.forall_mem_cons.mpr ⟨Or.inl (by decide +kernel), List.forall_mem_cons.mpr ⟨Or.inl (by decide +kernel), List.forall_mem_cons.mpr ⟨Or.inl (by decide +kernel), List.forall_mem_cons.mpr ⟨Or.inl (by decide +kernel), fun _ h => absurd h List.not_mem_nil⟩⟩⟩⟩⟩⟩⟩⟩⟩⟩⟩⟩⟩⟩⟩⟩
theorem k8c_1 : ∀ r ∈ kCh_1, pm_no8 r = true ∨ ∀ c ∈ r.2.2.2, ∀ q ∈ c, q.2.1 = 8 → pm_m8 kK r.1.2.1 kALL kzs (pm_cn klks r.2.1) r.2.1 q.1 q.2.2.1 q.2.2.2 := List.forall_mem_cons.mpr ⟨Or.inl (by decide +kernel), List.forall_mem_cons.mpr ⟨Or.inl (by decide +kernel), List.forall_mem_cons.mpr ⟨Or.inl (by decide +kernel), List.forall_mem_cons.mpr ⟨Or.inl (by decide +kernel), List.forall_mem_cons.mpr ⟨Or.inl (by decide +kernel), List.forall_mem_cons.mpr ⟨Or.inl (by decide +kernel), List.forall_mem_cons.mpr ⟨Or.inl (by decide +kernel), List.forall_mem_cons.mpr ⟨Or.inl (by decide +kernel), List.forall_mem_cons.mpr ⟨Or.inl (by decide +kernel), List.forall_mem_cons.mpr ⟨Or.inl (by decide +kernel), List.forall_mem_cons.mpr ⟨Or.inl (by decide +kernel), List.forall_mem_cons.mpr ⟨Or.inl (by decide +kernel), List.forall_mem_cons.mpr ⟨Or.inl (by decide +kernel), List.forall_mem_cons.mpr ⟨Or.inl (by decide +kernel), List.forall_mem_cons.mpr ⟨Or.inl (by decide +kernel), List.forall_mem_cons.mpr ⟨Or.inl (by decide +kernel), fun _ h => absurd h List.not_mem_nil⟩⟩⟩⟩⟩⟩⟩⟩⟩⟩⟩⟩⟩⟩⟩⟩
theorem k8c_2 : ∀ r ∈ kCh_2, pm_no8 r = true ∨ ∀ c ∈ r.2.2.2, ∀ q ∈ c, q.2.1 = 8 → pm_m8 kK r.1.2.1 kALL kzs (pm_cn klks r.2.1) r.2.1 q.1 q.2.2.1 q.2.2.2 := List.forall_mem_cons.mpr ⟨Or.inl (by decide +kernel), List.forall_mem_cons.mpr ⟨Or.inl (by decide +kernel), List.forall_mem_cons.mpr ⟨Or.inl (by decide +kernel), List.forall_mem_cons.mpr ⟨Or.inl (by decide +kernel), List.forall_mem_cons.mpr ⟨Or.inl (by decide +kernel), List.forall_mem_cons.mpr ⟨Or.inl (by decide +kernel), List.forall_mem_cons.mpr ⟨Or.inl (by decide +kernel), List.forall_mem_cons.mpr ⟨Or.inl (by decide +kernel), List.forall_mem_cons.mpr ⟨Or.inl (by decide +kernel), List.forall_mem_cons.mpr ⟨Or.inl (by decide +kernel), List.forall_mem_cons.mpr ⟨Or.inl (by decide +kernel), List.forall_mem_cons.mpr ⟨Or.inl (by decide +kernel), List.forall_mem_cons.mpr ⟨Or.inl (by decide +kernel), List.forall_mem_cons.mpr ⟨Or.inl (by decide +kernel), List.forall_mem_cons.mpr ⟨Or.inl (by decide +kernel), List.forall_mem_cons.mpr ⟨Or.inl (by decide +kernel), fun _ h => absurd h List.not_mem_nil⟩⟩⟩⟩⟩⟩⟩⟩⟩⟩⟩⟩⟩⟩⟩⟩
theorem k8c_3 : ∀ r ∈ kCh_3, pm_no8 r = true ∨ ∀ c ∈ r.2.2.2, ∀ q ∈ c, q.2.1 = 8 → pm_m8 kK r.1.2.1 kALL kzs (pm_cn klks r.2.1) r.2.1 q.1 q.2.2.1 q.2.2.2 := List.forall_mem_cons.mpr ⟨Or.inl (by decide +kernel), List.forall_mem_cons.mpr ⟨Or.inl (by decide +kernel), List.forall_mem_cons.mpr ⟨Or.inl (by decide +kernel), List.forall_mem_cons.mpr ⟨Or.inl (by decide +kernel), List.forall_mem_cons.mpr ⟨Or.inl (by decide +kernel), List.forall_mem_cons.mpr ⟨Or.inl (by decide +kernel), List.forall_mem_cons.mpr ⟨Or.inl (by decide +kernel), List.forall_mem_cons.mpr ⟨Or.inl (by decide +kernel), List.forall_mem_cons.mpr ⟨Or.inl (by decide +kernel), List.forall_mem_cons.mpr ⟨Or.inl (by decide +kernel), List.forall_mem_cons.mpr ⟨Or.inl (by decide +kernel), List.forall_mem_cons.mpr ⟨Or.inl (by decide +kernel), List.forall_mem_cons.mpr ⟨Or.inl (by decide +kernel), List.forall_mem_cons.mpr ⟨Or.inl (by decide +kernel), List.forall_mem_cons.mpr ⟨Or.inl (by decide +kernel), List.forall_mem_cons.mpr ⟨Or.inl (by decide +kernel), fun _ h => absurd h List.not_mem_nil⟩⟩⟩⟩⟩⟩⟩⟩⟩⟩⟩⟩⟩⟩⟩⟩
theorem k8c_4 : ∀ r ∈ kCh_4, pm_no8 r = true ∨ ∀ c ∈ r.2.2.2, ∀ q ∈ c, q.2.1 = 8 → pm_m8 kK r.1.2.1 kALL kzs (pm_cn klks r.2.1) r.2.1 q.1 q.2.2.1 q.2.2.2 := List.forall_mem_cons.mpr ⟨Or.inl (by decide +kernel), List.forall_mem_cons.mpr ⟨Or.inl (by decide +kernel), List.forall_mem_cons.mpr ⟨Or.inl (by decide +kernel), List.forall_mem_cons.mpr ⟨Or.inl (by decide +kernel), List.forall_mem_cons.mpr ⟨Or.inl (by decide +kernel), List.forall_mem_cons.mpr ⟨Or.inl (by decide +kernel), List.forall_mem_cons.mpr ⟨Or.inl (by decide +kernel), List.forall_mem_cons.mpr ⟨Or.inl (by decide +kernel), List.forall_mem_cons.mpr ⟨Or.inl (by decide +kernel), List.forall_mem_cons.mpr ⟨Or.inl (by decide +kernel), List.forall_mem_cons.mpr ⟨Or.inl (by decide +kernel), List.forall_mem_cons.mpr ⟨Or.inl (by decide +kernel), List.forall_mem_cons.mpr ⟨Or.inl (by decide +kernel), List.forall_mem_cons.mpr ⟨Or.inl (by decide +kernel), List.forall_mem_cons.mpr ⟨Or.inl (by decide +kernel), List.forall_mem_cons.mpr ⟨Or.inl (by decide +kernel), fun _ h => absurd h List.not_mem_nil⟩⟩⟩⟩⟩⟩⟩⟩⟩⟩⟩⟩⟩⟩⟩⟩
theorem k8c_5 : ∀ r ∈ kCh_5, pm_no8 r = true ∨ ∀ c ∈ r.2.2.2, ∀ q ∈ c, q.2.1 = 8 → pm_m8 kK r.1.2.1 kALL kzs (pm_cn klks r.2.1) r.2.1 q.1 q.2.2.1 q.2.2.2 := List.forall_mem_cons.mpr ⟨Or.inl (by decide +kernel), List.forall_mem_cons.mpr ⟨Or.inl (by decide +kernel), List.forall_mem_cons.mpr ⟨Or.inl (by decide +kernel), List.forall_mem_cons.mpr ⟨Or.inl (by decide +kernel), List.forall_mem_cons.mpr ⟨Or.inl (by decide +kernel), List.forall_mem_cons.mpr ⟨Or.inl (by decide +kernel), List.forall_mem_cons.mpr ⟨Or.inl (by decide +kernel), List.forall_mem_cons.mpr ⟨Or.inl (by decide +kernel), List.forall_mem_cons.mpr ⟨Or.inl (by decide +kernel), List.forall_mem_cons.mpr ⟨Or.inl (by decide +kernel), List.forall_mem_cons.mpr ⟨Or.inl (by decide +kernel), List.forall_mem_cons.mpr ⟨Or.inl (by decide +kernel), List.forall_mem_cons.mpr ⟨Or.inl (by decide +kernel), List.forall_mem_cons.mpr ⟨Or.inl (by decide +kernel), List.forall_mem_cons.mpr ⟨Or.inl (by decide +kernel), List.forall_mem_cons.mpr ⟨Or.inl (by decide +kernel), fun _ h => absurd h List.not_mem_nil⟩⟩⟩⟩⟩⟩⟩⟩⟩⟩⟩⟩⟩⟩⟩⟩
theorem k8c_6 : ∀ r ∈ kCh_6, pm_no8 r = true ∨ ∀ c ∈ r.2.2.2, ∀ q ∈ c, q.2.1 = 8 → pm_m8 kK r.1.2.1 kALL kzs (pm_cn klks r.2.1) r.2.1 q.1 q.2.2.1 q.2.2.2 := List.forall_mem_cons.mpr ⟨Or.inl (by decide +kernel), List.forall_mem_cons.mpr ⟨Or.inl (by decide +kernel), List.forall_mem_cons.mpr ⟨Or.inl (by decide +kernel), List.forall_mem_cons.mpr ⟨Or.inl (by decide +kernel), List.forall_mem_cons.mpr ⟨Or.inl (by decide +kernel), List.forall_mem_cons.mpr ⟨Or.inl (by decide +kernel), List.forall_mem_cons.mpr ⟨Or.inl (by decide +kernel), List.forall_mem_cons.mpr ⟨Or.inl (by decide +kernel), List.forall_mem_cons.mpr ⟨Or.inl (by decide +kernel), List.forall_mem_cons.mpr ⟨Or.inl (by decide +kernel), List.forall_mem_cons.mpr ⟨Or.inl (by decide +kernel), List.forall_mem_cons.mpr ⟨Or.inl (by decide +kernel), List.forall_mem_cons.mpr ⟨Or.inl (by decide +kernel), List.forall_mem_cons.mpr ⟨Or.inl (by decide +kernel), List.forall_mem_cons.mpr ⟨Or.inl (by decide +kernel), List.forall_mem_cons.mpr ⟨Or.inl (by decide +kernel), fun _ h => absurd h List.not_mem_nil⟩⟩⟩⟩⟩⟩⟩⟩⟩⟩⟩⟩⟩⟩⟩⟩
theorem k8c_7 : ∀ r ∈ kCh_7, pm_no8 r = true ∨ ∀ c ∈ r.2.2.2, ∀ q ∈ c, q.2.1 = 8 → pm_m8 kK r.1.2.1 kALL kzs (pm_cn klks r.2.1) r.2.1 q.1 q.2.2.1 q.2.2.2 := List.forall_mem_cons.mpr ⟨Or.inl (by decide +kernel), List.forall_mem_cons.mpr ⟨Or.inl (by decide +kernel), List.forall_mem_cons.mpr ⟨Or.inl (by decide +kernel), List.forall_mem_cons.mpr ⟨Or.inl (by decide +kernel), List.forall_mem_cons.mpr ⟨Or.inl (by decide +kernel), List.forall_mem_cons.mpr ⟨Or.inl (by decide +kernel), List.forall_mem_cons.mpr ⟨Or.inl (by decide +kernel), List.forall_mem_cons.mpr ⟨Or.inl (by decide +kernel), List.forall_mem_cons.mpr ⟨Or.inl (by decide +kernel), List.forall_mem_cons.mpr ⟨Or.inl (by decide +kernel), List.forall_mem_cons.mpr ⟨Or.inl (by decide +kernel), List.forall_mem_cons.mpr ⟨Or.inl (by decide +kernel), List.forall_mem_cons.mpr ⟨Or.inl (by decide +kernel), List.forall_mem_cons.mpr ⟨Or.inl (by decide +kernel), List.forall_mem_cons.mpr ⟨Or.inl (by decide +kernel), List.forall_mem_cons.mpr ⟨Or.inl (by decide +kernel), fun _ h => absurd h List.not_mem_nil⟩⟩⟩⟩⟩⟩⟩⟩⟩⟩⟩⟩⟩⟩⟩⟩
theorem k8c_8 : ∀ r ∈ kCh_8, pm_no8 r = true ∨ ∀ c ∈ r.2.2.2, ∀ q ∈ c, q.2.1 = 8 → pm_m8 kK r.1.2.1 kALL kzs (pm_cn klks r.2.1) r.2.1 q.1 q.2.2.1 q.2.2.2 := List.forall_mem_cons.mpr ⟨Or.inl (by decide +kernel), List.forall_mem_cons.mpr ⟨Or.inl (by decide +kernel), List.forall_mem_cons.mpr ⟨Or.inl (by decide +kernel), List.forall_mem_cons.mpr ⟨Or.inl (by decide +kernel), List.forall_mem_cons.mpr ⟨Or.inl (by decide +kernel), List.forall_mem_cons.mpr ⟨Or.inl (by decide +kernel), List.forall_mem_cons.mpr ⟨Or.inl (by decide +kernel), List.forall_mem_cons.mpr ⟨Or.inl (by decide +kernel), List.forall_mem_cons.mpr ⟨Or.inl (by decide +kernel), List.forall_mem_cons.mpr ⟨Or.inl (by decide +kernel), List.forall_mem_cons.mpr ⟨Or.inl (by decide +kernel), List.forall_mem_cons.mpr ⟨Or.inl (by decide +kernel), List.forall_mem_cons.mpr ⟨Or.inl (by decide +kernel), List.forall_mem_cons.mpr ⟨Or.inl (by decide +kernel), List.forall_mem_cons.mpr ⟨Or.inl (by decide +kernel), List.forall_mem_cons.mpr ⟨Or.inl (by decide +kernel), fun _ h => absurd h List.not_mem_nil⟩⟩⟩⟩⟩⟩⟩⟩⟩⟩⟩⟩⟩⟩⟩⟩
theorem k8c_9 : ∀ r ∈ kCh_9, pm_no8 r = true ∨ ∀ c ∈ r.2.2.2, ∀ q ∈ c, q.2.1 = 8 → pm_m8 kK r.1.2.1 kALL kzs (pm_cn klks r.2.1) r.2.1 q.1 q.2.2.1 q.2.2.2 := List.forall_mem_cons.mpr ⟨Or.inl (by decide +kernel), List.forall_mem_cons.mpr ⟨Or.inl (by decide +kernel), List.forall_mem_cons.mpr ⟨Or.inl (by decide +kernel), List.forall_mem_cons.mpr ⟨Or.inl (by decide +kernel), List.forall_mem_cons.mpr ⟨Or.inl (by decide +kernel), List.forall_mem_cons.mpr ⟨Or.inl (by decide +kernel), List.forall_mem_cons.mpr ⟨Or.inl (by decide +kernel), List.forall_mem_cons.mpr ⟨Or.inl (by decide +kernel), List.forall_mem_cons.mpr ⟨Or.inl (by decide +kernel), List.forall_mem_cons.mpr ⟨Or.inl (by decide +kernel), List.forall_mem_cons.mpr ⟨Or.inl (by decide +kernel), List.forall_mem_cons.mpr ⟨Or.inl (by decide +kernel), List.forall_mem_cons.mpr ⟨Or.inl (by decide +kernel), List.forall_mem_cons.mpr ⟨Or.inl (by decide +kernel), List.forall_mem_cons.mpr ⟨Or.inl (by decide +kernel), List.forall_mem_cons.mpr ⟨Or.inl (by decide +kernel), fun _ h => absurd h List.not_mem_nil⟩⟩⟩⟩⟩⟩⟩⟩⟩⟩⟩⟩⟩⟩⟩⟩
theorem k8c_10 : ∀ r ∈ kCh_10, pm_no8 r = true ∨ ∀ c ∈ r.2.2.2, ∀ q ∈ c, q.2.1 = 8 → pm_m8 kK r.1.2.1 kALL kzs (pm_cn klks r.2.1) r.2.1 q.1 q.2.2.1 q.2.2.2 := List.forall_mem_cons.mpr ⟨Or.inl (by decide +kernel), List.forall_mem_cons.mpr ⟨Or.inl (by decide +kernel), List.forall_mem_cons.mpr ⟨Or.inl (by decide +kernel), List.forall_mem_cons.mpr ⟨Or.inl (by decide +kernel), List.forall_mem_cons.mpr ⟨Or.inl (by decide +kernel), List.forall_mem_cons.mpr ⟨Or.inl (by decide +kernel), List.forall_mem_cons.mpr ⟨Or.inl (by decide +kernel), List.forall_mem_cons.mpr ⟨Or.inl (by decide +kernel), List.forall_mem_cons.mpr ⟨Or.inl (by decide +kernel), List.forall_mem_cons.mpr ⟨Or.inl (by decide +kernel), List.forall_mem_cons.mpr ⟨Or.inl (by decide +kernel), List.forall_mem_cons.mpr ⟨Or.inl (by decide +kernel), List.forall_mem_cons.mpr ⟨Or.inl (by decide +kernel), List.forall_mem_cons.mpr ⟨Or.inl (by decide +kernel), List.forall_mem_cons.mpr ⟨Or.inl (by decide +kernel), List.forall_mem_cons.mpr ⟨Or.inl (by decide +kernel), fun _ h => absurd h List.not_mem_nil⟩⟩⟩⟩⟩⟩⟩⟩⟩⟩⟩⟩⟩⟩⟩⟩
theorem k8c_11 : ∀ r ∈ kCh_11, pm_no8 r = true ∨ ∀ c ∈ r.2.2.2, ∀ q ∈ c, q.2.1 = 8 → pm_m8 kK r.1.2.1 kALL kzs (pm_cn klks r.2.1) r.2.1 q.1 q.2.2.1 q.2.2.2 := List.forall_mem_cons.mpr ⟨Or.inl (by decide +kernel), List.forall_mem_cons.mpr ⟨Or.inl (by decide +kernel), List.forall_mem_cons.mpr ⟨Or.inl (by decide +kernel), List.forall_mem_cons.mpr ⟨Or.inl (by decide +kernel), List.forall_mem_cons.mpr ⟨Or.inl (by decide +kernel), List.forall_mem_cons.mpr ⟨Or.inl (by decide +kernel), List.forall_mem_cons.mpr ⟨Or.inl (by decide +kernel), List.forall_mem_cons.mpr ⟨Or.inl (by decide +kernel), List.forall_mem_cons.mpr ⟨Or.inl (by decide +kernel), List.forall_mem_cons.mpr ⟨Or.inl (by decide +kernel), List.forall_mem_cons.mpr ⟨Or.inl (by decide +kernel), List.forall_mem_cons.mpr ⟨Or.inl (by decide +kernel), List.forall_mem_cons.mpr ⟨Or.inl (by decide +kernel), List.forall_mem_cons.mpr ⟨Or.inl (by decide +kernel), List.forall_mem_cons.mpr ⟨Or.inl (by decide +kernel), List.forall_mem_cons.mpr ⟨Or.inl (by decide +kernel), fun _ h => absurd h List.not_mem_nil⟩⟩⟩⟩⟩⟩⟩⟩⟩⟩⟩⟩⟩⟩⟩⟩
theorem k8c_12 : ∀ r ∈ kCh_12, pm_no8 r = true ∨ ∀ c ∈ r.2.2.2, ∀ q ∈ c, q.2.1 = 8 → pm_m8 kK r.1.2.1 kALL kzs (pm_cn klks r.2.1) r.2.1 q.1 q.2.2.1 q.2.2.2 := List.forall_mem_cons.mpr ⟨Or.inl (by decide +kernel), List.forall_mem_cons.mpr ⟨Or.inl (by decide +kernel), List.forall_mem_cons.mpr ⟨Or.inl (by decide +kernel), List.forall_mem_cons.mpr ⟨Or.inl (by decide +kernel), List.forall_mem_cons.mpr ⟨Or.inl (by decide +kernel), List.forall_mem_cons.mpr ⟨Or.inl (by decide +kernel), List.forall_mem_cons.mpr ⟨Or.inl (by decide +kernel), List.forall_mem_cons.mpr ⟨Or.inl (by decide +kernel), List.forall_mem_cons.mpr ⟨Or.inl (by decide +kernel), List.forall_mem_cons.mpr ⟨Or.inl (by decide +kernel), List.forall_mem_cons.mpr ⟨Or.inl (by decide +kernel), List.forall_mem_cons.mpr ⟨Or.inl (by decide +kernel), List.forall_mem_cons.mpr ⟨Or.inl (by decide +kernel), List.forall_mem_cons.mpr ⟨Or.inl (by decide +kernel), List.forall_mem_cons.mpr ⟨Or.inl (by decide +kernel), List.forall_mem_cons.mpr ⟨Or.inl (by decide +kernel), fun _ h => absurd h List.not_mem_nil⟩⟩⟩⟩⟩⟩⟩⟩⟩⟩⟩⟩⟩⟩⟩⟩
theorem k8c_13 : ∀ r ∈ kCh_13, pm_no8 r = true ∨ ∀ c ∈ r.2.2.2, ∀ q ∈ c, q.2.1 = 8 → pm_m8 kK r.1.2.1 kALL kzs (pm_cn klks r.2.1) r.2.1 q.1 q.2.2.1 q.2.2.2 := List.forall_mem_cons.mpr ⟨Or.inl (by decide +kernel), List.forall_mem_cons.mpr ⟨Or.inl (by decide +kernel), List.forall_mem_cons.mpr ⟨Or.inl (by decide +kernel), List.forall_mem_cons.mpr ⟨Or.inl (by decide +kernel), List.forall_mem_cons.mpr ⟨Or.inl (by decide +kernel), List.forall_mem_cons.mpr ⟨Or.inl (by decide +kernel), List.forall_mem_cons.mpr ⟨Or.inl (by decide +kernel), List.forall_mem_cons.mpr ⟨Or.inl (by decide +kernel), List.forall_mem_cons.mpr ⟨Or.inl (by decide +kernel), List.forall_mem_cons.mpr ⟨Or.inl (by decide +kernel), List.forall_mem_cons.mpr ⟨Or.inl (by decide +kernel), List.forall_mem_cons.mpr ⟨Or.inl (by decide +kernel), List.forall_mem_cons.mpr ⟨Or.inl (by decide +kernel), List.forall_mem_cons.mpr ⟨Or.inl (by decide +kernel), List.forall_mem_cons.mpr ⟨Or.inl (by decide +kernel), List.forall_mem_cons.mpr ⟨Or.inl (by decide +kernel), fun _ h => absurd h List.not_mem_nil⟩⟩⟩⟩⟩⟩⟩⟩⟩⟩⟩⟩⟩⟩⟩⟩
theorem k8c_14 : ∀ r ∈ kCh_14, pm_no8 r = true ∨ ∀ c ∈ r.2.2.2, ∀ q ∈ c, q.2.1 = 8 → pm_m8 kK r.1.2.1 kALL kzs (pm_cn klks r.2.1) r.2.1 q.1 q.2.2.1 q.2.2.2 := List.forall_mem_cons.mpr ⟨Or.inl (by decide +kernel), List.forall_mem_cons.mpr ⟨Or.inl (by decide +kernel), List.forall_mem_cons.mpr ⟨Or.inl (by decide +kernel), List.forall_mem_cons.mpr ⟨Or.inl (by decide +kernel), List.forall_mem_cons.mpr ⟨Or.inl (by decide +kernel), List.forall_mem_cons.mpr ⟨Or.inl (by decide +kernel), List.forall_mem_cons.mpr ⟨Or.inl (by decide +kernel), List.forall_mem_cons.mpr ⟨Or.inl (by decide +kernel), List.forall_mem_cons.mpr ⟨Or.inl (by decide +kernel), List.forall_mem_cons.mpr ⟨Or.inl (by decide +kernel), List.forall_mem_cons.mpr ⟨Or.inl (by decide +kernel), List.forall_mem_cons.mpr ⟨Or.inl (by decide +kernel), List.forall_mem_cons.mpr ⟨Or.inl (by decide +kernel), List.forall_mem_cons.mpr ⟨Or.inl (by decide +kernel), List.forall_mem_cons.mpr ⟨Or.inl (by decide +kernel), List.forall_mem_cons.mpr ⟨Or.inl (by decide +kernel), fun _ h => absurd h List.not_mem_nil⟩⟩⟩⟩⟩⟩⟩⟩⟩⟩⟩⟩⟩⟩⟩⟩
theorem k8c_15 : ∀ r ∈ kCh_15, pm_no8 r = true ∨ ∀ c ∈ r.2.2.2, ∀ q ∈ c, q.2.1 = 8 → pm_m8 kK r.1.2.1 kALL kzs (pm_cn klks r.2.1) r.2.1 q.1 q.2.2.1 q.2.2.2 := List.forall_mem_cons.mpr ⟨Or.inl (by decide +kernel), List.forall_mem_cons.mpr ⟨Or.inl (by decide +kernel), List.forall_mem_cons.mpr ⟨Or.inl (by decide +kernel), List.forall_mem_cons.mpr ⟨Or.inl (by decide +kernel), List.forall_mem_cons.mpr ⟨Or.inl (by decide +kernel), List.forall_mem_cons.mpr ⟨Or.inl (by decide +kernel), List.forall_mem_cons.mpr ⟨Or.inl (by decide +kernel), List.forall_mem_cons.mpr ⟨Or.inl (by decide +kernel), List.forall_mem_cons.mpr ⟨Or.inl (by decide +kernel), List.forall_mem_cons.mpr ⟨Or.inl (by decide +kernel), List.forall_mem_cons.mpr ⟨Or.inl (by decide +kernel), List.forall_mem_cons.mpr ⟨Or.inl (by decide +kernel), List.forall_mem_cons.mpr ⟨Or.inl (by decide +kernel), List.forall_mem_cons.mpr ⟨Or.inl (by decide +kernel), List.forall_mem_cons.mpr ⟨Or.inl (by decide +kernel), List.forall_mem_cons.mpr ⟨Or.inl (by decide +kernel), fun _ h => absurd h List.not_mem_nil⟩⟩⟩⟩⟩⟩⟩⟩⟩⟩⟩⟩⟩⟩⟩⟩
theorem k8c_16 : ∀ r ∈ kCh_16, pm_no8 r = true ∨ ∀ c ∈ r.2.2.2, ∀ q ∈ c, q.2.1 = 8 → pm_m8 kK r.1.2.1 kALL kzs (pm_cn klks r.2.1) r.2.1 q.1 q.2.2.1 q.2.2.2 := List.forall_mem_cons.mpr ⟨Or.inl (by decide +kernel), List.forall_mem_cons.mpr ⟨Or.inl (by decide +kernel), List.forall_mem_cons.mpr ⟨Or.inl (by decide +kernel), List.forall_mem_cons.mpr ⟨Or.inl (by decide +kernel), List.forall_mem_cons.mpr ⟨Or.inl (by decide +kernel), List.forall_mem_cons.mpr ⟨Or.inl (by decide +kernel), List.forall_mem_cons.mpr ⟨Or.inl (by decide +kernel), List.forall_mem_cons.mpr ⟨Or.inl (by decide +kernel), List.forall_mem_cons.mpr ⟨Or.inl (by decide +kernel), List.forall_mem_cons.mpr ⟨Or.inl (by decide +kernel), List.forall_mem_cons.mpr ⟨Or.inl (by decide +kernel), List.forall_mem_cons.mpr ⟨Or.inl (by decide +kernel), List.forall_mem_cons.mpr ⟨Or.inl (by decide +kernel), List.forall_mem_cons.mpr ⟨Or.inl (by decide +kernel), List.forall_mem_cons.mpr ⟨Or.inl (by decide +kernel), List.forall_mem_cons.mpr ⟨Or.inl (by decide +kernel), fun _ h => absurd h List.not_mem_nil⟩⟩⟩⟩⟩⟩⟩⟩⟩⟩⟩⟩⟩⟩⟩⟩
theorem k8c_17 : ∀ r ∈ kCh_17, pm_no8 r = true ∨ ∀ c ∈ r.2.2.2, ∀ q ∈ c, q.2.1 = 8 → pm_m8 kK r.1.2.1 kALL kzs (pm_cn klks r.2.1) r.2.1 q.1 q.2.2.1 q.2.2.2 := List.forall_mem_cons.mpr ⟨Or.inl (by decide +kernel), List.forall_mem_cons.mpr ⟨Or.inl (by decide +kernel), List.forall_mem_cons.mpr ⟨Or.inl (by decide +kernel), List.forall_mem_cons.mpr ⟨Or.inl (by decide +kernel), List.forall_mem_cons.mpr ⟨Or.inl (by decide +kernel), List.forall_mem_cons.mpr ⟨Or.inl (by decide +kernel), List.forall_mem_cons.mpr ⟨Or.inl (by decide +kernel), List.forall_mem_cons.mpr ⟨Or.inl (by decide +kernel), List.forall_mem_cons.mpr ⟨Or.inl (by decide +kernel), List.forall_mem_cons.mpr ⟨Or.inl (by decide +kernel), List.forall_mem_cons.mpr ⟨Or.inl (by decide +kernel), List.forall_mem_cons.mpr ⟨Or.inl (by decide +kernel), List.forall_mem_cons.mpr ⟨Or.inl (by decide +kernel), List.forall_mem_cons.mpr ⟨Or.inl (by decide +kernel), List.forall_mem_cons.mpr ⟨Or.inl (by decide +kernel), List.forall_mem_cons.mpr ⟨Or.inl (by decide +kernel), fun _ h => absurd h List.not_mem_nil⟩⟩⟩⟩⟩⟩⟩⟩⟩⟩⟩⟩⟩⟩⟩⟩
theorem k8c_18 : ∀ r ∈ kCh_18, pm_no8 r = true ∨ ∀ c ∈ r.2.2.2, ∀ q ∈ c, q.2.1 = 8 → pm_m8 kK r.1.2.1 kALL kzs (pm_cn klks r.2.1) r.2.1 q.1 q.2.2.1 q.2.2.2 := List.forall_mem_cons.mpr ⟨Or.inl (by decide +kernel), List.forall_mem_cons.mpr ⟨Or.inl (by decide +kernel), List.forall_mem_cons.mpr ⟨Or.inl (by decide +kernel), List.forall_mem_cons.mpr ⟨Or.inl (by decide +kernel), List.forall_mem_cons.mpr ⟨Or.inl (by decide +kernel), List.forall_mem_cons.mpr ⟨Or.inl (by decide +kernel), List.forall_mem_cons.mpr ⟨Or.inl (by decide +kernel), List.forall_mem_cons.mpr ⟨Or.inl (by decide +kernel), List.forall_mem_cons.mpr ⟨Or.inl (by decide +kernel), List.forall_mem_cons.mpr ⟨Or.inl (by decide +kernel), List.forall_mem_cons.mpr ⟨Or.inl (by decide +kernel), List.forall_mem_cons.mpr ⟨Or.inl (by decide +kernel), List.forall_mem_cons.mpr ⟨Or.inl (by decide +kernel), List.forall_mem_cons.mpr ⟨Or.inl (by decide +kernel), List.forall_mem_cons.mpr ⟨Or.inl (by decide +kernel), List.forall_mem_cons.mpr ⟨Or.inl (by decide +kernel), fun _ h => absurd h List.not_mem_nil⟩⟩⟩⟩⟩⟩⟩⟩⟩⟩⟩⟩⟩⟩⟩⟩
theorem k8c_19 : ∀ r ∈ kCh_19, pm_no8 r = true ∨ ∀ c ∈ r.2.2.2, ∀ q ∈ c, q.2.1 = 8 → pm_m8 kK r.1.2.1 kALL kzs (pm_cn klks r.2.1) r.2.1 q.1 q.2.2.1 q.2.2.2 := List.forall_mem_cons.mpr ⟨Or.inl (by decide +kernel), List.forall_mem_cons.mpr ⟨Or.inl (by decide +kernel), List.forall_mem_cons.mpr ⟨Or.inl (by decide +kernel), List.forall_mem_cons.mpr ⟨Or.inl (by decide +kernel), List.forall_mem_cons.mpr ⟨Or.inl (by decide +kernel), List.forall_mem_cons.mpr ⟨Or.inl (by decide +kernel), List.forall_mem_cons.mpr ⟨Or.inl (by decide +kernel), List.forall_mem_cons.mpr ⟨Or.inl (by decide +kernel), List.forall_mem_cons.mpr ⟨Or.inr k8_312, List.forall_mem_cons.mpr ⟨Or.inl (by decide +kernel), List.forall_mem_cons.mpr ⟨Or.inl (by decide +kernel), List.forall_mem_cons.mpr ⟨Or.inl (by decide +kernel), List.forall_mem_cons.mpr ⟨Or.inl (by decide +kernel), List.forall_mem_cons.mpr ⟨Or.inl (by decide +kernel), List.forall_mem_cons.mpr ⟨Or.inl (by decide +kernel), List.forall_mem_cons.mpr ⟨Or.inl (by decide +kernel), fun _ h => absurd h List.not_mem_nil⟩⟩⟩⟩⟩⟩⟩⟩⟩⟩⟩⟩⟩⟩⟩⟩
theorem k8c_20 : ∀ r ∈ kCh_20, pm_no8 r = true ∨ ∀ c ∈ r.2.2.2, ∀ q ∈ c, q.2.1 = 8 → pm_m8 kK r.1.2.1 kALL kzs (pm_cn klks r.2.1) r.2.1 q.1 q.2.2.1 q.2.2.2 := List.forall_mem_cons.mpr ⟨Or.inl (by decide +kernel), List.forall_mem_cons.mpr ⟨Or.inl (by decide +kernel), List.forall_mem_cons.mpr ⟨Or.inl (by decide +kernel), List.forall_mem_cons.mpr ⟨Or.inl (by decide +kernel), List.forall_mem_cons.mpr ⟨Or.inl (by decide +kernel), List.forall_mem_cons.mpr ⟨Or.inl (by decide +kernel), List.forall_mem_cons.mpr ⟨Or.inl (by decide +kernel), List.forall_mem_cons.mpr ⟨Or.inl (by decide +kernel), List.forall_mem_cons.mpr ⟨Or.inl (by decide +kernel), List.forall_mem_cons.mpr ⟨Or.inl (by decide +kernel), List.forall_mem_cons.mpr ⟨Or.inl (by decide +kernel), fun _ h => absurd h List.not_mem_nil⟩⟩⟩⟩⟩⟩⟩⟩⟩⟩⟩
theorem k8all : ∀ c ∈ krows, ∀ r ∈ c, pm_no8 r = true ∨ ∀ c ∈ r.2.2.2, ∀ q ∈ c, q.2.1 = 8 → pm_m8 kK r.1.2.1 kALL kzs (pm_cn klks r.2.1) r.2.1 q.1 q.2.2.1 q.2.2.2 := List.forall_mem_cons.mpr ⟨k8c_0, List.forall_mem_cons.mpr ⟨k8c_1, List.forall_mem_cons.mpr ⟨k8c_2, List.forall_mem_cons.mpr ⟨k8c_3, List.forall_mem_cons.mpr ⟨k8c_4, List.forall_mem_cons.mpr ⟨k8c_5, List.forall_mem_cons.mpr ⟨k8c_6, List.forall_mem_cons.mpr ⟨k8c_7, List.forall_mem_cons.mpr ⟨k8c_8, List.forall_mem_cons.mpr ⟨k8c_9, List.forall_mem_cons.mpr ⟨k8c_10, List.forall_mem_cons.mpr ⟨k8c_11, List.forall_mem_cons.mpr ⟨k8c_12, List.forall_mem_cons.mpr ⟨k8c_13, List.forall_mem_cons.mpr ⟨k8c_14, List.forall_mem_cons.mpr ⟨k8c_15, List.forall_mem_cons.mpr ⟨k8c_16, List.forall_mem_cons.mpr ⟨k8c_17, List.forall_mem_cons.mpr ⟨k8c_18, List.forall_mem_cons.mpr ⟨k8c_19, List.forall_mem_cons.mpr ⟨k8c_20, fun _ h => absurd h List.not_mem_nil⟩⟩⟩⟩⟩⟩⟩⟩⟩⟩⟩⟩⟩⟩⟩⟩⟩⟩⟩⟩⟩
theorem kok : pm_ok kK kM kcl kALL knws kzs krs kaos krof (pm_cn klks) "BonnetValley$State" := pm_mk_ok kLall kck kbase knwf kgood kE kRall k8all
