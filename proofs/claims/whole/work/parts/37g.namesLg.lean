noncomputable def zW_ggL_law_L_observe : List Cond := (.codeWith yL_observe cL_observe 4 (some .int) [(0, 9, 12, 15)] :: ((wsL_observe_r1 ++ (wsL_observe_r2 ++ (wsL_observe_r3 ++ (wsL_observe_r4 ++ wsL_observe_r5)))) ++ wsX120 ++ wsX60 ++ wsX110 ++ wsX100 ++ wsX20 ++ wsX40))
set_option maxRecDepth 20000 in
theorem zC0_ggL_law_L_observe : GoodIn wsL_law ((zW_ggL_law_L_observe.drop 0).take 70) := goodIn_r _ [824, 315, 825, 826, 827, 2, 828, 24, 17, 531, 532, 533, 158, 159, 534, 535, 52, 536, 171, 172, 173, 23, 174, 87, 86, 88, 175, 176, 177, 178, 179, 180, 181, 16, 182, 49, 53, 57, 58, 183, 184, 185, 48, 186, 64, 65, 187, 188, 189, 190, 70, 71, 191, 192, 193, 56, 194, 75, 76, 77, 78, 79, 80, 829, 830, 831, 832, 833, 834, 835] (by decide +kernel) (by decide +kernel)
set_option maxRecDepth 20000 in
theorem zC1_ggL_law_L_observe : GoodIn wsL_law (zW_ggL_law_L_observe.drop 70) := goodIn_r _ [836, 549, 550, 551, 552, 548, 837, 555, 556, 557, 838, 839, 840, 841, 842, 843, 844, 845, 846, 847, 848, 809, 802, 803, 804, 849, 850, 851, 852, 853, 806, 807, 808, 1300, 1301, 1302, 1303, 1304, 1305, 1306, 1307, 1308, 1309, 1310, 1339, 1340, 1341, 1335, 1336, 1337, 1338, 1358, 1359, 1360, 1361, 1362, 1363, 1364, 1365, 1366, 1367] (by decide +kernel) (by decide +kernel)
theorem zA_ggL_law_L_observe : GoodIn wsL_law zW_ggL_law_L_observe := goodIn_dz (goodIn_td (i := 0) (n := 70) zC0_ggL_law_L_observe zC1_ggL_law_L_observe)
theorem ggL_law_L_observe : GoodIn wsL_law wsL_observe := goodIn_ca (goodIn_ca ((show GoodIn wsL_law (.codeWith yL_observe cL_observe 4 (some .int) [(0, 9, 12, 15)] :: ((wsL_observe_r1 ++ (wsL_observe_r2 ++ (wsL_observe_r3 ++ (wsL_observe_r4 ++ wsL_observe_r5)))) ++ wsX120 ++ wsX60 ++ wsX110 ++ wsX100 ++ wsX20 ++ wsX40)) from zA_ggL_law_L_observe)) (goodIn_sub (fun _ h => List.mem_append_left _ (List.mem_append_left _ (List.mem_append_left _ (List.mem_append_left _ (List.mem_append_left _ (List.mem_append_left _ (List.mem_append_right _ h))))))) (by decide +kernel))) (goodIn_sub (fun _ h => List.mem_append_left _ (List.mem_append_left _ (List.mem_append_left _ (List.mem_append_left _ (List.mem_append_left _ (List.mem_append_right _ h)))))) (by decide +kernel))
set_option maxRecDepth 20000 in
theorem gL_law_L_observe : GoodIn wsL_law (va_wsS RL 242 yL_observe wsL_observe) := goodIn_app (goodIn_of _ (by decide +kernel)) ggL_law_L_observe
set_option maxRecDepth 20000 in
theorem ggL_law_X13_observe : GoodIn wsL_law wsX13_observe := goodIn_ca (goodIn_r _ [857, 134, 562, 563, 5, 564, 213, 214, 215, 216, 217, 218, 219, 220, 221, 222, 223, 224, 225, 226, 135, 227, 228, 229, 858, 859, 860, 861, 386, 387, 388, 818, 819, 820, 821, 1311, 1312, 1313, 1314, 1315, 1316, 1317, 1318, 1319, 1320, 1321, 1322, 1323, 1324, 1325, 1326, 1327, 1328, 1329, 1330, 1331, 1332, 1333, 1334] (by decide +kernel) (by decide +kernel)) (goodIn_sub (fun _ h => List.mem_append_left _ (List.mem_append_left _ (List.mem_append_left _ (List.mem_append_left _ (List.mem_append_left _ (List.mem_append_left _ (List.mem_append_right _ h))))))) (by decide +kernel))
set_option maxRecDepth 20000 in
theorem gL_law_X13_observe : GoodIn wsL_law (wsV RL 244 RX13 yX13_observe wsX13_observe) := goodIn_app (goodIn_of _ (by decide +kernel)) ggL_law_X13_observe
set_option maxRecDepth 20000 in
theorem ggL_law_X12_forecastCount : GoodIn wsL_law wsX12_forecastCount := goodIn_r _ [865, 17, 1300, 1301, 1302, 1303, 1304, 1305, 1306, 1307, 1308, 1309, 1310, 1335, 1336, 1337, 1338, 1362, 1363, 1364, 1365, 1366, 1367] (by decide +kernel) (by decide +kernel)
set_option maxRecDepth 20000 in
theorem gL_law_X12_forecastCount : GoodIn wsL_law (wsV RL 245 RX12 yX12_forecastCount wsX12_forecastCount) := goodIn_app (goodIn_of _ (by decide +kernel)) ggL_law_X12_forecastCount
set_option maxRecDepth 20000 in
theorem ggL_law_X13_forecastCount : GoodIn wsL_law wsX13_forecastCount := goodIn_ca (goodIn_r _ [869, 220, 134, 1311, 1312, 1313, 1314, 1315, 1316, 1317, 1318, 1319, 1320, 1321, 1322, 1323, 1324, 1325, 1326, 1327, 1328, 1329, 1330, 1331, 1332, 1333, 1334] (by decide +kernel) (by decide +kernel)) (goodIn_sub (fun _ h => List.mem_append_left _ (List.mem_append_left _ (List.mem_append_left _ (List.mem_append_left _ (List.mem_append_left _ (List.mem_append_left _ (List.mem_append_right _ h))))))) (by decide +kernel))
set_option maxRecDepth 20000 in
theorem gL_law_X13_forecastCount : GoodIn wsL_law (wsV RL 248 RX13 yX13_forecastCount wsX13_forecastCount) := goodIn_app (goodIn_of _ (by decide +kernel)) ggL_law_X13_forecastCount
set_option maxRecDepth 20000 in
theorem ggL_law_L_dayOf : GoodIn wsL_law wsL_dayOf := goodIn_ca (goodIn_ca (goodIn_r _ [872, 153, 873, 874, 875, 2, 876, 17, 797, 798, 799, 800, 163, 164, 801, 802, 803, 56, 804, 77, 877, 846, 847, 848, 75, 809, 1300, 1301, 1302, 1303, 1304, 1305, 1306, 1307, 1308, 1309, 1310, 1335, 1336, 1337, 1338, 1362, 1363, 1364, 1365, 1366, 1367] (by decide +kernel) (by decide +kernel)) (goodIn_sub (fun _ h => List.mem_append_left _ (List.mem_append_left _ (List.mem_append_left _ (List.mem_append_left _ (List.mem_append_left _ (List.mem_append_left _ (List.mem_append_right _ h))))))) (by decide +kernel))) (goodIn_sub (fun _ h => List.mem_append_left _ (List.mem_append_left _ (List.mem_append_left _ (List.mem_append_left _ (List.mem_append_right _ h))))) (by decide +kernel))
set_option maxRecDepth 20000 in
theorem gL_law_L_dayOf : GoodIn wsL_law (va_wsS RL 249 yL_dayOf wsL_dayOf) := goodIn_app (goodIn_of _ (by decide +kernel)) ggL_law_L_dayOf
set_option maxRecDepth 20000 in
theorem ggL_law_X13_dayOf : GoodIn wsL_law wsX13_dayOf := goodIn_ca (goodIn_r _ [881, 814, 815, 816, 5, 817, 134, 213, 214, 215, 216, 217, 218, 219, 220, 858, 859, 860, 861, 1311, 1312, 1313, 1314, 1315, 1316, 1317, 1318, 1319, 1320, 1321, 1322, 1323, 1324, 1325, 1326, 1327, 1328, 1329, 1330, 1331, 1332, 1333, 1334] (by decide +kernel) (by decide +kernel)) (goodIn_sub (fun _ h => List.mem_append_left _ (List.mem_append_left _ (List.mem_append_left _ (List.mem_append_left _ (List.mem_append_left _ (List.mem_append_left _ (List.mem_append_right _ h))))))) (by decide +kernel))
set_option maxRecDepth 20000 in
theorem gL_law_X13_dayOf : GoodIn wsL_law (wsV RL 251 RX13 yX13_dayOf wsX13_dayOf) := goodIn_app (goodIn_of _ (by decide +kernel)) ggL_law_X13_dayOf
set_option maxRecDepth 20000 in
theorem ggL_law_L_weatherOf : GoodIn wsL_law wsL_weatherOf := goodIn_ca (goodIn_ca (goodIn_r _ [884, 153, 885, 886, 887, 2, 888, 17, 797, 798, 799, 800, 163, 164, 801, 802, 803, 56, 804, 77, 889, 850, 851, 852, 76, 809, 1300, 1301, 1302, 1303, 1304, 1305, 1306, 1307, 1308, 1309, 1310, 1335, 1336, 1337, 1338, 1362, 1363, 1364, 1365, 1366, 1367] (by decide +kernel) (by decide +kernel)) (goodIn_sub (fun _ h => List.mem_append_left _ (List.mem_append_left _ (List.mem_append_left _ (List.mem_append_left _ (List.mem_append_left _ (List.mem_append_left _ (List.mem_append_right _ h))))))) (by decide +kernel))) (goodIn_sub (fun _ h => List.mem_append_left _ (List.mem_append_left _ (List.mem_append_left _ (List.mem_append_left _ (List.mem_append_right _ h))))) (by decide +kernel))
set_option maxRecDepth 20000 in
theorem gL_law_L_weatherOf : GoodIn wsL_law (va_wsS RL 252 yL_weatherOf wsL_weatherOf) := goodIn_app (goodIn_of _ (by decide +kernel)) ggL_law_L_weatherOf
set_option maxRecDepth 20000 in
theorem ggL_law_X13_weatherOf : GoodIn wsL_law wsX13_weatherOf := goodIn_ca (goodIn_r _ [893, 814, 815, 816, 5, 817, 134, 213, 214, 215, 216, 217, 218, 219, 220, 858, 859, 860, 861, 1311, 1312, 1313, 1314, 1315, 1316, 1317, 1318, 1319, 1320, 1321, 1322, 1323, 1324, 1325, 1326, 1327, 1328, 1329, 1330, 1331, 1332, 1333, 1334] (by decide +kernel) (by decide +kernel)) (goodIn_sub (fun _ h => List.mem_append_left _ (List.mem_append_left _ (List.mem_append_left _ (List.mem_append_left _ (List.mem_append_left _ (List.mem_append_left _ (List.mem_append_right _ h))))))) (by decide +kernel))
set_option maxRecDepth 20000 in
theorem gL_law_X13_weatherOf : GoodIn wsL_law (wsV RL 254 RX13 yX13_weatherOf wsX13_weatherOf) := goodIn_app (goodIn_of _ (by decide +kernel)) ggL_law_X13_weatherOf
set_option maxRecDepth 20000 in
theorem ggL_law_X12_scoredCount : GoodIn wsL_law wsX12_scoredCount := goodIn_r _ [897, 17, 1300, 1301, 1302, 1303, 1304, 1305, 1306, 1307, 1308, 1309, 1310, 1335, 1336, 1337, 1338, 1362, 1363, 1364, 1365, 1366, 1367] (by decide +kernel) (by decide +kernel)
set_option maxRecDepth 20000 in
theorem gL_law_X12_scoredCount : GoodIn wsL_law (wsV RL 255 RX12 yX12_scoredCount wsX12_scoredCount) := goodIn_app (goodIn_of _ (by decide +kernel)) ggL_law_X12_scoredCount
set_option maxRecDepth 20000 in
theorem ggL_law_X13_scoredCount : GoodIn wsL_law wsX13_scoredCount := goodIn_ca (goodIn_r _ [901, 220, 134, 1311, 1312, 1313, 1314, 1315, 1316, 1317, 1318, 1319, 1320, 1321, 1322, 1323, 1324, 1325, 1326, 1327, 1328, 1329, 1330, 1331, 1332, 1333, 1334] (by decide +kernel) (by decide +kernel)) (goodIn_sub (fun _ h => List.mem_append_left _ (List.mem_append_left _ (List.mem_append_left _ (List.mem_append_left _ (List.mem_append_left _ (List.mem_append_left _ (List.mem_append_right _ h))))))) (by decide +kernel))
set_option maxRecDepth 20000 in
theorem gL_law_X13_scoredCount : GoodIn wsL_law (wsV RL 258 RX13 yX13_scoredCount wsX13_scoredCount) := goodIn_app (goodIn_of _ (by decide +kernel)) ggL_law_X13_scoredCount
set_option maxRecDepth 20000 in
theorem ggL_law_X12_totalError : GoodIn wsL_law wsX12_totalError := goodIn_r _ [905, 17, 1300, 1301, 1302, 1303, 1304, 1305, 1306, 1307, 1308, 1309, 1310, 1335, 1336, 1337, 1338, 1362, 1363, 1364, 1365, 1366, 1367] (by decide +kernel) (by decide +kernel)
set_option maxRecDepth 20000 in
theorem gL_law_X12_totalError : GoodIn wsL_law (wsV RL 259 RX12 yX12_totalError wsX12_totalError) := goodIn_app (goodIn_of _ (by decide +kernel)) ggL_law_X12_totalError
set_option maxRecDepth 20000 in
theorem ggL_law_X13_totalError : GoodIn wsL_law wsX13_totalError := goodIn_ca (goodIn_r _ [909, 220, 134, 1311, 1312, 1313, 1314, 1315, 1316, 1317, 1318, 1319, 1320, 1321, 1322, 1323, 1324, 1325, 1326, 1327, 1328, 1329, 1330, 1331, 1332, 1333, 1334] (by decide +kernel) (by decide +kernel)) (goodIn_sub (fun _ h => List.mem_append_left _ (List.mem_append_left _ (List.mem_append_left _ (List.mem_append_left _ (List.mem_append_left _ (List.mem_append_left _ (List.mem_append_right _ h))))))) (by decide +kernel))
set_option maxRecDepth 20000 in
theorem gL_law_X13_totalError : GoodIn wsL_law (wsV RL 262 RX13 yX13_totalError wsX13_totalError) := goodIn_app (goodIn_of _ (by decide +kernel)) ggL_law_X13_totalError
set_option maxRecDepth 20000 in
theorem ggL_law_L_meanError : GoodIn wsL_law wsL_meanError := goodIn_ca (goodIn_ca (goodIn_r _ [912, 913, 914, 915, 916, 2, 917, 17, 918, 919, 920, 921, 922, 923, 1300, 1301, 1302, 1303, 1304, 1305, 1306, 1307, 1308, 1309, 1310, 1335, 1336, 1337, 1338, 1362, 1363, 1364, 1365, 1366, 1367] (by decide +kernel) (by decide +kernel)) (goodIn_sub (fun _ h => List.mem_append_left _ (List.mem_append_left _ (List.mem_append_left _ (List.mem_append_left _ (List.mem_append_left _ (List.mem_append_left _ (List.mem_append_right _ h))))))) (by decide +kernel))) (goodIn_sub (fun _ h => List.mem_append_right _ h) (by decide +kernel))
set_option maxRecDepth 20000 in
theorem gL_law_L_meanError : GoodIn wsL_law (va_wsS RL 263 yL_meanError wsL_meanError) := goodIn_app (goodIn_of _ (by decide +kernel)) ggL_law_L_meanError

