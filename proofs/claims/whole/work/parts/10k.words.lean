set_option maxRecDepth 20000 in
theorem ggL_law_X12_picture_0 : GoodIn wsL_law [.fieldLink RX12 338 "TwoTierStoreModel" "pictureMany" "I", .fieldLink RX12 7 "TwoTierStoreModel" "s" "[I", .fieldLink RX12 63 "TwoTierStoreModel" "picture" "[B", .methodLink RX12 196 yX12_bitOf, .static yX12_bitOf, .initialized RX12, .code yX12_bitOf cX12_bitOf 2 (some .boolean)] := goodIn_r _ [1156, 142, 161, 488, 489, 5, 490] (by decide +kernel) (by decide +kernel)
set_option maxRecDepth 20000 in
theorem ggL_law_X12_picture_c : GoodIn wsL_law [.code yX12_picture cX12_picture 3 (some .int)] := goodIn_r _ [1155] (by decide +kernel) (by decide +kernel)
theorem ggL_law_X12_picture : GoodIn wsL_law wsX12_picture := goodIn_app (a := [.code yX12_picture cX12_picture 3 (some .int)]) ggL_law_X12_picture_c (goodIn_app ggL_law_X12_picture_0 gc_wsX120)
set_option maxRecDepth 20000 in
theorem gL_law_X12_picture : GoodIn wsL_law (wsV RL 126 RX12 yX12_picture wsX12_picture) := goodIn_app (goodIn_of _ (by decide +kernel)) ggL_law_X12_picture
set_option maxRecDepth 20000 in
theorem ggL_law_X11_byteAt_0 : GoodIn wsL_law [.fieldLink RX11 215 "TwoTierStore" "drawingLength" "I", .fieldLink RX11 84 "TwoTierStore" "drawing" "[I"] := goodIn_r _ [1147, 52] (by decide +kernel) (by decide +kernel)
set_option maxRecDepth 20000 in
theorem ggL_law_X11_byteAt_c : GoodIn wsL_law [.code yX11_byteAt cX11_byteAt 2 (some .int)] := goodIn_r _ [1160] (by decide +kernel) (by decide +kernel)
theorem ggL_law_X11_byteAt : GoodIn wsL_law wsX11_byteAt := goodIn_app (a := [.code yX11_byteAt cX11_byteAt 2 (some .int)]) ggL_law_X11_byteAt_c (goodIn_app ggL_law_X11_byteAt_0 gc_wsX110)
set_option maxRecDepth 20000 in
theorem gL_law_X11_byteAt : GoodIn wsL_law (wsV RL 127 RX11 yX11_byteAt wsX11_byteAt) := goodIn_app (goodIn_of _ (by decide +kernel)) ggL_law_X11_byteAt
set_option maxRecDepth 20000 in
theorem ggL_law_X12_byteAt_0 : GoodIn wsL_law [.fieldLink RX12 338 "TwoTierStoreModel" "pictureMany" "I", .fieldLink RX12 63 "TwoTierStoreModel" "picture" "[B", .methodLink RX12 83 yX12_isIn, .static yX12_isIn, .initialized RX12, .code yX12_isIn cX12_isIn 3 (some .boolean)] := goodIn_r _ [1156, 161, 403, 404, 5, 405] (by decide +kernel) (by decide +kernel)
set_option maxRecDepth 20000 in
theorem ggL_law_X12_byteAt_c : GoodIn wsL_law [.code yX12_byteAt cX12_byteAt 2 (some .int)] := goodIn_r _ [1164] (by decide +kernel) (by decide +kernel)
theorem ggL_law_X12_byteAt : GoodIn wsL_law wsX12_byteAt := goodIn_app (a := [.code yX12_byteAt cX12_byteAt 2 (some .int)]) ggL_law_X12_byteAt_c (goodIn_app ggL_law_X12_byteAt_0 gc_wsX120)
set_option maxRecDepth 20000 in
theorem gL_law_X12_byteAt : GoodIn wsL_law (wsV RL 130 RX12 yX12_byteAt wsX12_byteAt) := goodIn_app (goodIn_of _ (by decide +kernel)) ggL_law_X12_byteAt
set_option maxRecDepth 20000 in
theorem ggL_law_X11_ratio_0 : GoodIn wsL_law wsX11_ratio_r1 := goodIn_r _ [23, 472, 473, 769, 1169, 894, 895, 2, 896, 897, 898, 899, 900, 44, 466, 467, 901, 902, 903, 43, 904, 127, 905, 906] (by decide +kernel) (by decide +kernel)
set_option maxRecDepth 20000 in
theorem ggL_law_X11_ratio_1 : GoodIn wsL_law wsX11_ratio_r2 := goodIn_r _ [907, 908, 909, 910, 911, 912, 913, 914, 915, 916, 917, 918, 919, 124, 920, 125, 921, 126, 131, 922, 923, 924, 18, 925] (by decide +kernel) (by decide +kernel)
set_option maxRecDepth 20000 in
theorem ggL_law_X11_ratio_2 : GoodIn wsL_law wsX11_ratio_r3 := goodIn_r _ [323, 926, 927, 928, 929, 130, 930, 931, 932, 933, 934, 935, 936, 937, 938, 939, 940, 941, 942, 943, 944, 945, 946, 947] (by decide +kernel) (by decide +kernel)
set_option maxRecDepth 20000 in
theorem ggL_law_X11_ratio_3 : GoodIn wsL_law wsX11_ratio_r4 := goodIn_r _ [948, 949, 950, 951, 952, 953, 505, 506, 507, 508, 509] (by decide +kernel) (by decide +kernel)
set_option maxRecDepth 20000 in
theorem ggL_law_X11_ratio_c : GoodIn wsL_law [.code yX11_ratio cX11_ratio 4 (some .int)] := goodIn_r _ [1168] (by decide +kernel) (by decide +kernel)
theorem ggL_law_X11_ratio : GoodIn wsL_law wsX11_ratio := goodIn_app (a := [.code yX11_ratio cX11_ratio 4 (some .int)]) ggL_law_X11_ratio_c (goodIn_app (goodIn_app (goodIn_app (goodIn_app (goodIn_app (goodIn_app (goodIn_app ggL_law_X11_ratio_0 (goodIn_app ggL_law_X11_ratio_1 (goodIn_app ggL_law_X11_ratio_2 ggL_law_X11_ratio_3))) gc_wsX110) gc_wsX90) gc_wsX40) gc_wsX80) gc_wsX50) gc_wsX100)
set_option maxRecDepth 20000 in
theorem gL_law_X11_ratio : GoodIn wsL_law (wsV RL 131 RX11 yX11_ratio wsX11_ratio) := goodIn_app (goodIn_of _ (by decide +kernel)) ggL_law_X11_ratio
set_option maxRecDepth 20000 in
theorem ggL_law_X12_ratio_0 : GoodIn wsL_law wsX12_ratio_r1 := goodIn_r _ [142, 1174, 955, 956, 5, 957, 958, 959, 960, 961, 962, 963, 964, 158, 156, 965, 966, 967, 968, 969, 488, 489, 490, 970] (by decide +kernel) (by decide +kernel)
set_option maxRecDepth 20000 in
theorem ggL_law_X12_ratio_1 : GoodIn wsL_law wsX12_ratio_r2 := goodIn_r _ [971, 972, 973, 974, 975, 976, 977, 978, 979, 980, 981, 982, 983, 984, 985, 986, 987, 988, 989, 679, 680, 681, 682, 683] (by decide +kernel) (by decide +kernel)
set_option maxRecDepth 20000 in
theorem ggL_law_X12_ratio_2 : GoodIn wsL_law wsX12_ratio_r3 := goodIn_r _ [684, 685, 677, 686, 687, 688, 689] (by decide +kernel) (by decide +kernel)
set_option maxRecDepth 20000 in
theorem ggL_law_X12_ratio_c : GoodIn wsL_law [.code yX12_ratio cX12_ratio 4 (some .int)] := goodIn_r _ [1173] (by decide +kernel) (by decide +kernel)
theorem ggL_law_X12_ratio : GoodIn wsL_law wsX12_ratio := goodIn_app (a := [.code yX12_ratio cX12_ratio 4 (some .int)]) ggL_law_X12_ratio_c (goodIn_app (goodIn_app ggL_law_X12_ratio_0 (goodIn_app ggL_law_X12_ratio_1 ggL_law_X12_ratio_2)) gc_wsX120)
set_option maxRecDepth 20000 in
theorem gL_law_X12_ratio : GoodIn wsL_law (wsV RL 134 RX12 yX12_ratio wsX12_ratio) := goodIn_app (goodIn_of _ (by decide +kernel)) ggL_law_X12_ratio
set_option maxRecDepth 20000 in
theorem ggL_law_X11_rides_0 : GoodIn wsL_law wsX11_rides_r1 := goodIn_r _ [49, 23, 469, 466, 1179, 1180, 1181, 1182, 2, 1183, 203, 470, 495, 467, 1184, 1185, 1186, 48, 1187, 1188, 1189, 1190, 1191, 1192] (by decide +kernel) (by decide +kernel)
set_option maxRecDepth 20000 in
theorem ggL_law_X11_rides_1 : GoodIn wsL_law wsX11_rides_r2 := goodIn_r _ [136, 1193, 137, 1194, 135, 1195, 923, 924, 18, 925, 323, 1196, 1197, 1198, 1199, 1200, 1201, 1202, 1203, 1204, 792, 793, 794, 795] (by decide +kernel) (by decide +kernel)
set_option maxRecDepth 20000 in
theorem ggL_law_X11_rides_2 : GoodIn wsL_law wsX11_rides_r3 := goodIn_r _ [796, 797, 1205, 1206, 1207, 1208, 1209, 1210, 1211, 1212] (by decide +kernel) (by decide +kernel)
set_option maxRecDepth 20000 in
theorem ggL_law_X11_rides_c : GoodIn wsL_law [.code yX11_rides cX11_rides 3 (some .int)] := goodIn_r _ [1178] (by decide +kernel) (by decide +kernel)
theorem ggL_law_X11_rides : GoodIn wsL_law wsX11_rides := goodIn_app (a := [.code yX11_rides cX11_rides 3 (some .int)]) ggL_law_X11_rides_c (goodIn_app (goodIn_app (goodIn_app (goodIn_app (goodIn_app (goodIn_app ggL_law_X11_rides_0 (goodIn_app ggL_law_X11_rides_1 ggL_law_X11_rides_2)) gc_wsX110) gc_wsX90) gc_wsX70) gc_wsX100) gc_wsX80)
set_option maxRecDepth 20000 in
theorem gL_law_X11_rides : GoodIn wsL_law (wsV RL 135 RX11 yX11_rides wsX11_rides) := goodIn_app (goodIn_of _ (by decide +kernel)) ggL_law_X11_rides
set_option maxRecDepth 20000 in
theorem ggL_law_X12_rides_0 : GoodIn wsL_law wsX12_rides_r1 := goodIn_r _ [163, 1217, 1218, 1219, 1220, 5, 1221, 142, 403, 404, 405, 974, 975, 976, 977, 488, 489, 490, 1222, 1223, 1224, 1225, 1226, 1227] (by decide +kernel) (by decide +kernel)
set_option maxRecDepth 20000 in
theorem ggL_law_X12_rides_1 : GoodIn wsL_law wsX12_rides_r2 := goodIn_r _ [162, 1228, 1229, 1230, 1231, 965, 1232, 1233, 1234, 1235] (by decide +kernel) (by decide +kernel)
set_option maxRecDepth 20000 in
theorem ggL_law_X12_rides_c : GoodIn wsL_law [.code yX12_rides cX12_rides 3 (some .int)] := goodIn_r _ [1216] (by decide +kernel) (by decide +kernel)
theorem ggL_law_X12_rides : GoodIn wsL_law wsX12_rides := goodIn_app (a := [.code yX12_rides cX12_rides 3 (some .int)]) ggL_law_X12_rides_c (goodIn_app (goodIn_app ggL_law_X12_rides_0 ggL_law_X12_rides_1) gc_wsX120)
set_option maxRecDepth 20000 in
theorem gL_law_X12_rides : GoodIn wsL_law (wsV RL 138 RX12 yX12_rides wsX12_rides) := goodIn_app (goodIn_of _ (by decide +kernel)) ggL_law_X12_rides
set_option maxRecDepth 20000 in
theorem ggL_law_X11_ride_0 : GoodIn wsL_law [.fieldLink RX11 77 "TwoTierStore" "toldRides" "LTwoTierStore$Rides;", .fieldLink RX11 273 "TwoTierStore$Rides" "count" "I", .fieldLink RX11 274 "TwoTierStore$Rides" "going" "[I"] := goodIn_r _ [49, 1179, 1240] (by decide +kernel) (by decide +kernel)
set_option maxRecDepth 20000 in
theorem ggL_law_X11_ride_c : GoodIn wsL_law [.code yX11_ride cX11_ride 2 (some .int)] := goodIn_r _ [1239] (by decide +kernel) (by decide +kernel)
theorem ggL_law_X11_ride : GoodIn wsL_law wsX11_ride := goodIn_app (a := [.code yX11_ride cX11_ride 2 (some .int)]) ggL_law_X11_ride_c (goodIn_app (goodIn_app ggL_law_X11_ride_0 gc_wsX110) gc_wsX70)
set_option maxRecDepth 20000 in
theorem gL_law_X11_ride : GoodIn wsL_law (wsV RL 139 RX11 yX11_ride wsX11_ride) := goodIn_app (goodIn_of _ (by decide +kernel)) ggL_law_X11_ride
set_option maxRecDepth 20000 in
theorem ggL_law_X12_ride_0 : GoodIn wsL_law [.fieldLink RX12 363 "TwoTierStoreModel" "rideMany" "I", .fieldLink RX12 69 "TwoTierStoreModel" "rideSet" "[I", .methodLink RX12 83 yX12_isIn, .static yX12_isIn, .initialized RX12, .code yX12_isIn cX12_isIn 3 (some .boolean)] := goodIn_r _ [1217, 163, 403, 404, 5, 405] (by decide +kernel) (by decide +kernel)
set_option maxRecDepth 20000 in
theorem ggL_law_X12_ride_c : GoodIn wsL_law [.code yX12_ride cX12_ride 2 (some .int)] := goodIn_r _ [1244] (by decide +kernel) (by decide +kernel)
theorem ggL_law_X12_ride : GoodIn wsL_law wsX12_ride := goodIn_app (a := [.code yX12_ride cX12_ride 2 (some .int)]) ggL_law_X12_ride_c (goodIn_app ggL_law_X12_ride_0 gc_wsX120)
set_option maxRecDepth 20000 in
theorem gL_law_X12_ride : GoodIn wsL_law (wsV RL 142 RX12 yX12_ride wsX12_ride) := goodIn_app (goodIn_of _ (by decide +kernel)) ggL_law_X12_ride
set_option maxRecDepth 20000 in
theorem ggL_law_X11_shift_0 : GoodIn wsL_law wsX11_shift_r1 := goodIn_r _ [23, 466, 470, 50, 469, 27, 32, 1179, 1240, 1180, 1181, 1182, 2, 1183, 203, 495, 467, 1184, 1185, 1186, 48, 1187, 1188, 1189] (by decide +kernel) (by decide +kernel)
set_option maxRecDepth 20000 in
theorem ggL_law_X11_shift_1 : GoodIn wsL_law wsX11_shift_r2 := goodIn_r _ [1190, 1191, 1192, 136, 1193, 137, 1194, 135, 1195, 923, 924, 18, 925, 323, 1196, 1197, 1198, 1199, 1200, 1201, 1202, 1203, 1204, 792] (by decide +kernel) (by decide +kernel)
set_option maxRecDepth 20000 in
theorem ggL_law_X11_shift_2 : GoodIn wsL_law wsX11_shift_r3 := goodIn_r _ [793, 794, 795, 796, 797, 1205, 1206, 1207, 1208, 1209, 1210, 1211, 1212, 527, 528, 529, 26, 530, 360, 531, 109, 108, 21, 22] (by decide +kernel) (by decide +kernel)
set_option maxRecDepth 20000 in
theorem ggL_law_X11_shift_3 : GoodIn wsL_law wsX11_shift_r4 := goodIn_r _ [532, 533, 534, 535, 536, 68, 69, 70, 10, 11, 71, 17, 72, 73, 38, 39, 74, 75, 76, 77, 78, 79, 80, 81] (by decide +kernel) (by decide +kernel)
set_option maxRecDepth 20000 in
theorem ggL_law_X11_shift_4 : GoodIn wsL_law wsX11_shift_r5 := goodIn_r _ [82, 60, 61, 62, 51, 63, 64, 65, 66, 83, 84, 85, 86, 87, 88, 89, 90, 91, 92, 93, 94, 95, 96, 97] (by decide +kernel) (by decide +kernel)
set_option maxRecDepth 20000 in
theorem ggL_law_X11_shift_5 : GoodIn wsL_law wsX11_shift_r6 := goodIn_r _ [98, 99, 100, 101, 102, 103, 104, 537, 538, 539, 540, 333, 334, 335, 336, 337, 338, 339, 340, 341, 342, 343, 541, 542] (by decide +kernel) (by decide +kernel)
set_option maxRecDepth 20000 in
theorem ggL_law_X11_shift_6 : GoodIn wsL_law wsX11_shift_r7 := goodIn_r _ [543, 544, 348, 349, 545, 546, 547, 548, 549, 526, 550, 551, 552, 553, 554, 354, 555, 556, 355, 557, 558, 559, 560, 561] (by decide +kernel) (by decide +kernel)
set_option maxRecDepth 20000 in
theorem ggL_law_X11_shift_7 : GoodIn wsL_law wsX11_shift_r8 := goodIn_r _ [562, 563, 31, 564, 565, 1249, 1250, 1251, 1252, 36, 828, 829, 830, 831, 570, 832, 833, 584, 585, 586, 834, 611, 612, 613] (by decide +kernel) (by decide +kernel)
set_option maxRecDepth 20000 in
theorem ggL_law_X11_shift_8 : GoodIn wsL_law wsX11_shift_r9 := goodIn_r _ [575, 591, 592, 593, 35, 594, 595, 117, 118, 119, 835, 619, 620, 621, 577, 587, 588, 589, 590, 629, 630, 631, 632, 633] (by decide +kernel) (by decide +kernel)
set_option maxRecDepth 20000 in
theorem ggL_law_X11_shift_9 : GoodIn wsL_law wsX11_shift_r10 := goodIn_r _ [634, 635, 636, 637, 638, 639, 640, 113, 641, 642, 643, 644, 645, 646, 647, 648, 791] (by decide +kernel) (by decide +kernel)
set_option maxRecDepth 20000 in
theorem ggL_law_X11_shift_c : GoodIn wsL_law [.code yX11_shift cX11_shift 5 (some .int)] := goodIn_r _ [1248] (by decide +kernel) (by decide +kernel)
theorem ggL_law_X11_shift : GoodIn wsL_law wsX11_shift := goodIn_app (a := [.code yX11_shift cX11_shift 5 (some .int)]) ggL_law_X11_shift_c (goodIn_app (goodIn_app (goodIn_app (goodIn_app (goodIn_app (goodIn_app (goodIn_app (goodIn_app (goodIn_app (goodIn_app (goodIn_app ggL_law_X11_shift_0 (goodIn_app ggL_law_X11_shift_1 (goodIn_app ggL_law_X11_shift_2 (goodIn_app ggL_law_X11_shift_3 (goodIn_app ggL_law_X11_shift_4 (goodIn_app ggL_law_X11_shift_5 (goodIn_app ggL_law_X11_shift_6 (goodIn_app ggL_law_X11_shift_7 (goodIn_app ggL_law_X11_shift_8 ggL_law_X11_shift_9))))))))) gc_wsX110) gc_wsX90) gc_wsX80) gc_wsX70) gc_wsX100) gc_wsX30) gc_wsX40) gc_wsX00) gc_wsX20) gc_wsX10)
set_option maxRecDepth 20000 in
theorem gL_law_X11_shift : GoodIn wsL_law (wsV RL 143 RX11 yX11_shift wsX11_shift) := goodIn_app (goodIn_of _ (by decide +kernel)) ggL_law_X11_shift
set_option maxRecDepth 20000 in
theorem ggL_law_X12_shift_0 : GoodIn wsL_law wsX12_shift_r1 := goodIn_r _ [142, 164, 1226, 1218, 1219, 1220, 5, 1221, 403, 404, 405, 974, 975, 976, 977, 488, 489, 490, 1222, 1223, 1224, 1225, 1227, 162] (by decide +kernel) (by decide +kernel)
set_option maxRecDepth 20000 in
theorem ggL_law_X12_shift_1 : GoodIn wsL_law wsX12_shift_r2 := goodIn_r _ [1228, 1229, 1230, 1231, 965, 1232, 1233, 1234, 1235, 807, 808, 809, 653, 654, 655, 656, 657, 658, 659, 660, 661, 370, 144, 450] (by decide +kernel) (by decide +kernel)
set_option maxRecDepth 20000 in
theorem ggL_law_X12_shift_2 : GoodIn wsL_law wsX12_shift_r3 := goodIn_r _ [451, 452, 709, 710, 711, 712, 690, 691, 692, 693, 694, 695, 696, 713, 714, 715, 716, 717, 151, 718, 719, 720, 721] (by decide +kernel) (by decide +kernel)
set_option maxRecDepth 20000 in
theorem ggL_law_X12_shift_c : GoodIn wsL_law [.code yX12_shift cX12_shift 8 (some .int)] := goodIn_r _ [1256] (by decide +kernel) (by decide +kernel)
theorem ggL_law_X12_shift : GoodIn wsL_law wsX12_shift := goodIn_app (a := [.code yX12_shift cX12_shift 8 (some .int)]) ggL_law_X12_shift_c (goodIn_app (goodIn_app ggL_law_X12_shift_0 (goodIn_app ggL_law_X12_shift_1 ggL_law_X12_shift_2)) gc_wsX120)
set_option maxRecDepth 20000 in
theorem gL_law_X12_shift : GoodIn wsL_law (wsV RL 146 RX12 yX12_shift wsX12_shift) := goodIn_app (goodIn_of _ (by decide +kernel)) ggL_law_X12_shift
set_option maxRecDepth 20000 in
theorem ggL_law_X11_drawn_0 : GoodIn wsL_law wsX11_drawn_r1 := goodIn_r _ [23, 469, 203, 27, 32, 1261, 472, 36, 527, 528, 529, 26, 530, 360, 531, 109, 108, 21, 22, 532, 533, 534, 535, 536] (by decide +kernel) (by decide +kernel)
set_option maxRecDepth 20000 in
theorem ggL_law_X11_drawn_1 : GoodIn wsL_law wsX11_drawn_r2 := goodIn_r _ [68, 69, 70, 10, 11, 71, 17, 18, 72, 73, 38, 39, 74, 75, 76, 77, 78, 79, 80, 81, 82, 60, 61, 62] (by decide +kernel) (by decide +kernel)
set_option maxRecDepth 20000 in
theorem ggL_law_X11_drawn_2 : GoodIn wsL_law wsX11_drawn_r3 := goodIn_r _ [51, 63, 64, 65, 66, 83, 84, 85, 86, 87, 88, 89, 90, 91, 92, 93, 94, 95, 96, 97, 98, 99, 100, 101] (by decide +kernel) (by decide +kernel)
set_option maxRecDepth 20000 in
theorem ggL_law_X11_drawn_3 : GoodIn wsL_law wsX11_drawn_r4 := goodIn_r _ [102, 103, 104, 537, 538, 539, 540, 333, 334, 335, 336, 337, 338, 339, 323, 340, 341, 342, 343, 541, 542, 543, 544, 348] (by decide +kernel) (by decide +kernel)
set_option maxRecDepth 20000 in
theorem ggL_law_X11_drawn_4 : GoodIn wsL_law wsX11_drawn_r5 := goodIn_r _ [349, 545, 546, 547, 548, 549, 526, 550, 551, 552, 553, 554, 354, 555, 556, 355, 557, 558, 559, 560, 561, 562, 563, 31] (by decide +kernel) (by decide +kernel)
set_option maxRecDepth 20000 in
theorem ggL_law_X11_drawn_5 : GoodIn wsL_law wsX11_drawn_r6 := goodIn_r _ [564, 565, 522, 523, 524, 525, 1262, 1263, 1264, 2, 1265, 1266, 1267, 1268, 1269, 1270, 566, 567, 568, 569, 570, 571, 572, 573] (by decide +kernel) (by decide +kernel)
set_option maxRecDepth 20000 in
theorem ggL_law_X11_drawn_6 : GoodIn wsL_law wsX11_drawn_r7 := goodIn_r _ [574, 575, 576, 577, 578, 579, 580, 581, 582, 583, 584, 585, 586, 587, 588, 589, 590, 591, 592, 593, 35, 594, 595, 117] (by decide +kernel) (by decide +kernel)
set_option maxRecDepth 20000 in
theorem ggL_law_X11_drawn_7 : GoodIn wsL_law wsX11_drawn_r8 := goodIn_r _ [118, 119, 596, 597, 598, 599, 600, 601, 602, 603, 604, 477, 478, 479, 605, 606, 607, 608, 609, 610, 611, 612, 613, 614] (by decide +kernel) (by decide +kernel)
set_option maxRecDepth 20000 in
theorem ggL_law_X11_drawn_8 : GoodIn wsL_law wsX11_drawn_r9 := goodIn_r _ [615, 616, 617, 618, 619, 620, 621, 622, 623, 624, 625, 626, 627, 628, 629, 630, 631, 632, 633, 634, 635, 636, 637, 638] (by decide +kernel) (by decide +kernel)
set_option maxRecDepth 20000 in
theorem ggL_law_X11_drawn_9 : GoodIn wsL_law wsX11_drawn_r10 := goodIn_r _ [639, 640, 113, 641, 642, 643, 644, 645, 646, 647, 648] (by decide +kernel) (by decide +kernel)
set_option maxRecDepth 20000 in
theorem ggL_law_X11_drawn_c : GoodIn wsL_law [.code yX11_drawn cX11_drawn 5 (some .int)] := goodIn_r _ [1260] (by decide +kernel) (by decide +kernel)
theorem ggL_law_X11_drawn : GoodIn wsL_law wsX11_drawn := goodIn_app (a := [.code yX11_drawn cX11_drawn 5 (some .int)]) ggL_law_X11_drawn_c (goodIn_app (goodIn_app (goodIn_app (goodIn_app (goodIn_app (goodIn_app (goodIn_app (goodIn_app (goodIn_app (goodIn_app ggL_law_X11_drawn_0 (goodIn_app ggL_law_X11_drawn_1 (goodIn_app ggL_law_X11_drawn_2 (goodIn_app ggL_law_X11_drawn_3 (goodIn_app ggL_law_X11_drawn_4 (goodIn_app ggL_law_X11_drawn_5 (goodIn_app ggL_law_X11_drawn_6 (goodIn_app ggL_law_X11_drawn_7 (goodIn_app ggL_law_X11_drawn_8 ggL_law_X11_drawn_9))))))))) gc_wsX110) gc_wsX90) gc_wsX100) gc_wsX30) gc_wsX80) gc_wsX40) gc_wsX00) gc_wsX20) gc_wsX10)
set_option maxRecDepth 20000 in
theorem gL_law_X11_drawn : GoodIn wsL_law (wsV RL 147 RX11 yX11_drawn wsX11_drawn) := goodIn_app (goodIn_of _ (by decide +kernel)) ggL_law_X11_drawn
set_option maxRecDepth 20000 in
theorem ggL_law_X12_drawn_0 : GoodIn wsL_law wsX12_drawn_r1 := goodIn_r _ [142, 1275, 403, 404, 5, 405, 653, 654, 655, 656, 657, 658, 659, 660, 661, 370, 144, 450, 451, 452, 1276, 1277, 1278, 1279] (by decide +kernel) (by decide +kernel)
set_option maxRecDepth 20000 in
theorem ggL_law_X12_drawn_1 : GoodIn wsL_law wsX12_drawn_r2 := goodIn_r _ [1280, 662, 663, 664, 665, 666, 667, 668, 669, 670, 671, 672, 673, 674, 675, 676, 677, 678, 679, 680, 681, 682, 683, 684] (by decide +kernel) (by decide +kernel)
set_option maxRecDepth 20000 in
theorem ggL_law_X12_drawn_2 : GoodIn wsL_law wsX12_drawn_r3 := goodIn_r _ [685, 686, 687, 688, 689, 488, 489, 490, 690, 691, 692, 693, 694, 695, 696, 697, 698, 699, 700, 701, 702, 703, 704, 484] (by decide +kernel) (by decide +kernel)
set_option maxRecDepth 20000 in
theorem ggL_law_X12_drawn_3 : GoodIn wsL_law wsX12_drawn_r4 := goodIn_r _ [485, 486, 487, 705, 706, 707, 708, 709, 710, 711, 712, 713, 714, 715, 716, 717, 151, 718, 719, 720, 721] (by decide +kernel) (by decide +kernel)
set_option maxRecDepth 20000 in
theorem ggL_law_X12_drawn_c : GoodIn wsL_law [.code yX12_drawn cX12_drawn 7 (some .int)] := goodIn_r _ [1274] (by decide +kernel) (by decide +kernel)
theorem ggL_law_X12_drawn : GoodIn wsL_law wsX12_drawn := goodIn_app (a := [.code yX12_drawn cX12_drawn 7 (some .int)]) ggL_law_X12_drawn_c (goodIn_app (goodIn_app ggL_law_X12_drawn_0 (goodIn_app ggL_law_X12_drawn_1 (goodIn_app ggL_law_X12_drawn_2 ggL_law_X12_drawn_3))) gc_wsX120)
set_option maxRecDepth 20000 in
theorem gL_law_X12_drawn : GoodIn wsL_law (wsV RL 150 RX12 yX12_drawn wsX12_drawn) := goodIn_app (goodIn_of _ (by decide +kernel)) ggL_law_X12_drawn
set_option maxRecDepth 20000 in
theorem ggL_law_X11_would_0 : GoodIn wsL_law wsX11_would_r1 := goodIn_r _ [23, 466, 467, 1120, 1121, 1122, 2, 1123, 40, 472, 473, 36, 1082, 469, 768, 798, 345, 346, 39, 347, 86, 87, 348, 349] (by decide +kernel) (by decide +kernel)
set_option maxRecDepth 20000 in
theorem ggL_law_X11_would_1 : GoodIn wsL_law wsX11_would_r2 := goodIn_r _ [88, 89, 91, 1084, 572, 573, 574, 575, 576, 577, 578, 579, 580, 581, 582, 583, 584, 585, 586, 587, 588, 589, 18, 590] (by decide +kernel) (by decide +kernel)
set_option maxRecDepth 20000 in
theorem ggL_law_X11_would_2 : GoodIn wsL_law wsX11_would_r3 := goodIn_r _ [63, 64, 591, 592, 593, 35, 594, 595, 117, 118, 119, 596, 597, 598, 599, 600, 601, 602, 603, 604, 477, 478, 479, 605] (by decide +kernel) (by decide +kernel)
set_option maxRecDepth 20000 in
theorem ggL_law_X11_would_3 : GoodIn wsL_law wsX11_would_r4 := goodIn_r _ [606, 607, 608, 609, 610, 611, 612, 613, 614, 615, 616, 617, 618, 619, 620, 621] (by decide +kernel) (by decide +kernel)
set_option maxRecDepth 20000 in
theorem ggL_law_X11_would_c : GoodIn wsL_law [.code yX11_would cX11_would 2 (some .int)] := goodIn_r _ [1284] (by decide +kernel) (by decide +kernel)
theorem ggL_law_X11_would : GoodIn wsL_law wsX11_would := goodIn_app (a := [.code yX11_would cX11_would 2 (some .int)]) ggL_law_X11_would_c (goodIn_app (goodIn_app (goodIn_app (goodIn_app (goodIn_app (goodIn_app (goodIn_app ggL_law_X11_would_0 (goodIn_app ggL_law_X11_would_1 (goodIn_app ggL_law_X11_would_2 ggL_law_X11_would_3))) gc_wsX110) gc_wsX90) gc_wsX80) gc_wsX40) gc_wsX10) gc_wsX100)
set_option maxRecDepth 20000 in
theorem gL_law_X11_would : GoodIn wsL_law (wsV RL 151 RX11 yX11_would wsX11_would) := goodIn_app (goodIn_of _ (by decide +kernel)) ggL_law_X11_would
set_option maxRecDepth 20000 in
theorem ggL_law_X12_would_0 : GoodIn wsL_law wsX12_would_r1 := goodIn_r _ [142, 403, 404, 5, 405, 1128, 1129, 1130, 1131, 1089, 1090, 1091, 1092, 159, 717, 1093, 657, 1094, 160, 151, 450, 451, 452, 803] (by decide +kernel) (by decide +kernel)
set_option maxRecDepth 20000 in
theorem ggL_law_X12_would_1 : GoodIn wsL_law wsX12_would_r2 := goodIn_r _ [804, 805, 806, 807, 808, 809, 666, 667, 668, 669, 670, 671, 672, 673, 674, 675, 676, 677, 678, 679, 680, 681, 682, 683] (by decide +kernel) (by decide +kernel)
set_option maxRecDepth 20000 in
theorem ggL_law_X12_would_2 : GoodIn wsL_law wsX12_would_r3 := goodIn_r _ [684, 685, 686, 687, 688, 689, 488, 489, 490, 690, 691, 692, 693, 694, 695, 696, 697, 698, 699, 700, 701, 702, 703, 704] (by decide +kernel) (by decide +kernel)
set_option maxRecDepth 20000 in
theorem ggL_law_X12_would_3 : GoodIn wsL_law wsX12_would_r4 := goodIn_r _ [484, 485, 486, 487, 705, 706, 707, 708, 709, 710, 711, 712, 713, 714, 715, 716, 718, 719, 720, 721, 1095, 1096, 1097, 1098] (by decide +kernel) (by decide +kernel)
set_option maxRecDepth 20000 in
theorem ggL_law_X12_would_c : GoodIn wsL_law [.code yX12_would cX12_would 2 (some .int)] := goodIn_r _ [1288] (by decide +kernel) (by decide +kernel)
theorem ggL_law_X12_would : GoodIn wsL_law wsX12_would := goodIn_app (a := [.code yX12_would cX12_would 2 (some .int)]) ggL_law_X12_would_c (goodIn_app (goodIn_app ggL_law_X12_would_0 (goodIn_app ggL_law_X12_would_1 (goodIn_app ggL_law_X12_would_2 ggL_law_X12_would_3))) gc_wsX120)
set_option maxRecDepth 20000 in
theorem gL_law_X12_would : GoodIn wsL_law (wsV RL 154 RX12 yX12_would wsX12_would) := goodIn_app (goodIn_of _ (by decide +kernel)) ggL_law_X12_would
set_option maxRecDepth 20000 in
theorem ggL_law_X11_undo_0 : GoodIn wsL_law wsX11_undo_r1 := goodIn_r _ [27, 23, 44, 1293, 1294, 1295, 1296, 26, 1297, 360, 109, 532, 533, 534, 535, 531, 537, 538, 539, 22, 540, 72, 74, 78] (by decide +kernel) (by decide +kernel)
set_option maxRecDepth 20000 in
theorem ggL_law_X11_undo_1 : GoodIn wsL_law wsX11_undo_r2 := goodIn_r _ [333, 334, 335, 80, 336, 337, 338, 18, 339, 323, 63, 340, 341, 342, 343, 64, 65, 66, 541, 542, 543, 39, 544, 86] (by decide +kernel) (by decide +kernel)
set_option maxRecDepth 20000 in
theorem ggL_law_X11_undo_2 : GoodIn wsL_law wsX11_undo_r3 := goodIn_r _ [87, 348, 349, 88, 545, 89, 91, 546, 547, 548, 77, 549, 526, 95, 550, 96, 97, 98, 551, 552, 553, 82, 554, 354] (by decide +kernel) (by decide +kernel)
set_option maxRecDepth 20000 in
theorem ggL_law_X11_undo_3 : GoodIn wsL_law wsX11_undo_r4 := goodIn_r _ [555, 556, 355, 557, 558, 559, 102, 560, 103, 104, 361, 362, 363, 43, 364, 127, 128] (by decide +kernel) (by decide +kernel)
set_option maxRecDepth 20000 in
theorem ggL_law_X11_undo_c : GoodIn wsL_law [.code yX11_undo cX11_undo 1 (some .int)] := goodIn_r _ [1292] (by decide +kernel) (by decide +kernel)
theorem ggL_law_X11_undo : GoodIn wsL_law wsX11_undo := goodIn_app (a := [.code yX11_undo cX11_undo 1 (some .int)]) ggL_law_X11_undo_c (goodIn_app (goodIn_app (goodIn_app (goodIn_app (goodIn_app (goodIn_app (goodIn_app (goodIn_app (goodIn_app ggL_law_X11_undo_0 (goodIn_app ggL_law_X11_undo_1 (goodIn_app ggL_law_X11_undo_2 ggL_law_X11_undo_3))) gc_wsX110) gc_wsX30) gc_wsX90) gc_wsX100) gc_wsX80) gc_wsX40) gc_wsX00) gc_wsX50)
set_option maxRecDepth 20000 in
theorem gL_law_X11_undo : GoodIn wsL_law (wsV RL 155 RX11 yX11_undo wsX11_undo) := goodIn_app (goodIn_of _ (by decide +kernel)) ggL_law_X11_undo
set_option maxRecDepth 20000 in
theorem ggL_law_X12_undo_0 : GoodIn wsL_law [.fieldLink RX12 181 "TwoTierStoreModel" "undoMany" "I", .fieldLink RX12 16 "TwoTierStoreModel" "undone" "[I", .fieldLink RX12 7 "TwoTierStoreModel" "s" "[I", .methodLink RX12 177 yX12_copies, .static yX12_copies, .initialized RX12, .code yX12_copies cX12_copies 5 none] := goodIn_r _ [370, 144, 142, 450, 451, 5, 452] (by decide +kernel) (by decide +kernel)
set_option maxRecDepth 20000 in
theorem ggL_law_X12_undo_c : GoodIn wsL_law [.code yX12_undo cX12_undo 1 (some .int)] := goodIn_r _ [1301] (by decide +kernel) (by decide +kernel)
theorem ggL_law_X12_undo : GoodIn wsL_law wsX12_undo := goodIn_app (a := [.code yX12_undo cX12_undo 1 (some .int)]) ggL_law_X12_undo_c (goodIn_app ggL_law_X12_undo_0 gc_wsX120)
set_option maxRecDepth 20000 in
theorem gL_law_X12_undo : GoodIn wsL_law (wsV RL 158 RX12 yX12_undo wsX12_undo) := goodIn_app (goodIn_of _ (by decide +kernel)) ggL_law_X12_undo
set_option maxRecDepth 20000 in
theorem ggL_law_X11_image_0 : GoodIn wsL_law wsX11_image_r1 := goodIn_r _ [28, 20, 21, 22, 23, 67, 68, 69, 70, 10, 11, 71, 17, 18, 72, 73, 38, 39, 74, 75, 76, 77, 78, 79] (by decide +kernel) (by decide +kernel)
set_option maxRecDepth 20000 in
theorem ggL_law_X11_image_1 : GoodIn wsL_law wsX11_image_r2 := goodIn_r _ [80, 81, 82, 60, 61, 62, 51, 63, 64, 65, 66, 83, 84, 85, 86, 87, 88, 89, 90, 91, 92, 93, 94, 95] (by decide +kernel) (by decide +kernel)
set_option maxRecDepth 20000 in
theorem ggL_law_X11_image_2 : GoodIn wsL_law wsX11_image_r3 := goodIn_r _ [96, 97, 98, 99, 100, 101, 102, 103, 104, 1306, 538, 539, 540, 333, 334, 335, 336, 337, 338, 339, 323, 340, 341, 342] (by decide +kernel) (by decide +kernel)
set_option maxRecDepth 20000 in
theorem ggL_law_X11_image_3 : GoodIn wsL_law wsX11_image_r4 := goodIn_r _ [343, 541, 542, 543, 544, 348, 349, 545, 546, 547, 548, 549, 526, 550, 551, 552, 553, 554, 354, 555, 556, 355, 557, 558] (by decide +kernel) (by decide +kernel)
set_option maxRecDepth 20000 in
theorem ggL_law_X11_image_4 : GoodIn wsL_law wsX11_image_r5 := goodIn_r _ [559, 560] (by decide +kernel) (by decide +kernel)
set_option maxRecDepth 20000 in
theorem ggL_law_X11_image_c : GoodIn wsL_law [.code yX11_image cX11_image 2 (some .boolean)] := goodIn_r _ [1305] (by decide +kernel) (by decide +kernel)
theorem ggL_law_X11_image : GoodIn wsL_law wsX11_image := goodIn_app (a := [.code yX11_image cX11_image 2 (some .boolean)]) ggL_law_X11_image_c (goodIn_app (goodIn_app (goodIn_app (goodIn_app (goodIn_app (goodIn_app (goodIn_app ggL_law_X11_image_0 (goodIn_app ggL_law_X11_image_1 (goodIn_app ggL_law_X11_image_2 (goodIn_app ggL_law_X11_image_3 ggL_law_X11_image_4)))) gc_wsX110) gc_wsX90) gc_wsX100) gc_wsX80) gc_wsX40) gc_wsX00)
set_option maxRecDepth 20000 in
theorem gL_law_X11_image : GoodIn wsL_law (wsV RL 159 RX11 yX11_image wsX11_image) := goodIn_app (goodIn_of _ (by decide +kernel)) ggL_law_X11_image
set_option maxRecDepth 20000 in
theorem ggL_law_X12_image_0 : GoodIn wsL_law [.fieldLink RX12 7 "TwoTierStoreModel" "s" "[I", .fieldLink RX12 13 "TwoTierStoreModel" "kept" "[I", .fieldLink RX12 22 "TwoTierStoreModel" "isKept" "[Z", .methodLink RX12 83 yX12_isIn, .static yX12_isIn, .initialized RX12, .code yX12_isIn cX12_isIn 3 (some .boolean), .methodLink RX12 177 yX12_copies, .static yX12_copies, .code yX12_copies cX12_copies 5 none] := goodIn_r _ [142, 143, 147, 403, 404, 5, 405, 450, 451, 452] (by decide +kernel) (by decide +kernel)
set_option maxRecDepth 20000 in
theorem ggL_law_X12_image_c : GoodIn wsL_law [.code yX12_image cX12_image 2 (some .boolean)] := goodIn_r _ [1310] (by decide +kernel) (by decide +kernel)
theorem ggL_law_X12_image : GoodIn wsL_law wsX12_image := goodIn_app (a := [.code yX12_image cX12_image 2 (some .boolean)]) ggL_law_X12_image_c (goodIn_app ggL_law_X12_image_0 gc_wsX120)
set_option maxRecDepth 20000 in
theorem gL_law_X12_image : GoodIn wsL_law (wsV RL 162 RX12 yX12_image wsX12_image) := goodIn_app (goodIn_of _ (by decide +kernel)) ggL_law_X12_image
