set_option maxRecDepth 20000 in
theorem ggL_law_X12_plan_0 : GoodIn wsL_law wsX12_plan_r1 := goodIn_r _ [157, 779, 780, 781, 5, 782, 142, 403, 404, 405, 1019, 1020, 1021, 1022, 958, 959, 960, 961, 962, 963, 964, 158, 156, 965] (by decide +kernel) (by decide +kernel)
set_option maxRecDepth 20000 in
theorem ggL_law_X12_plan_1 : GoodIn wsL_law wsX12_plan_r2 := goodIn_r _ [966, 967, 968, 969, 488, 489, 490, 970, 971, 972, 973, 974, 975, 976, 977, 978, 979, 980, 981, 982, 983, 984, 985, 986] (by decide +kernel) (by decide +kernel)
set_option maxRecDepth 20000 in
theorem ggL_law_X12_plan_2 : GoodIn wsL_law wsX12_plan_r3 := goodIn_r _ [987, 988, 989, 1023, 1024, 1025, 1026, 1027, 1028, 1029, 1030, 1031, 1032, 1033, 1034] (by decide +kernel) (by decide +kernel)
set_option maxRecDepth 20000 in
theorem ggL_law_X12_plan_c : GoodIn wsL_law [.code yX12_plan cX12_plan 3 (some .int)] := goodIn_r _ [1018] (by decide +kernel) (by decide +kernel)
theorem ggL_law_X12_plan : GoodIn wsL_law wsX12_plan := goodIn_app (a := [.code yX12_plan cX12_plan 3 (some .int)]) ggL_law_X12_plan_c (goodIn_app (goodIn_app ggL_law_X12_plan_0 (goodIn_app ggL_law_X12_plan_1 ggL_law_X12_plan_2)) gc_wsX120)
set_option maxRecDepth 20000 in
theorem gL_law_X12_plan : GoodIn wsL_law (wsV RL 90 RX12 yX12_plan wsX12_plan) := goodIn_app (goodIn_of _ (by decide +kernel)) ggL_law_X12_plan
set_option maxRecDepth 20000 in
theorem ggL_law_X11_potential_0 : GoodIn wsL_law wsX11_potential_r1 := goodIn_r _ [23, 472, 771, 772, 773, 77, 774, 526, 995, 996, 997, 2, 998, 44, 466, 467, 901, 902, 903, 43, 904, 127, 905, 906] (by decide +kernel) (by decide +kernel)
set_option maxRecDepth 20000 in
theorem ggL_law_X11_potential_1 : GoodIn wsL_law wsX11_potential_r2 := goodIn_r _ [907, 908, 909, 910, 911, 912, 913, 914, 915, 916, 917, 918, 919, 124, 920, 125, 921, 126, 131, 922, 923, 924, 18, 925] (by decide +kernel) (by decide +kernel)
set_option maxRecDepth 20000 in
theorem ggL_law_X11_potential_2 : GoodIn wsL_law wsX11_potential_r3 := goodIn_r _ [323, 926, 927, 928, 929, 130, 930, 931, 932, 933, 934, 935, 936, 937, 938, 939, 940, 941, 942, 943, 944, 945, 999, 1000] (by decide +kernel) (by decide +kernel)
set_option maxRecDepth 20000 in
theorem ggL_law_X11_potential_3 : GoodIn wsL_law wsX11_potential_r4 := goodIn_r _ [1001, 1002, 128, 129, 950, 951, 952, 953, 1003, 1004, 1005, 1006, 1007, 1008, 1009, 1010, 1039, 1040, 1041, 1042, 469, 203, 495, 994] (by decide +kernel) (by decide +kernel)
set_option maxRecDepth 20000 in
theorem ggL_law_X11_potential_4 : GoodIn wsL_law wsX11_potential_r5 := goodIn_r _ [496, 1043, 1044, 1045, 1046, 98] (by decide +kernel) (by decide +kernel)
set_option maxRecDepth 20000 in
theorem ggL_law_X11_potential_c : GoodIn wsL_law [.code yX11_potential cX11_potential 2 (some .int)] := goodIn_r _ [1038] (by decide +kernel) (by decide +kernel)
theorem ggL_law_X11_potential : GoodIn wsL_law wsX11_potential := goodIn_app (a := [.code yX11_potential cX11_potential 2 (some .int)]) ggL_law_X11_potential_c (goodIn_app (goodIn_app (goodIn_app (goodIn_app (goodIn_app (goodIn_app (goodIn_app ggL_law_X11_potential_0 (goodIn_app ggL_law_X11_potential_1 (goodIn_app ggL_law_X11_potential_2 (goodIn_app ggL_law_X11_potential_3 ggL_law_X11_potential_4)))) gc_wsX110) gc_wsX90) gc_wsX40) gc_wsX80) gc_wsX50) gc_wsX100)
set_option maxRecDepth 20000 in
theorem gL_law_X11_potential : GoodIn wsL_law (wsV RL 91 RX11 yX11_potential wsX11_potential) := goodIn_app (goodIn_of _ (by decide +kernel)) ggL_law_X11_potential
set_option maxRecDepth 20000 in
theorem ggL_law_X12_potential_0 : GoodIn wsL_law wsX12_potential_r1 := goodIn_r _ [779, 780, 781, 5, 782, 142, 403, 404, 405, 1019, 1020, 1021, 1022, 958, 959, 960, 961, 962, 963, 964, 158, 156, 965, 966] (by decide +kernel) (by decide +kernel)
set_option maxRecDepth 20000 in
theorem ggL_law_X12_potential_1 : GoodIn wsL_law wsX12_potential_r2 := goodIn_r _ [967, 968, 969, 488, 489, 490, 970, 971, 972, 973, 974, 975, 976, 977, 978, 979, 980, 981, 982, 983, 984, 985, 986, 987] (by decide +kernel) (by decide +kernel)
set_option maxRecDepth 20000 in
theorem ggL_law_X12_potential_2 : GoodIn wsL_law wsX12_potential_r3 := goodIn_r _ [988, 989, 1023, 1024, 1025, 1026, 157, 1027, 1028, 1029, 1030, 1051, 1052, 1053, 1054] (by decide +kernel) (by decide +kernel)
set_option maxRecDepth 20000 in
theorem ggL_law_X12_potential_c : GoodIn wsL_law [.code yX12_potential cX12_potential 2 (some .int)] := goodIn_r _ [1050] (by decide +kernel) (by decide +kernel)
theorem ggL_law_X12_potential : GoodIn wsL_law wsX12_potential := goodIn_app (a := [.code yX12_potential cX12_potential 2 (some .int)]) ggL_law_X12_potential_c (goodIn_app (goodIn_app ggL_law_X12_potential_0 (goodIn_app ggL_law_X12_potential_1 ggL_law_X12_potential_2)) gc_wsX120)
set_option maxRecDepth 20000 in
theorem gL_law_X12_potential : GoodIn wsL_law (wsV RL 94 RX12 yX12_potential wsX12_potential) := goodIn_app (goodIn_of _ (by decide +kernel)) ggL_law_X12_potential
set_option maxRecDepth 20000 in
theorem ggL_law_X11_proof_0 : GoodIn wsL_law wsX11_proof_r1 := goodIn_r _ [23, 472, 1059, 466, 467, 44, 769, 771, 772, 773, 77, 774, 526, 995, 996, 997, 2, 998, 901, 902, 903, 43, 904, 127] (by decide +kernel) (by decide +kernel)
set_option maxRecDepth 20000 in
theorem ggL_law_X11_proof_1 : GoodIn wsL_law wsX11_proof_r2 := goodIn_r _ [905, 906, 907, 908, 909, 910, 911, 912, 913, 914, 915, 916, 917, 918, 919, 124, 920, 125, 921, 126, 131, 922, 923, 924] (by decide +kernel) (by decide +kernel)
set_option maxRecDepth 20000 in
theorem ggL_law_X11_proof_2 : GoodIn wsL_law wsX11_proof_r3 := goodIn_r _ [18, 925, 323, 926, 927, 928, 929, 130, 930, 931, 932, 933, 934, 935, 936, 937, 938, 939, 940, 941, 942, 943, 944, 945] (by decide +kernel) (by decide +kernel)
set_option maxRecDepth 20000 in
theorem ggL_law_X11_proof_3 : GoodIn wsL_law wsX11_proof_r4 := goodIn_r _ [999, 1000, 1001, 1002, 128, 129, 950, 951, 952, 953, 1003, 1004, 1005, 1006, 1007, 1008, 1009, 1010, 1039, 1040, 1041, 1042, 469, 203] (by decide +kernel) (by decide +kernel)
set_option maxRecDepth 20000 in
theorem ggL_law_X11_proof_4 : GoodIn wsL_law wsX11_proof_r5 := goodIn_r _ [495, 994, 496, 1043, 1044, 1045, 1046, 98, 1011, 1012, 1013, 1014] (by decide +kernel) (by decide +kernel)
set_option maxRecDepth 20000 in
theorem ggL_law_X11_proof_c : GoodIn wsL_law [.code yX11_proof cX11_proof 4 (some .int)] := goodIn_r _ [1058] (by decide +kernel) (by decide +kernel)
theorem ggL_law_X11_proof : GoodIn wsL_law wsX11_proof := goodIn_app (a := [.code yX11_proof cX11_proof 4 (some .int)]) ggL_law_X11_proof_c (goodIn_app (goodIn_app (goodIn_app (goodIn_app (goodIn_app (goodIn_app (goodIn_app ggL_law_X11_proof_0 (goodIn_app ggL_law_X11_proof_1 (goodIn_app ggL_law_X11_proof_2 (goodIn_app ggL_law_X11_proof_3 ggL_law_X11_proof_4)))) gc_wsX110) gc_wsX90) gc_wsX80) gc_wsX40) gc_wsX50) gc_wsX100)
set_option maxRecDepth 20000 in
theorem gL_law_X11_proof : GoodIn wsL_law (wsV RL 95 RX11 yX11_proof wsX11_proof) := goodIn_app (goodIn_of _ (by decide +kernel)) ggL_law_X11_proof
set_option maxRecDepth 20000 in
theorem ggL_law_X12_proof_0 : GoodIn wsL_law wsX12_proof_r1 := goodIn_r _ [1064, 142, 779, 780, 781, 5, 782, 403, 404, 405, 1019, 1020, 1021, 1022, 958, 959, 960, 961, 962, 963, 964, 158, 156, 965] (by decide +kernel) (by decide +kernel)
set_option maxRecDepth 20000 in
theorem ggL_law_X12_proof_1 : GoodIn wsL_law wsX12_proof_r2 := goodIn_r _ [966, 967, 968, 969, 488, 489, 490, 970, 971, 972, 973, 974, 975, 976, 977, 978, 979, 980, 981, 982, 983, 984, 985, 986] (by decide +kernel) (by decide +kernel)
set_option maxRecDepth 20000 in
theorem ggL_law_X12_proof_2 : GoodIn wsL_law wsX12_proof_r3 := goodIn_r _ [987, 988, 989, 1023, 1024, 1025, 1026, 157, 1027, 1028, 1029, 1030, 1031, 1032, 1033, 1034, 1051, 1052, 1053, 1054] (by decide +kernel) (by decide +kernel)
set_option maxRecDepth 20000 in
theorem ggL_law_X12_proof_c : GoodIn wsL_law [.code yX12_proof cX12_proof 2 (some .int)] := goodIn_r _ [1063] (by decide +kernel) (by decide +kernel)
theorem ggL_law_X12_proof : GoodIn wsL_law wsX12_proof := goodIn_app (a := [.code yX12_proof cX12_proof 2 (some .int)]) ggL_law_X12_proof_c (goodIn_app (goodIn_app ggL_law_X12_proof_0 (goodIn_app ggL_law_X12_proof_1 ggL_law_X12_proof_2)) gc_wsX120)
set_option maxRecDepth 20000 in
theorem gL_law_X12_proof : GoodIn wsL_law (wsV RL 98 RX12 yX12_proof wsX12_proof) := goodIn_app (goodIn_of _ (by decide +kernel)) ggL_law_X12_proof
set_option maxRecDepth 20000 in
theorem ggL_law_X11_bestWith_0 : GoodIn wsL_law wsX11_bestWith_r1 := goodIn_r _ [23, 469, 472, 473, 466, 467, 1069, 501, 502, 503, 18, 504, 323, 1070, 1071, 1072, 2, 1073, 45, 361, 362, 363, 43, 364] (by decide +kernel) (by decide +kernel)
set_option maxRecDepth 20000 in
theorem ggL_law_X11_bestWith_1 : GoodIn wsL_law wsX11_bestWith_r2 := goodIn_r _ [127, 128, 901, 902, 903, 904, 905, 906, 907, 908, 909, 910, 911, 912, 913, 914, 915, 916, 917, 918, 919, 124, 920, 125] (by decide +kernel) (by decide +kernel)
set_option maxRecDepth 20000 in
theorem ggL_law_X11_bestWith_2 : GoodIn wsL_law wsX11_bestWith_r3 := goodIn_r _ [921, 126, 131, 922, 923, 924, 925, 926, 927, 928, 929, 130, 930, 931, 932, 933, 934, 935, 936, 937, 938, 939, 940, 941] (by decide +kernel) (by decide +kernel)
set_option maxRecDepth 20000 in
theorem ggL_law_X11_bestWith_3 : GoodIn wsL_law wsX11_bestWith_r4 := goodIn_r _ [942, 943, 944, 945, 946, 947, 948, 949, 950, 951, 952, 953] (by decide +kernel) (by decide +kernel)
set_option maxRecDepth 20000 in
theorem ggL_law_X11_bestWith_c : GoodIn wsL_law [.code yX11_bestWith cX11_bestWith 3 (some .int)] := goodIn_r _ [1068] (by decide +kernel) (by decide +kernel)
theorem ggL_law_X11_bestWith : GoodIn wsL_law wsX11_bestWith := goodIn_app (a := [.code yX11_bestWith cX11_bestWith 3 (some .int)]) ggL_law_X11_bestWith_c (goodIn_app (goodIn_app (goodIn_app (goodIn_app (goodIn_app (goodIn_app (goodIn_app ggL_law_X11_bestWith_0 (goodIn_app ggL_law_X11_bestWith_1 (goodIn_app ggL_law_X11_bestWith_2 ggL_law_X11_bestWith_3))) gc_wsX110) gc_wsX90) gc_wsX40) gc_wsX80) gc_wsX100) gc_wsX50)
set_option maxRecDepth 20000 in
theorem gL_law_X11_bestWith : GoodIn wsL_law (wsV RL 99 RX11 yX11_bestWith wsX11_bestWith) := goodIn_app (goodIn_of _ (by decide +kernel)) ggL_law_X11_bestWith
set_option maxRecDepth 20000 in
theorem ggL_law_X12_bestWith_0 : GoodIn wsL_law wsX12_bestWith_r1 := goodIn_r _ [142, 965, 514, 515, 516, 5, 517, 403, 404, 405, 958, 959, 960, 961, 962, 963, 964, 158, 156, 966, 967, 968, 969, 488] (by decide +kernel) (by decide +kernel)
set_option maxRecDepth 20000 in
theorem ggL_law_X12_bestWith_1 : GoodIn wsL_law wsX12_bestWith_r2 := goodIn_r _ [489, 490, 970, 971, 972, 973, 974, 975, 976, 977, 978, 979, 980, 981, 982, 983, 984, 985, 986, 987, 988, 989] (by decide +kernel) (by decide +kernel)
set_option maxRecDepth 20000 in
theorem ggL_law_X12_bestWith_c : GoodIn wsL_law [.code yX12_bestWith cX12_bestWith 3 (some .int)] := goodIn_r _ [1077] (by decide +kernel) (by decide +kernel)
theorem ggL_law_X12_bestWith : GoodIn wsL_law wsX12_bestWith := goodIn_app (a := [.code yX12_bestWith cX12_bestWith 3 (some .int)]) ggL_law_X12_bestWith_c (goodIn_app (goodIn_app ggL_law_X12_bestWith_0 ggL_law_X12_bestWith_1) gc_wsX120)
set_option maxRecDepth 20000 in
theorem gL_law_X12_bestWith : GoodIn wsL_law (wsV RL 102 RX12 yX12_bestWith wsX12_bestWith) := goodIn_app (goodIn_of _ (by decide +kernel)) ggL_law_X12_bestWith
set_option maxRecDepth 20000 in
theorem ggL_law_X11_soon_0 : GoodIn wsL_law wsX11_soon_r1 := goodIn_r _ [23, 469, 40, 466, 36, 1082, 501, 502, 503, 18, 504, 323, 1083, 542, 543, 39, 544, 86, 87, 348, 349, 88, 545, 341] (by decide +kernel) (by decide +kernel)
set_option maxRecDepth 20000 in
theorem ggL_law_X11_soon_1 : GoodIn wsL_law wsX11_soon_r2 := goodIn_r _ [342, 343, 89, 91, 826, 584, 585, 586, 1084, 572, 573, 574, 575, 576, 577, 578, 579, 580, 581, 582, 583, 587, 588, 589] (by decide +kernel) (by decide +kernel)
set_option maxRecDepth 20000 in
theorem ggL_law_X11_soon_2 : GoodIn wsL_law wsX11_soon_r3 := goodIn_r _ [590, 63, 64, 591, 592, 593, 35, 594, 595, 117, 118, 119, 596, 597, 598, 599, 600, 601, 602, 603, 604, 477, 478, 479] (by decide +kernel) (by decide +kernel)
set_option maxRecDepth 20000 in
theorem ggL_law_X11_soon_3 : GoodIn wsL_law wsX11_soon_r4 := goodIn_r _ [605, 606, 607, 608, 609, 610, 611, 612, 613, 614, 615, 616, 617, 618, 619, 620, 621] (by decide +kernel) (by decide +kernel)
set_option maxRecDepth 20000 in
theorem ggL_law_X11_soon_c : GoodIn wsL_law [.code yX11_soon cX11_soon 3 (some .int)] := goodIn_r _ [1081] (by decide +kernel) (by decide +kernel)
theorem ggL_law_X11_soon : GoodIn wsL_law wsX11_soon := goodIn_app (a := [.code yX11_soon cX11_soon 3 (some .int)]) ggL_law_X11_soon_c (goodIn_app (goodIn_app (goodIn_app (goodIn_app (goodIn_app (goodIn_app ggL_law_X11_soon_0 (goodIn_app ggL_law_X11_soon_1 (goodIn_app ggL_law_X11_soon_2 ggL_law_X11_soon_3))) gc_wsX110) gc_wsX90) gc_wsX10) gc_wsX100) gc_wsX80)
set_option maxRecDepth 20000 in
theorem gL_law_X11_soon : GoodIn wsL_law (wsV RL 103 RX11 yX11_soon wsX11_soon) := goodIn_app (goodIn_of _ (by decide +kernel)) ggL_law_X11_soon
set_option maxRecDepth 20000 in
theorem ggL_law_X12_soon_0 : GoodIn wsL_law wsX12_soon_r1 := goodIn_r _ [142, 514, 515, 516, 5, 517, 403, 404, 405, 1089, 1090, 1091, 1092, 159, 717, 1093, 657, 1094, 160, 151, 450, 451, 452, 488] (by decide +kernel) (by decide +kernel)
set_option maxRecDepth 20000 in
theorem ggL_law_X12_soon_1 : GoodIn wsL_law wsX12_soon_r2 := goodIn_r _ [489, 490, 666, 667, 668, 669, 670, 671, 672, 673, 674, 675, 676, 677, 678, 679, 680, 681, 682, 683, 684, 685, 686, 687] (by decide +kernel) (by decide +kernel)
set_option maxRecDepth 20000 in
theorem ggL_law_X12_soon_2 : GoodIn wsL_law wsX12_soon_r3 := goodIn_r _ [688, 689, 690, 691, 692, 693, 694, 695, 696, 697, 698, 699, 700, 701, 702, 703, 704, 484, 485, 486, 487, 705, 706, 707] (by decide +kernel) (by decide +kernel)
set_option maxRecDepth 20000 in
theorem ggL_law_X12_soon_3 : GoodIn wsL_law wsX12_soon_r4 := goodIn_r _ [708, 709, 710, 711, 712, 713, 714, 715, 716, 718, 719, 720, 721, 1095, 1096, 1097, 1098] (by decide +kernel) (by decide +kernel)
set_option maxRecDepth 20000 in
theorem ggL_law_X12_soon_c : GoodIn wsL_law [.code yX12_soon cX12_soon 4 (some .int)] := goodIn_r _ [1088] (by decide +kernel) (by decide +kernel)
theorem ggL_law_X12_soon : GoodIn wsL_law wsX12_soon := goodIn_app (a := [.code yX12_soon cX12_soon 4 (some .int)]) ggL_law_X12_soon_c (goodIn_app (goodIn_app ggL_law_X12_soon_0 (goodIn_app ggL_law_X12_soon_1 (goodIn_app ggL_law_X12_soon_2 ggL_law_X12_soon_3))) gc_wsX120)
set_option maxRecDepth 20000 in
theorem gL_law_X12_soon : GoodIn wsL_law (wsV RL 106 RX12 yX12_soon wsX12_soon) := goodIn_app (goodIn_of _ (by decide +kernel)) ggL_law_X12_soon
set_option maxRecDepth 20000 in
theorem ggL_law_X11_victims_0 : GoodIn wsL_law wsX11_victims_r1 := goodIn_r _ [23, 466, 469, 495, 467, 40, 36, 1082, 470, 501, 502, 503, 18, 504, 323, 826, 584, 585, 39, 586, 348, 1083, 542, 543] (by decide +kernel) (by decide +kernel)
set_option maxRecDepth 20000 in
theorem ggL_law_X11_victims_1 : GoodIn wsL_law wsX11_victims_r2 := goodIn_r _ [544, 86, 87, 349, 88, 545, 341, 342, 343, 89, 91, 1103, 601, 602, 603, 604, 477, 478, 479, 605, 606, 607, 608, 609] (by decide +kernel) (by decide +kernel)
set_option maxRecDepth 20000 in
theorem ggL_law_X11_victims_2 : GoodIn wsL_law wsX11_victims_r3 := goodIn_r _ [583, 610, 611, 612, 613, 575, 591, 592, 593, 35, 594, 595, 117, 118, 119, 614, 615, 616, 617] (by decide +kernel) (by decide +kernel)
set_option maxRecDepth 20000 in
theorem ggL_law_X11_victims_c : GoodIn wsL_law [.code yX11_victims cX11_victims 3 (some .int)] := goodIn_r _ [1102] (by decide +kernel) (by decide +kernel)
theorem ggL_law_X11_victims : GoodIn wsL_law wsX11_victims := goodIn_app (a := [.code yX11_victims cX11_victims 3 (some .int)]) ggL_law_X11_victims_c (goodIn_app (goodIn_app (goodIn_app (goodIn_app (goodIn_app (goodIn_app ggL_law_X11_victims_0 (goodIn_app ggL_law_X11_victims_1 ggL_law_X11_victims_2)) gc_wsX110) gc_wsX90) gc_wsX100) gc_wsX80) gc_wsX10)
set_option maxRecDepth 20000 in
theorem gL_law_X11_victims : GoodIn wsL_law (wsV RL 107 RX11 yX11_victims wsX11_victims) := goodIn_app (goodIn_of _ (by decide +kernel)) ggL_law_X11_victims
set_option maxRecDepth 20000 in
theorem ggL_law_X12_victims_0 : GoodIn wsL_law wsX12_victims_r1 := goodIn_r _ [142, 514, 515, 516, 5, 517, 403, 404, 405, 488, 489, 490, 1089, 1090, 1091, 1092, 159, 717, 1093, 657, 1094, 160, 151, 450] (by decide +kernel) (by decide +kernel)
set_option maxRecDepth 20000 in
theorem ggL_law_X12_victims_1 : GoodIn wsL_law wsX12_victims_r2 := goodIn_r _ [451, 452, 701, 702, 703, 704, 484, 485, 486, 487, 705, 706, 707, 708, 709, 710, 711, 712, 690, 691, 692, 693, 694, 695] (by decide +kernel) (by decide +kernel)
set_option maxRecDepth 20000 in
theorem ggL_law_X12_victims_2 : GoodIn wsL_law wsX12_victims_r3 := goodIn_r _ [696, 713, 714, 715, 716, 1095, 1096, 1097, 1098] (by decide +kernel) (by decide +kernel)
set_option maxRecDepth 20000 in
theorem ggL_law_X12_victims_c : GoodIn wsL_law [.code yX12_victims cX12_victims 4 (some .int)] := goodIn_r _ [1107] (by decide +kernel) (by decide +kernel)
theorem ggL_law_X12_victims : GoodIn wsL_law wsX12_victims := goodIn_app (a := [.code yX12_victims cX12_victims 4 (some .int)]) ggL_law_X12_victims_c (goodIn_app (goodIn_app ggL_law_X12_victims_0 (goodIn_app ggL_law_X12_victims_1 ggL_law_X12_victims_2)) gc_wsX120)
set_option maxRecDepth 20000 in
theorem gL_law_X12_victims : GoodIn wsL_law (wsV RL 110 RX12 yX12_victims wsX12_victims) := goodIn_app (goodIn_of _ (by decide +kernel)) ggL_law_X12_victims
set_option maxRecDepth 20000 in
theorem ggL_law_X11_upTo_0 : GoodIn wsL_law wsX11_upTo_r1 := goodIn_r _ [23, 472, 771, 772, 773, 77, 774, 526, 897, 898, 899, 2, 900, 44, 466, 467, 901, 902, 903, 43, 904, 127, 905, 906] (by decide +kernel) (by decide +kernel)
set_option maxRecDepth 20000 in
theorem ggL_law_X11_upTo_1 : GoodIn wsL_law wsX11_upTo_r2 := goodIn_r _ [907, 908, 909, 910, 911, 912, 913, 914, 915, 916, 917, 918, 919, 124, 920, 125, 921, 126, 131, 922, 923, 924, 18, 925] (by decide +kernel) (by decide +kernel)
set_option maxRecDepth 20000 in
theorem ggL_law_X11_upTo_2 : GoodIn wsL_law wsX11_upTo_r3 := goodIn_r _ [323, 926, 927, 928, 929, 130, 930, 931, 932, 933, 934, 935, 936, 937, 938, 939, 940, 941, 942, 943, 944, 945, 946, 947] (by decide +kernel) (by decide +kernel)
set_option maxRecDepth 20000 in
theorem ggL_law_X11_upTo_3 : GoodIn wsL_law wsX11_upTo_r4 := goodIn_r _ [948, 949, 950, 951, 952, 953] (by decide +kernel) (by decide +kernel)
set_option maxRecDepth 20000 in
theorem ggL_law_X11_upTo_c : GoodIn wsL_law [.code yX11_upTo cX11_upTo 2 (some .int)] := goodIn_r _ [1111] (by decide +kernel) (by decide +kernel)
theorem ggL_law_X11_upTo : GoodIn wsL_law wsX11_upTo := goodIn_app (a := [.code yX11_upTo cX11_upTo 2 (some .int)]) ggL_law_X11_upTo_c (goodIn_app (goodIn_app (goodIn_app (goodIn_app (goodIn_app (goodIn_app (goodIn_app ggL_law_X11_upTo_0 (goodIn_app ggL_law_X11_upTo_1 (goodIn_app ggL_law_X11_upTo_2 ggL_law_X11_upTo_3))) gc_wsX110) gc_wsX90) gc_wsX40) gc_wsX80) gc_wsX50) gc_wsX100)
set_option maxRecDepth 20000 in
theorem gL_law_X11_upTo : GoodIn wsL_law (wsV RL 111 RX11 yX11_upTo wsX11_upTo) := goodIn_app (goodIn_of _ (by decide +kernel)) ggL_law_X11_upTo
set_option maxRecDepth 20000 in
theorem ggL_law_X12_upTo_0 : GoodIn wsL_law wsX12_upTo_r1 := goodIn_r _ [142, 779, 780, 781, 5, 782, 403, 404, 405, 958, 959, 960, 961, 962, 963, 964, 158, 156, 965, 966, 967, 968, 969, 488] (by decide +kernel) (by decide +kernel)
set_option maxRecDepth 20000 in
theorem ggL_law_X12_upTo_1 : GoodIn wsL_law wsX12_upTo_r2 := goodIn_r _ [489, 490, 970, 971, 972, 973, 974, 975, 976, 977, 978, 979, 980, 981, 982, 983, 984, 985, 986, 987, 988, 989] (by decide +kernel) (by decide +kernel)
set_option maxRecDepth 20000 in
theorem ggL_law_X12_upTo_c : GoodIn wsL_law [.code yX12_upTo cX12_upTo 2 (some .int)] := goodIn_r _ [1115] (by decide +kernel) (by decide +kernel)
theorem ggL_law_X12_upTo : GoodIn wsL_law wsX12_upTo := goodIn_app (a := [.code yX12_upTo cX12_upTo 2 (some .int)]) ggL_law_X12_upTo_c (goodIn_app (goodIn_app ggL_law_X12_upTo_0 ggL_law_X12_upTo_1) gc_wsX120)
set_option maxRecDepth 20000 in
theorem gL_law_X12_upTo : GoodIn wsL_law (wsV RL 114 RX12 yX12_upTo wsX12_upTo) := goodIn_app (goodIn_of _ (by decide +kernel)) ggL_law_X12_upTo
set_option maxRecDepth 20000 in
theorem ggL_law_X11_curve_0 : GoodIn wsL_law wsX11_curve_r1 := goodIn_r _ [23, 466, 468, 1120, 1121, 1122, 2, 1123, 40, 472, 473, 36, 1082, 469, 768, 798, 345, 346, 39, 347, 86, 87, 348, 349] (by decide +kernel) (by decide +kernel)
set_option maxRecDepth 20000 in
theorem ggL_law_X11_curve_1 : GoodIn wsL_law wsX11_curve_r2 := goodIn_r _ [88, 89, 91, 1084, 572, 573, 574, 575, 576, 577, 578, 579, 580, 581, 582, 583, 584, 585, 586, 587, 588, 589, 18, 590] (by decide +kernel) (by decide +kernel)
set_option maxRecDepth 20000 in
theorem ggL_law_X11_curve_2 : GoodIn wsL_law wsX11_curve_r3 := goodIn_r _ [63, 64, 591, 592, 593, 35, 594, 595, 117, 118, 119, 596, 597, 598, 599, 600, 601, 602, 603, 604, 477, 478, 479, 605] (by decide +kernel) (by decide +kernel)
set_option maxRecDepth 20000 in
theorem ggL_law_X11_curve_3 : GoodIn wsL_law wsX11_curve_r4 := goodIn_r _ [606, 607, 608, 609, 610, 611, 612, 613, 614, 615, 616, 617, 618, 619, 620, 621, 1070, 1071, 1072, 1073, 45, 361, 362, 363] (by decide +kernel) (by decide +kernel)
set_option maxRecDepth 20000 in
theorem ggL_law_X11_curve_4 : GoodIn wsL_law wsX11_curve_r5 := goodIn_r _ [43, 364, 127, 128, 901, 902, 903, 904, 905, 906, 907, 908, 909, 910, 911, 912, 913, 914, 915, 916, 917, 918, 919, 124] (by decide +kernel) (by decide +kernel)
set_option maxRecDepth 20000 in
theorem ggL_law_X11_curve_5 : GoodIn wsL_law wsX11_curve_r6 := goodIn_r _ [920, 125, 921, 126, 131, 922, 923, 924, 925, 323, 926, 927, 928, 929, 130, 930, 931, 932, 933, 934, 935, 936, 937, 938] (by decide +kernel) (by decide +kernel)
set_option maxRecDepth 20000 in
theorem ggL_law_X11_curve_6 : GoodIn wsL_law wsX11_curve_r7 := goodIn_r _ [939, 940, 941, 942, 943, 944, 945, 946, 947, 948, 949, 950, 951, 952, 953] (by decide +kernel) (by decide +kernel)
set_option maxRecDepth 20000 in
theorem ggL_law_X11_curve_c : GoodIn wsL_law [.code yX11_curve cX11_curve 3 (some .int)] := goodIn_r _ [1119] (by decide +kernel) (by decide +kernel)
theorem ggL_law_X11_curve : GoodIn wsL_law wsX11_curve := goodIn_app (a := [.code yX11_curve cX11_curve 3 (some .int)]) ggL_law_X11_curve_c (goodIn_app (goodIn_app (goodIn_app (goodIn_app (goodIn_app (goodIn_app (goodIn_app (goodIn_app ggL_law_X11_curve_0 (goodIn_app ggL_law_X11_curve_1 (goodIn_app ggL_law_X11_curve_2 (goodIn_app ggL_law_X11_curve_3 (goodIn_app ggL_law_X11_curve_4 (goodIn_app ggL_law_X11_curve_5 ggL_law_X11_curve_6)))))) gc_wsX110) gc_wsX90) gc_wsX80) gc_wsX40) gc_wsX10) gc_wsX100) gc_wsX50)
set_option maxRecDepth 20000 in
theorem gL_law_X11_curve : GoodIn wsL_law (wsV RL 115 RX11 yX11_curve wsX11_curve) := goodIn_app (goodIn_of _ (by decide +kernel)) ggL_law_X11_curve
set_option maxRecDepth 20000 in
theorem ggL_law_X12_curve_0 : GoodIn wsL_law wsX12_curve_r1 := goodIn_r _ [142, 403, 404, 5, 405, 1128, 1129, 1130, 1131, 1089, 1090, 1091, 1092, 159, 717, 1093, 657, 1094, 160, 151, 450, 451, 452, 803] (by decide +kernel) (by decide +kernel)
set_option maxRecDepth 20000 in
theorem ggL_law_X12_curve_1 : GoodIn wsL_law wsX12_curve_r2 := goodIn_r _ [804, 805, 806, 807, 808, 809, 666, 667, 668, 669, 670, 671, 672, 673, 674, 675, 676, 677, 678, 679, 680, 681, 682, 683] (by decide +kernel) (by decide +kernel)
set_option maxRecDepth 20000 in
theorem ggL_law_X12_curve_2 : GoodIn wsL_law wsX12_curve_r3 := goodIn_r _ [684, 685, 686, 687, 688, 689, 488, 489, 490, 690, 691, 692, 693, 694, 695, 696, 697, 698, 699, 700, 701, 702, 703, 704] (by decide +kernel) (by decide +kernel)
set_option maxRecDepth 20000 in
theorem ggL_law_X12_curve_3 : GoodIn wsL_law wsX12_curve_r4 := goodIn_r _ [484, 485, 486, 487, 705, 706, 707, 708, 709, 710, 711, 712, 713, 714, 715, 716, 718, 719, 720, 721, 1095, 1096, 1097, 1098] (by decide +kernel) (by decide +kernel)
set_option maxRecDepth 20000 in
theorem ggL_law_X12_curve_4 : GoodIn wsL_law wsX12_curve_r5 := goodIn_r _ [958, 959, 960, 961, 962, 963, 964, 158, 156, 965, 966, 967, 968, 969, 970, 971, 972, 973, 974, 975, 976, 977, 978, 979] (by decide +kernel) (by decide +kernel)
set_option maxRecDepth 20000 in
theorem ggL_law_X12_curve_5 : GoodIn wsL_law wsX12_curve_r6 := goodIn_r _ [980, 981, 982, 983, 984, 985, 986, 987, 988, 989] (by decide +kernel) (by decide +kernel)
set_option maxRecDepth 20000 in
theorem ggL_law_X12_curve_c : GoodIn wsL_law [.code yX12_curve cX12_curve 3 (some .int)] := goodIn_r _ [1127] (by decide +kernel) (by decide +kernel)
theorem ggL_law_X12_curve : GoodIn wsL_law wsX12_curve := goodIn_app (a := [.code yX12_curve cX12_curve 3 (some .int)]) ggL_law_X12_curve_c (goodIn_app (goodIn_app ggL_law_X12_curve_0 (goodIn_app ggL_law_X12_curve_1 (goodIn_app ggL_law_X12_curve_2 (goodIn_app ggL_law_X12_curve_3 (goodIn_app ggL_law_X12_curve_4 ggL_law_X12_curve_5))))) gc_wsX120)
set_option maxRecDepth 20000 in
theorem gL_law_X12_curve : GoodIn wsL_law (wsV RL 118 RX12 yX12_curve wsX12_curve) := goodIn_app (goodIn_of _ (by decide +kernel)) ggL_law_X12_curve
set_option maxRecDepth 20000 in
theorem ggL_law_X11_spent_0 : GoodIn wsL_law [.fieldLink RX11 26 "TwoTierStore" "state" "LTwoTierStore$State;", .fieldLink RX11 127 "TwoTierStore$State" "wares" "LTwoTierStore$Wares;", .fieldLink RX11 143 "TwoTierStore$State" "log" "LTwoTierStore$Log;", .fieldLink RX11 175 "TwoTierStore$Log" "count" "I", .fieldLink RX11 229 "TwoTierStore$Log" "asked" "[I", .fieldLink RX11 232 "TwoTierStore$Log" "paid" "[I", .methodLink RX11 182 yX10_has, .instanceMethod yX10_has, .selects RX10 yX10_has yX10_has, .initialized RX10, .code yX10_has cX10_has 2 (some .boolean), .fieldLink RX10 24 "TwoTierStore$Wares" "count" "I", .methodLink RX11 236 yX11_spentIn, .static yX11_spentIn, .initialized RX11, .code yX11_spentIn cX11_spentIn 2 (some .int)] := goodIn_r _ [23, 469, 472, 473, 768, 769, 501, 502, 503, 18, 504, 323, 1136, 1137, 2, 1138] (by decide +kernel) (by decide +kernel)
set_option maxRecDepth 20000 in
theorem ggL_law_X11_spent_c : GoodIn wsL_law [.code yX11_spent cX11_spent 5 (some .int)] := goodIn_r _ [1135] (by decide +kernel) (by decide +kernel)
theorem ggL_law_X11_spent : GoodIn wsL_law wsX11_spent := goodIn_app (a := [.code yX11_spent cX11_spent 5 (some .int)]) ggL_law_X11_spent_c (goodIn_app (goodIn_app (goodIn_app (goodIn_app ggL_law_X11_spent_0 gc_wsX110) gc_wsX90) gc_wsX40) gc_wsX100)
set_option maxRecDepth 20000 in
theorem gL_law_X11_spent : GoodIn wsL_law (wsV RL 119 RX11 yX11_spent wsX11_spent) := goodIn_app (goodIn_of _ (by decide +kernel)) ggL_law_X11_spent
set_option maxRecDepth 20000 in
theorem ggL_law_X12_spent_0 : GoodIn wsL_law [.fieldLink RX12 7 "TwoTierStoreModel" "s" "[I", .methodLink RX12 242 yX12_isItem, .instanceMethod yX12_isItem, .selects RX12 yX12_isItem yX12_isItem, .initialized RX12, .code yX12_isItem cX12_isItem 2 (some .boolean), .methodLink RX12 83 yX12_isIn, .static yX12_isIn, .code yX12_isIn cX12_isIn 3 (some .boolean)] := goodIn_r _ [142, 514, 515, 516, 5, 517, 403, 404, 405] (by decide +kernel) (by decide +kernel)
set_option maxRecDepth 20000 in
theorem ggL_law_X12_spent_c : GoodIn wsL_law [.code yX12_spent cX12_spent 5 (some .int)] := goodIn_r _ [1142] (by decide +kernel) (by decide +kernel)
theorem ggL_law_X12_spent : GoodIn wsL_law wsX12_spent := goodIn_app (a := [.code yX12_spent cX12_spent 5 (some .int)]) ggL_law_X12_spent_c (goodIn_app ggL_law_X12_spent_0 gc_wsX120)
set_option maxRecDepth 20000 in
theorem gL_law_X12_spent : GoodIn wsL_law (wsV RL 122 RX12 yX12_spent wsX12_spent) := goodIn_app (goodIn_of _ (by decide +kernel)) ggL_law_X12_spent
set_option maxRecDepth 20000 in
theorem ggL_law_X11_picture_0 : GoodIn wsL_law [.fieldLink RX11 26 "TwoTierStore" "state" "LTwoTierStore$State;", .fieldLink RX11 127 "TwoTierStore$State" "wares" "LTwoTierStore$Wares;", .fieldLink RX11 121 "TwoTierStore$Wares" "count" "I", .fieldLink RX11 160 "TwoTierStore$State" "shelf" "LTwoTierStore$Shelf;", .fieldLink RX11 185 "TwoTierStore$Wares" "size" "[I", .fieldLink RX11 84 "TwoTierStore" "drawing" "[I", .fieldLink RX11 163 "TwoTierStore$Shelf" "room" "I", .fieldLink RX11 215 "TwoTierStore" "drawingLength" "I", .methodLink RX11 208 yX8_holds, .instanceMethod yX8_holds, .selects RX8 yX8_holds yX8_holds, .initialized RX8, .code yX8_holds cX8_holds 2 (some .boolean), .fieldLink RX8 29 "TwoTierStore$Shelf" "fast" "I", .methodLink RX11 211 yX10_firstLetter, .instanceMethod yX10_firstLetter, .selects RX10 yX10_firstLetter yX10_firstLetter, .initialized RX10, .code yX10_firstLetter cX10_firstLetter 2 (some .int), .fieldLink RX10 21 "TwoTierStore$Wares" "name" "[I"] := goodIn_r _ [23, 469, 203, 466, 495, 52, 467, 1147, 826, 584, 585, 39, 586, 348, 1148, 1149, 1150, 18, 1151, 66] (by decide +kernel) (by decide +kernel)
set_option maxRecDepth 20000 in
theorem ggL_law_X11_picture_c : GoodIn wsL_law [.code yX11_picture cX11_picture 5 (some .int)] := goodIn_r _ [1146] (by decide +kernel) (by decide +kernel)
theorem ggL_law_X11_picture : GoodIn wsL_law wsX11_picture := goodIn_app (a := [.code yX11_picture cX11_picture 5 (some .int)]) ggL_law_X11_picture_c (goodIn_app (goodIn_app (goodIn_app (goodIn_app ggL_law_X11_picture_0 gc_wsX110) gc_wsX90) gc_wsX100) gc_wsX80)
set_option maxRecDepth 20000 in
theorem gL_law_X11_picture : GoodIn wsL_law (wsV RL 123 RX11 yX11_picture wsX11_picture) := goodIn_app (goodIn_of _ (by decide +kernel)) ggL_law_X11_picture
