set_option maxRecDepth 20000 in
theorem ggL_law_X11_init : GoodIn wsL_law wsX11_init := goodIn_r _ [8, 9, 10, 11, 12, 13, 14, 15, 16, 17, 18, 19, 20, 21, 22, 23, 24, 25, 26, 27, 28, 29, 30, 31, 32, 33, 34, 35, 36, 37, 38, 39, 40, 41, 42, 43, 44, 45, 46, 47, 48, 49, 50, 51, 52, 53, 54, 55, 56, 57, 58, 59, 60, 61, 62, 63, 64, 65, 66, 67, 68, 69, 70, 71, 72, 73, 74, 75, 76, 77, 78, 79, 80, 81, 82, 83, 84, 85, 86, 87, 88, 89, 90, 91, 92, 93, 94, 95, 96, 97, 98, 99, 100, 101, 102, 103, 104, 105, 106, 107, 108, 109, 110, 111, 112, 113, 114, 115, 116, 117, 118, 119, 120, 121, 122, 123, 124, 125, 126, 127, 128, 129, 130, 131, 132, 1027, 1028, 1029, 1030, 958, 959, 960, 961, 962, 963, 964, 965, 966, 967, 968, 969, 970, 971, 972, 1031, 1032, 1033, 1034, 1035, 1036, 1037, 1038, 1039, 1040, 1041, 1042, 1043, 1044, 1045, 1046, 1047, 1048, 1049, 1050, 1051, 1052, 1053, 1054, 1055, 1056, 1057, 1058, 1059, 1060, 1061, 1062, 1063, 1064, 1065, 1066, 1067, 1068, 1069, 1070, 1071, 1072, 1073, 1074, 1075, 1076, 1077, 1078, 1079, 1080, 1081] (by decide +kernel) (by decide +kernel)
set_option maxRecDepth 20000 in
theorem gL_law_X11_init : GoodIn wsL_law (wsX11_init) := ggL_law_X11_init
set_option maxRecDepth 20000 in
theorem ggL_law_X12_init : GoodIn wsL_law wsX12_init := goodIn_r _ [135, 136, 10, 11, 97, 137, 52, 138, 139, 140, 141, 142, 143, 144, 145, 146, 147, 148, 149, 150, 151, 152, 153, 154, 155, 156, 157, 158, 159, 160, 161, 162, 163, 164, 165, 166, 167, 68, 168, 169, 170, 171, 172, 173, 174, 175, 973, 974, 975, 976, 977, 978, 979, 980, 981, 982, 983, 984, 985, 986, 987, 988, 989, 990, 991, 992, 993, 994, 995, 996, 997, 998, 999, 1000, 1001, 1002, 1003, 1004, 1005, 1006, 1007, 1008, 1009, 1010, 1011, 1012, 1013, 1014, 1015, 1016, 1017, 1018, 1019, 1020, 1021, 1022, 1023, 1024, 1025, 1026] (by decide +kernel) (by decide +kernel)
set_option maxRecDepth 20000 in
theorem gL_law_X12_init : GoodIn wsL_law (wsX12_init) := ggL_law_X12_init
set_option maxRecDepth 20000 in
theorem ggL_law_X11_monk : GoodIn wsL_law wsX11_monk := goodIn_r _ [179, 35, 180, 181, 182, 2, 183, 184, 185, 186, 34, 187, 188, 98, 99, 100, 958, 959, 960, 961, 962, 963, 964, 965, 966, 967, 968, 969, 970, 971, 972, 1054, 1055, 1056, 1057, 1058, 1059, 1060, 1061] (by decide +kernel) (by decide +kernel)
set_option maxRecDepth 20000 in
theorem gL_law_X11_monk : GoodIn wsL_law (wsV RL 13 RX11 yX11_monk wsX11_monk) := goodIn_app (goodIn_of _ (by decide +kernel)) ggL_law_X11_monk
set_option maxRecDepth 20000 in
theorem ggL_law_X12_monk : GoodIn wsL_law wsX12_monk := goodIn_r _ [192, 193, 137, 138, 139, 194, 195, 196, 5, 197, 973, 974, 975, 976, 977, 978, 979, 980, 981, 982, 983, 984, 985, 986, 987, 988, 989, 990, 991, 992, 993, 994, 995, 996, 997, 998, 999, 1000, 1001, 1002, 1003, 1004, 1005, 1006, 1007, 1008, 1009, 1010, 1011, 1012, 1013, 1014, 1015, 1016, 1017, 1018, 1019, 1020, 1021, 1022, 1023, 1024, 1025, 1026] (by decide +kernel) (by decide +kernel)
set_option maxRecDepth 20000 in
theorem gL_law_X12_monk : GoodIn wsL_law (wsV RL 17 RX12 yX12_monk wsX12_monk) := goodIn_app (goodIn_of _ (by decide +kernel)) ggL_law_X12_monk
set_option maxRecDepth 20000 in
theorem ggL_law_X11_away : GoodIn wsL_law wsX11_away := goodIn_r _ [201, 35, 180, 202, 203, 204, 34, 205, 188, 206, 207, 2, 208, 209, 210, 211, 181, 182, 183, 212, 213, 214, 215, 216, 101, 102, 103, 958, 959, 960, 961, 962, 963, 964, 965, 966, 967, 968, 969, 970, 971, 972, 1054, 1055, 1056, 1057, 1058, 1059, 1060, 1061] (by decide +kernel) (by decide +kernel)
set_option maxRecDepth 20000 in
theorem gL_law_X11_away : GoodIn wsL_law (wsV RL 18 RX11 yX11_away wsX11_away) := goodIn_app (goodIn_of _ (by decide +kernel)) ggL_law_X11_away
set_option maxRecDepth 20000 in
theorem ggL_law_X12_away : GoodIn wsL_law wsX12_away := goodIn_r _ [220, 194, 221, 141, 142, 143, 222, 223, 224, 5, 225, 193, 195, 196, 197, 226, 227, 228, 973, 974, 975, 976, 977, 978, 979, 980, 981, 982, 983, 984, 985, 986, 987, 988, 989, 990, 991, 992, 993, 994, 995, 996, 997, 998, 999, 1000, 1001, 1002, 1003, 1004, 1005, 1006, 1007, 1008, 1009, 1010, 1011, 1012, 1013, 1014, 1015, 1016, 1017, 1018, 1019, 1020, 1021, 1022, 1023, 1024, 1025, 1026] (by decide +kernel) (by decide +kernel)
set_option maxRecDepth 20000 in
theorem gL_law_X12_away : GoodIn wsL_law (wsV RL 22 RX12 yX12_away wsX12_away) := goodIn_app (goodIn_of _ (by decide +kernel)) ggL_law_X12_away
set_option maxRecDepth 20000 in
theorem ggL_law_X11_feast : GoodIn wsL_law wsX11_feast := goodIn_r _ [232, 19, 233, 234, 2, 235, 181, 182, 183, 236, 237, 238, 18, 239, 240, 59, 60, 241, 242, 243, 244, 63, 64, 62, 245, 246, 247, 248, 61, 249, 250, 251, 252, 253, 254, 255, 256, 257, 258, 259, 260, 958, 959, 960, 961, 962, 963, 964, 965, 966, 967, 968, 969, 970, 971, 972, 1031, 1032, 1033, 1034, 1035, 1036, 1037] (by decide +kernel) (by decide +kernel)
set_option maxRecDepth 20000 in
theorem gL_law_X11_feast : GoodIn wsL_law (wsV RL 23 RX11 yX11_feast wsX11_feast) := goodIn_app (goodIn_of _ (by decide +kernel)) ggL_law_X11_feast
set_option maxRecDepth 20000 in
theorem ggL_law_X12_feast : GoodIn wsL_law wsX12_feast := goodIn_r _ [264, 265, 144, 145, 195, 196, 5, 197, 973, 974, 975, 976, 977, 978, 979, 980, 981, 982, 983, 984, 985, 986, 987, 988, 989, 990, 991, 992, 993, 994, 995, 996, 997, 998, 999, 1000, 1001, 1002, 1003, 1004, 1005, 1006, 1007, 1008, 1009, 1010, 1011, 1012, 1013, 1014, 1015, 1016, 1017, 1018, 1019, 1020, 1021, 1022, 1023, 1024, 1025, 1026] (by decide +kernel) (by decide +kernel)
set_option maxRecDepth 20000 in
theorem gL_law_X12_feast : GoodIn wsL_law (wsV RL 27 RX12 yX12_feast wsX12_feast) := goodIn_app (goodIn_of _ (by decide +kernel)) ggL_law_X12_feast
set_option maxRecDepth 20000 in
theorem ggL_law_X11_held : GoodIn wsL_law wsX11_held := goodIn_r _ [269, 19, 270, 271, 272, 18, 273, 240, 63, 234, 2, 235, 181, 182, 183, 958, 959, 960, 961, 962, 963, 964, 965, 966, 967, 968, 969, 970, 971, 972, 1031, 1032, 1033, 1034, 1035, 1036, 1037] (by decide +kernel) (by decide +kernel)
set_option maxRecDepth 20000 in
theorem gL_law_X11_held : GoodIn wsL_law (wsV RL 28 RX11 yX11_held wsX11_held) := goodIn_app (goodIn_of _ (by decide +kernel)) ggL_law_X11_held
set_option maxRecDepth 20000 in
theorem ggL_law_X12_held : GoodIn wsL_law wsX12_held := goodIn_r _ [277, 166, 195, 196, 5, 197, 278, 279, 280, 281, 265, 167, 144, 145, 973, 974, 975, 976, 977, 978, 979, 980, 981, 982, 983, 984, 985, 986, 987, 988, 989, 990, 991, 992, 993, 994, 995, 996, 997, 998, 999, 1000, 1001, 1002, 1003, 1004, 1005, 1006, 1007, 1008, 1009, 1010, 1011, 1012, 1013, 1014, 1015, 1016, 1017, 1018, 1019, 1020, 1021, 1022, 1023, 1024, 1025, 1026] (by decide +kernel) (by decide +kernel)
set_option maxRecDepth 20000 in
theorem gL_law_X12_held : GoodIn wsL_law (wsV RL 32 RX12 yX12_held wsX12_held) := goodIn_app (goodIn_of _ (by decide +kernel)) ggL_law_X12_held
set_option maxRecDepth 20000 in
theorem ggL_law_X11_when : GoodIn wsL_law wsX11_when := goodIn_r _ [285, 19, 286, 287, 288, 18, 289, 240, 62, 958, 959, 960, 961, 962, 963, 964, 965, 966, 967, 968, 969, 970, 971, 972, 1031, 1032, 1033, 1034, 1035, 1036, 1037] (by decide +kernel) (by decide +kernel)
set_option maxRecDepth 20000 in
theorem gL_law_X11_when : GoodIn wsL_law (wsV RL 33 RX11 yX11_when wsX11_when) := goodIn_app (goodIn_of _ (by decide +kernel)) ggL_law_X11_when
set_option maxRecDepth 20000 in
theorem ggL_law_X12_when : GoodIn wsL_law wsX12_when := goodIn_r _ [293, 166, 278, 279, 280, 5, 281, 265, 167, 144, 145, 973, 974, 975, 976, 977, 978, 979, 980, 981, 982, 983, 984, 985, 986, 987, 988, 989, 990, 991, 992, 993, 994, 995, 996, 997, 998, 999, 1000, 1001, 1002, 1003, 1004, 1005, 1006, 1007, 1008, 1009, 1010, 1011, 1012, 1013, 1014, 1015, 1016, 1017, 1018, 1019, 1020, 1021, 1022, 1023, 1024, 1025, 1026] (by decide +kernel) (by decide +kernel)
