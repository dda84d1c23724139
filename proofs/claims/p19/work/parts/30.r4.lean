set_option maxRecDepth 20000 in
theorem gL_law_X11_dayOf : GoodIn wsL_law (wsV RL 104 RX11 yX11_dayOf wsX11_dayOf) := goodIn_app (goodIn_of _ (by decide +kernel)) ggL_law_X11_dayOf
set_option maxRecDepth 20000 in
theorem ggL_law_X12_dayOf : GoodIn wsL_law wsX12_dayOf := goodIn_r _ [933, 161, 162, 163, 164, 165, 896, 897, 898, 5, 899, 194, 195, 196, 197, 973, 974, 975, 976, 977, 978, 979, 980, 981, 982, 983, 984, 985, 986, 987, 988, 989, 990, 991, 992, 993, 994, 995, 996, 997, 998, 999, 1000, 1001, 1002, 1003, 1004, 1005, 1006, 1007, 1008, 1009, 1010, 1011, 1012, 1013, 1014, 1015, 1016, 1017, 1018, 1019, 1020, 1021, 1022, 1023, 1024, 1025, 1026] (by decide +kernel) (by decide +kernel)
set_option maxRecDepth 20000 in
theorem gL_law_X12_dayOf : GoodIn wsL_law (wsV RL 107 RX12 yX12_dayOf wsX12_dayOf) := goodIn_app (goodIn_of _ (by decide +kernel)) ggL_law_X12_dayOf
set_option maxRecDepth 20000 in
theorem ggL_law_X11_count : GoodIn wsL_law wsX11_count := goodIn_r _ [937, 180, 35, 19, 43, 713, 725, 31, 742, 23, 829, 768, 769, 34, 770, 188, 938, 939, 940, 18, 941, 240, 942, 943, 944, 42, 945, 668, 946, 947, 948, 30, 949, 409, 842, 843, 844, 845, 126, 846, 847, 848, 849, 950, 951, 952, 953, 127, 388, 389, 390, 22, 391, 383, 958, 959, 960, 961, 962, 963, 964, 965, 966, 967, 968, 969, 970, 971, 972, 1054, 1055, 1056, 1057, 1058, 1059, 1060, 1061, 1031, 1032, 1033, 1034, 1035, 1036, 1037, 1064, 1065, 1066, 1067, 1068, 1069, 1070, 1071, 1072, 1073, 1074, 1048, 1049, 1050, 1051, 1052, 1053, 1038, 1039] (by decide +kernel) (by decide +kernel)
set_option maxRecDepth 20000 in
theorem gL_law_X11_count : GoodIn wsL_law (wsV RL 108 RX11 yX11_count wsX11_count) := goodIn_app (goodIn_of _ (by decide +kernel)) ggL_law_X11_count
set_option maxRecDepth 20000 in
theorem ggL_law_X12_count : GoodIn wsL_law wsX12_count := goodIn_r _ [957, 194, 193, 265, 673, 719, 556, 150, 151, 855, 396, 731, 732, 733, 5, 734, 159, 973, 974, 975, 976, 977, 978, 979, 980, 981, 982, 983, 984, 985, 986, 987, 988, 989, 990, 991, 992, 993, 994, 995, 996, 997, 998, 999, 1000, 1001, 1002, 1003, 1004, 1005, 1006, 1007, 1008, 1009, 1010, 1011, 1012, 1013, 1014, 1015, 1016, 1017, 1018, 1019, 1020, 1021, 1022, 1023, 1024, 1025, 1026] (by decide +kernel) (by decide +kernel)
set_option maxRecDepth 20000 in
theorem gL_law_X12_count : GoodIn wsL_law (wsV RL 111 RX12 yX12_count wsX12_count) := goodIn_app (goodIn_of _ (by decide +kernel)) ggL_law_X12_count
