set_option maxRecDepth 20000 in
theorem ggL_law_X12_fault : GoodIn wsL_law wsX12_fault := goodIn_r _ [595, 170, 973, 974, 975, 976, 977, 978, 979, 980, 981, 982, 983, 984, 985, 986, 987, 988, 989, 990, 991, 992, 993, 994, 995, 996, 997, 998, 999, 1000, 1001, 1002, 1003, 1004, 1005, 1006, 1007, 1008, 1009, 1010, 1011, 1012, 1013, 1014, 1015, 1016, 1017, 1018, 1019, 1020, 1021, 1022, 1023, 1024, 1025, 1026] (by decide +kernel) (by decide +kernel)
set_option maxRecDepth 20000 in
theorem gL_law_X12_fault : GoodIn wsL_law (wsV RL 62 RX12 yX12_fault wsX12_fault) := goodIn_app (goodIn_of _ (by decide +kernel)) ggL_law_X12_fault
set_option maxRecDepth 20000 in
theorem ggL_law_X11_fast : GoodIn wsL_law wsX11_fast := goodIn_r _ [599, 19, 31, 209, 210, 2, 211, 181, 182, 183, 600, 601, 602, 18, 603, 60, 604, 271, 272, 273, 240, 63, 234, 235, 605, 606, 607, 30, 608, 90, 609, 610, 611, 612, 409, 89, 613, 614, 615, 616, 91, 92, 93, 617, 618, 619, 620, 621, 622, 623, 624, 625, 626, 627, 628, 629, 630, 958, 959, 960, 961, 962, 963, 964, 965, 966, 967, 968, 969, 970, 971, 972, 1031, 1032, 1033, 1034, 1035, 1036, 1037, 1048, 1049, 1050, 1051, 1052, 1053] (by decide +kernel) (by decide +kernel)
set_option maxRecDepth 20000 in
theorem gL_law_X11_fast : GoodIn wsL_law (wsV RL 63 RX11 yX11_fast wsX11_fast) := goodIn_app (goodIn_of _ (by decide +kernel)) ggL_law_X11_fast
set_option maxRecDepth 20000 in
theorem ggL_law_X12_fast : GoodIn wsL_law wsX12_fast := goodIn_r _ [634, 226, 227, 5, 228, 195, 196, 197, 635, 636, 637, 638, 171, 174, 175, 173, 639, 640, 641, 642, 556, 172, 643, 644, 645, 646, 145, 647, 275, 276, 277, 166, 278, 279, 280, 281, 265, 167, 144, 648, 649, 650, 651, 652, 653, 654, 655, 656, 657, 658, 659, 973, 974, 975, 976, 977, 978, 979, 980, 981, 982, 983, 984, 985, 986, 987, 988, 989, 990, 991, 992, 993, 994, 995, 996, 997, 998, 999, 1000, 1001, 1002, 1003, 1004, 1005, 1006, 1007, 1008, 1009, 1010, 1011, 1012, 1013, 1014, 1015, 1016, 1017, 1018, 1019, 1020, 1021, 1022, 1023, 1024, 1025, 1026] (by decide +kernel) (by decide +kernel)
set_option maxRecDepth 20000 in
theorem gL_law_X12_fast : GoodIn wsL_law (wsV RL 66 RX12 yX12_fast wsX12_fast) := goodIn_app (goodIn_of _ (by decide +kernel)) ggL_law_X12_fast
set_option maxRecDepth 20000 in
theorem ggL_law_X11_gift : GoodIn wsL_law wsX11_gift := goodIn_r _ [663, 43, 181, 182, 2, 183, 233, 234, 235, 664, 665, 666, 42, 667, 668, 123, 125, 124, 958, 959, 960, 961, 962, 963, 964, 965, 966, 967, 968, 969, 970, 971, 972, 1064, 1065, 1066, 1067, 1068, 1069, 1070, 1071, 1072, 1073, 1074] (by decide +kernel) (by decide +kernel)
set_option maxRecDepth 20000 in
theorem gL_law_X11_gift : GoodIn wsL_law (wsV RL 67 RX11 yX11_gift wsX11_gift) := goodIn_app (goodIn_of _ (by decide +kernel)) ggL_law_X11_gift
set_option maxRecDepth 20000 in
theorem ggL_law_X12_gift : GoodIn wsL_law wsX12_gift := goodIn_r _ [672, 673, 146, 148, 147, 149, 194, 195, 196, 5, 197, 973, 974, 975, 976, 977, 978, 979, 980, 981, 982, 983, 984, 985, 986, 987, 988, 989, 990, 991, 992, 993, 994, 995, 996, 997, 998, 999, 1000, 1001, 1002, 1003, 1004, 1005, 1006, 1007, 1008, 1009, 1010, 1011, 1012, 1013, 1014, 1015, 1016, 1017, 1018, 1019, 1020, 1021, 1022, 1023, 1024, 1025, 1026] (by decide +kernel) (by decide +kernel)
set_option maxRecDepth 20000 in
theorem gL_law_X12_gift : GoodIn wsL_law (wsV RL 71 RX12 yX12_gift wsX12_gift) := goodIn_app (goodIn_of _ (by decide +kernel)) ggL_law_X12_gift
set_option maxRecDepth 20000 in
theorem ggL_law_X11_leave : GoodIn wsL_law wsX11_leave := goodIn_r _ [677, 43, 678, 679, 680, 42, 681, 668, 206, 207, 2, 208, 209, 210, 211, 181, 182, 183, 682, 683, 684, 685, 686, 129, 130, 131, 958, 959, 960, 961, 962, 963, 964, 965, 966, 967, 968, 969, 970, 971, 972, 1064, 1065, 1066, 1067, 1068, 1069, 1070, 1071, 1072, 1073, 1074] (by decide +kernel) (by decide +kernel)
set_option maxRecDepth 20000 in
theorem gL_law_X11_leave : GoodIn wsL_law (wsV RL 72 RX11 yX11_leave wsX11_leave) := goodIn_app (goodIn_of _ (by decide +kernel)) ggL_law_X11_leave
set_option maxRecDepth 20000 in
theorem ggL_law_X12_leave : GoodIn wsL_law wsX12_leave := goodIn_r _ [690, 691, 153, 154, 155, 692, 693, 694, 5, 695, 673, 195, 196, 197, 226, 227, 228, 973, 974, 975, 976, 977, 978, 979, 980, 981, 982, 983, 984, 985, 986, 987, 988, 989, 990, 991, 992, 993, 994, 995, 996, 997, 998, 999, 1000, 1001, 1002, 1003, 1004, 1005, 1006, 1007, 1008, 1009, 1010, 1011, 1012, 1013, 1014, 1015, 1016, 1017, 1018, 1019, 1020, 1021, 1022, 1023, 1024, 1025, 1026] (by decide +kernel) (by decide +kernel)
set_option maxRecDepth 20000 in
theorem gL_law_X12_leave : GoodIn wsL_law (wsV RL 75 RX12 yX12_leave wsX12_leave) := goodIn_app (goodIn_of _ (by decide +kernel)) ggL_law_X12_leave
set_option maxRecDepth 20000 in
theorem ggL_law_X11_giftOf : GoodIn wsL_law wsX11_giftOf := goodIn_r _ [699, 43, 700, 701, 702, 42, 703, 126, 127, 128, 704, 679, 680, 681, 668, 958, 959, 960, 961, 962, 963, 964, 965, 966, 967, 968, 969, 970, 971, 972, 1064, 1065, 1066, 1067, 1068, 1069, 1070, 1071, 1072, 1073, 1074] (by decide +kernel) (by decide +kernel)
set_option maxRecDepth 20000 in
theorem gL_law_X11_giftOf : GoodIn wsL_law (wsV RL 76 RX11 yX11_giftOf wsX11_giftOf) := goodIn_app (goodIn_of _ (by decide +kernel)) ggL_law_X11_giftOf
set_option maxRecDepth 20000 in
theorem ggL_law_X12_giftOf : GoodIn wsL_law wsX12_giftOf := goodIn_r _ [708, 150, 151, 152, 692, 693, 694, 5, 695, 673, 195, 196, 197, 973, 974, 975, 976, 977, 978, 979, 980, 981, 982, 983, 984, 985, 986, 987, 988, 989, 990, 991, 992, 993, 994, 995, 996, 997, 998, 999, 1000, 1001, 1002, 1003, 1004, 1005, 1006, 1007, 1008, 1009, 1010, 1011, 1012, 1013, 1014, 1015, 1016, 1017, 1018, 1019, 1020, 1021, 1022, 1023, 1024, 1025, 1026] (by decide +kernel) (by decide +kernel)
set_option maxRecDepth 20000 in
theorem gL_law_X12_giftOf : GoodIn wsL_law (wsV RL 79 RX12 yX12_giftOf wsX12_giftOf) := goodIn_app (goodIn_of _ (by decide +kernel)) ggL_law_X12_giftOf
set_option maxRecDepth 20000 in
theorem ggL_law_X11_store : GoodIn wsL_law wsX11_store := goodIn_r _ [712, 713, 714, 181, 182, 2, 183, 958, 959, 960, 961, 962, 963, 964, 965, 966, 967, 968, 969, 970, 971, 972] (by decide +kernel) (by decide +kernel)
set_option maxRecDepth 20000 in
theorem gL_law_X11_store : GoodIn wsL_law (wsV RL 80 RX11 yX11_store wsX11_store) := goodIn_app (goodIn_of _ (by decide +kernel)) ggL_law_X11_store
set_option maxRecDepth 20000 in
theorem ggL_law_X12_store : GoodIn wsL_law wsX12_store := goodIn_r _ [718, 719, 720, 195, 196, 5, 197, 973, 974, 975, 976, 977, 978, 979, 980, 981, 982, 983, 984, 985, 986, 987, 988, 989, 990, 991, 992, 993, 994, 995, 996, 997, 998, 999, 1000, 1001, 1002, 1003, 1004, 1005, 1006, 1007, 1008, 1009, 1010, 1011, 1012, 1013, 1014, 1015, 1016, 1017, 1018, 1019, 1020, 1021, 1022, 1023, 1024, 1025, 1026] (by decide +kernel) (by decide +kernel)
set_option maxRecDepth 20000 in
theorem gL_law_X12_store : GoodIn wsL_law (wsV RL 83 RX12 yX12_store wsX12_store) := goodIn_app (goodIn_of _ (by decide +kernel)) ggL_law_X12_store
set_option maxRecDepth 20000 in
theorem ggL_law_X11_guests : GoodIn wsL_law wsX11_guests := goodIn_r _ [724, 725, 726, 181, 182, 2, 183, 958, 959, 960, 961, 962, 963, 964, 965, 966, 967, 968, 969, 970, 971, 972] (by decide +kernel) (by decide +kernel)
set_option maxRecDepth 20000 in
theorem gL_law_X11_guests : GoodIn wsL_law (wsV RL 84 RX11 yX11_guests wsX11_guests) := goodIn_app (goodIn_of _ (by decide +kernel)) ggL_law_X11_guests
set_option maxRecDepth 20000 in
theorem ggL_law_X12_guests : GoodIn wsL_law wsX12_guests := goodIn_r _ [730, 159, 195, 196, 5, 197, 731, 732, 733, 734, 973, 974, 975, 976, 977, 978, 979, 980, 981, 982, 983, 984, 985, 986, 987, 988, 989, 990, 991, 992, 993, 994, 995, 996, 997, 998, 999, 1000, 1001, 1002, 1003, 1004, 1005, 1006, 1007, 1008, 1009, 1010, 1011, 1012, 1013, 1014, 1015, 1016, 1017, 1018, 1019, 1020, 1021, 1022, 1023, 1024, 1025, 1026] (by decide +kernel) (by decide +kernel)
