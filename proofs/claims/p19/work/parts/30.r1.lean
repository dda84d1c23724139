set_option maxRecDepth 20000 in
theorem gL_law_X12_when : GoodIn wsL_law (wsV RL 36 RX12 yX12_when wsX12_when) := goodIn_app (goodIn_of _ (by decide +kernel)) ggL_law_X12_when
set_option maxRecDepth 20000 in
theorem ggL_law_X11_light : GoodIn wsL_law wsX11_light := goodIn_r _ [297, 233, 234, 2, 235, 181, 182, 183, 298, 299, 300, 301, 302, 303, 304, 305, 306, 307, 308, 309] (by decide +kernel) (by decide +kernel)
set_option maxRecDepth 20000 in
theorem gL_law_X11_light : GoodIn wsL_law (wsV RL 37 RX11 yX11_light wsX11_light) := goodIn_app (goodIn_of _ (by decide +kernel)) ggL_law_X11_light
set_option maxRecDepth 20000 in
theorem ggL_law_X12_light : GoodIn wsL_law wsX12_light := goodIn_r _ [313, 195, 196, 5, 197, 314, 315, 316, 317, 318, 319, 320, 321, 322] (by decide +kernel) (by decide +kernel)
set_option maxRecDepth 20000 in
theorem gL_law_X12_light : GoodIn wsL_law (wsV RL 40 RX12 yX12_light wsX12_light) := goodIn_app (goodIn_of _ (by decide +kernel)) ggL_law_X12_light
set_option maxRecDepth 20000 in
theorem ggL_law_X11_office : GoodIn wsL_law wsX11_office := goodIn_r _ [326, 15, 209, 210, 2, 211, 181, 182, 183, 327, 328, 329, 330, 331, 332, 14, 333, 55, 334, 335, 336, 337, 338, 53, 54, 339, 340, 300, 341, 305, 299, 301, 309, 303, 304, 958, 959, 960, 961, 962, 963, 964, 965, 966, 967, 968, 969, 970, 971, 972, 1027, 1028, 1029, 1030] (by decide +kernel) (by decide +kernel)
set_option maxRecDepth 20000 in
theorem gL_law_X11_office : GoodIn wsL_law (wsV RL 41 RX11 yX11_office wsX11_office) := goodIn_app (goodIn_of _ (by decide +kernel)) ggL_law_X11_office
set_option maxRecDepth 20000 in
theorem ggL_law_X12_office : GoodIn wsL_law wsX12_office := goodIn_r _ [345, 226, 227, 5, 228, 195, 196, 197, 346, 347, 348, 349, 158, 350, 351, 352, 353, 354, 156, 157, 355, 356, 357, 317, 318, 319, 314, 315, 316, 320, 321, 322, 973, 974, 975, 976, 977, 978, 979, 980, 981, 982, 983, 984, 985, 986, 987, 988, 989, 990, 991, 992, 993, 994, 995, 996, 997, 998, 999, 1000, 1001, 1002, 1003, 1004, 1005, 1006, 1007, 1008, 1009, 1010, 1011, 1012, 1013, 1014, 1015, 1016, 1017, 1018, 1019, 1020, 1021, 1022, 1023, 1024, 1025, 1026] (by decide +kernel) (by decide +kernel)
set_option maxRecDepth 20000 in
theorem gL_law_X12_office : GoodIn wsL_law (wsV RL 44 RX12 yX12_office wsX12_office) := goodIn_app (goodIn_of _ (by decide +kernel)) ggL_law_X12_office
set_option maxRecDepth 20000 in
theorem ggL_law_X11_late : GoodIn wsL_law wsX11_late := goodIn_r _ [361, 180, 15, 209, 210, 2, 211, 181, 182, 183, 327, 328, 329, 362, 363, 364, 14, 365, 338, 53, 54, 55, 339, 340, 300, 341, 305, 299, 301, 309, 303, 304, 366, 367, 368, 369, 370, 331, 332, 333, 334, 335, 336, 337, 958, 959, 960, 961, 962, 963, 964, 965, 966, 967, 968, 969, 970, 971, 972, 1027, 1028, 1029, 1030] (by decide +kernel) (by decide +kernel)
set_option maxRecDepth 20000 in
theorem gL_law_X11_late : GoodIn wsL_law (wsV RL 45 RX11 yX11_late wsX11_late) := goodIn_app (goodIn_of _ (by decide +kernel)) ggL_law_X11_late
set_option maxRecDepth 20000 in
theorem ggL_law_X12_late : GoodIn wsL_law wsX12_late := goodIn_r _ [374, 194, 354, 156, 157, 158, 195, 196, 5, 197, 355, 356, 357, 317, 318, 319, 314, 315, 316, 320, 321, 322, 346, 347, 348, 349, 350, 351, 352, 353, 973, 974, 975, 976, 977, 978, 979, 980, 981, 982, 983, 984, 985, 986, 987, 988, 989, 990, 991, 992, 993, 994, 995, 996, 997, 998, 999, 1000, 1001, 1002, 1003, 1004, 1005, 1006, 1007, 1008, 1009, 1010, 1011, 1012, 1013, 1014, 1015, 1016, 1017, 1018, 1019, 1020, 1021, 1022, 1023, 1024, 1025, 1026] (by decide +kernel) (by decide +kernel)
set_option maxRecDepth 20000 in
theorem gL_law_X12_late : GoodIn wsL_law (wsV RL 48 RX12 yX12_late wsX12_late) := goodIn_app (goodIn_of _ (by decide +kernel)) ggL_law_X12_late
set_option maxRecDepth 20000 in
theorem ggL_law_X11_feed : GoodIn wsL_law wsX11_feed := goodIn_r _ [378, 23, 379, 380, 381, 22, 382, 383, 384, 385, 386, 387, 69, 388, 389, 390, 391, 958, 959, 960, 961, 962, 963, 964, 965, 966, 967, 968, 969, 970, 971, 972, 1038, 1039] (by decide +kernel) (by decide +kernel)
set_option maxRecDepth 20000 in
theorem gL_law_X11_feed : GoodIn wsL_law (wsV RL 49 RX11 yX11_feed wsX11_feed) := goodIn_app (goodIn_of _ (by decide +kernel)) ggL_law_X11_feed
set_option maxRecDepth 20000 in
theorem ggL_law_X12_feed : GoodIn wsL_law wsX12_feed := goodIn_r _ [395, 396, 397, 398, 399, 5, 400, 168, 973, 974, 975, 976, 977, 978, 979, 980, 981, 982, 983, 984, 985, 986, 987, 988, 989, 990, 991, 992, 993, 994, 995, 996, 997, 998, 999, 1000, 1001, 1002, 1003, 1004, 1005, 1006, 1007, 1008, 1009, 1010, 1011, 1012, 1013, 1014, 1015, 1016, 1017, 1018, 1019, 1020, 1021, 1022, 1023, 1024, 1025, 1026] (by decide +kernel) (by decide +kernel)
set_option maxRecDepth 20000 in
theorem gL_law_X12_feed : GoodIn wsL_law (wsV RL 53 RX12 yX12_feed wsX12_feed) := goodIn_app (goodIn_of _ (by decide +kernel)) ggL_law_X12_feed
set_option maxRecDepth 20000 in
theorem ggL_law_X11_rule : GoodIn wsL_law wsX11_rule := goodIn_r _ [404, 23, 31, 27, 48, 180, 388, 389, 390, 22, 391, 383, 181, 182, 2, 183, 405, 406, 407, 30, 408, 409, 410, 411, 412, 26, 413, 76, 414, 415, 77, 78, 416, 79, 417, 418, 419, 420, 75, 421, 422, 423, 424, 115, 116, 117, 425, 426, 427, 428, 69, 429, 430, 431, 432, 433, 434, 435, 436, 437, 438, 439, 440, 441, 442, 443, 444, 445, 83, 84, 85, 446, 447, 448, 449, 450, 451, 452, 453, 454, 455, 456, 457, 458, 459, 460, 461, 462, 463, 464, 465, 466, 467, 468, 469, 470, 471, 472, 473, 474, 475, 476, 477, 478, 479, 480, 481, 482, 483, 484, 485, 486, 487, 488, 489, 490, 491, 492, 493, 494, 495, 496, 497, 498, 499, 500, 501, 502, 503, 504, 505, 506, 507, 508, 509, 510, 511, 512, 513, 514, 515, 516, 517, 518, 519, 520, 521, 522, 523, 524, 525, 526, 527, 528, 529, 530, 531, 532, 533, 534, 535, 536, 537, 538, 539, 540, 541, 542, 543, 544, 545, 546, 547, 548, 549, 550, 89, 90, 91, 92, 93, 551, 958, 959, 960, 961, 962, 963, 964, 965, 966, 967, 968, 969, 970, 971, 972, 1038, 1039, 1048, 1049, 1050, 1051, 1052, 1053, 1040, 1041, 1042, 1043, 1044, 1045, 1046, 1047, 1077, 1078, 1079, 1080, 1081] (by decide +kernel) (by decide +kernel)
set_option maxRecDepth 20000 in
theorem gL_law_X11_rule : GoodIn wsL_law (wsV RL 54 RX11 yX11_rule wsX11_rule) := goodIn_app (goodIn_of _ (by decide +kernel)) ggL_law_X11_rule
set_option maxRecDepth 20000 in
theorem ggL_law_X12_rule : GoodIn wsL_law wsX12_rule := goodIn_r _ [555, 396, 556, 169, 168, 557, 558, 171, 170, 172, 194, 195, 196, 5, 197, 559, 560, 561, 562, 563, 564, 565, 566, 567, 173, 568, 569, 174, 570, 571, 175, 572, 573, 574, 575, 576, 577, 578, 579, 580, 581, 582, 583, 584, 585, 586, 587, 973, 974, 975, 976, 977, 978, 979, 980, 981, 982, 983, 984, 985, 986, 987, 988, 989, 990, 991, 992, 993, 994, 995, 996, 997, 998, 999, 1000, 1001, 1002, 1003, 1004, 1005, 1006, 1007, 1008, 1009, 1010, 1011, 1012, 1013, 1014, 1015, 1016, 1017, 1018, 1019, 1020, 1021, 1022, 1023, 1024, 1025, 1026] (by decide +kernel) (by decide +kernel)
set_option maxRecDepth 20000 in
theorem gL_law_X12_rule : GoodIn wsL_law (wsV RL 57 RX12 yX12_rule wsX12_rule) := goodIn_app (goodIn_of _ (by decide +kernel)) ggL_law_X12_rule
set_option maxRecDepth 20000 in
theorem ggL_law_X11_fault : GoodIn wsL_law wsX11_fault := goodIn_r _ [591, 48, 958, 959, 960, 961, 962, 963, 964, 965, 966, 967, 968, 969, 970, 971, 972] (by decide +kernel) (by decide +kernel)
set_option maxRecDepth 20000 in
theorem gL_law_X11_fault : GoodIn wsL_law (wsV RL 58 RX11 yX11_fault wsX11_fault) := goodIn_app (goodIn_of _ (by decide +kernel)) ggL_law_X11_fault
