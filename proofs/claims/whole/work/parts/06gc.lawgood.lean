set_option maxRecDepth 20000 in
theorem ggL_law_X11_steady : GoodIn wsL_law wsX11_steady := goodIn_r _ [854, 51, 195, 196, 2, 197, 855, 856, 857, 50, 858, 139, 859, 138, 860, 861, 862, 863, 864, 523, 351, 524, 865, 866, 867, 868, 869, 870, 871, 872, 140, 873, 874, 875, 876, 1005, 1006, 1007, 1008, 1009, 1010, 1011, 1012, 1013, 1014, 1015, 1101, 1102, 1103] (by decide +kernel) (by decide +kernel)
set_option maxRecDepth 20000 in
theorem gL_law_X11_steady : GoodIn wsL_law (wsV RL 114 RX11 yX11_steady wsX11_steady) := goodIn_app (goodIn_of _ (by decide +kernel)) ggL_law_X11_steady
set_option maxRecDepth 20000 in
theorem ggL_law_X12_steady : GoodIn wsL_law wsX12_steady := goodIn_r _ [880, 767, 234, 235, 5, 236, 881, 882, 883, 884, 175, 174, 176, 885, 886, 887, 1016, 1017, 1018, 1019, 1020, 1021, 1022, 1023, 1024, 1025, 1026, 1027, 1028, 1029, 1030, 1031, 1032, 1033, 1034, 1035, 1036, 1037, 1038, 1039, 1040, 1041, 1042, 1043, 1044, 1045, 1046, 1047, 1048, 1049, 1050, 1051, 1052, 1053, 1054, 1055, 1056] (by decide +kernel) (by decide +kernel)
set_option maxRecDepth 20000 in
theorem gL_law_X12_steady : GoodIn wsL_law (wsV RL 117 RX12 yX12_steady wsX12_steady) := goodIn_app (goodIn_of _ (by decide +kernel)) ggL_law_X12_steady
set_option maxRecDepth 20000 in
theorem ggL_law_X11_unsteady : GoodIn wsL_law wsX11_unsteady := goodIn_r _ [891, 51, 195, 196, 2, 197, 855, 856, 857, 50, 858, 139, 859, 138, 860, 861, 862, 863, 864, 523, 351, 524, 865, 866, 867, 868, 869, 870, 871, 872, 140, 873, 874, 875, 876, 1005, 1006, 1007, 1008, 1009, 1010, 1011, 1012, 1013, 1014, 1015, 1101, 1102, 1103] (by decide +kernel) (by decide +kernel)
set_option maxRecDepth 20000 in
theorem gL_law_X11_unsteady : GoodIn wsL_law (wsV RL 118 RX11 yX11_unsteady wsX11_unsteady) := goodIn_app (goodIn_of _ (by decide +kernel)) ggL_law_X11_unsteady
set_option maxRecDepth 20000 in
theorem ggL_law_X12_unsteady : GoodIn wsL_law wsX12_unsteady := goodIn_r _ [895, 767, 234, 235, 5, 236, 881, 882, 883, 884, 175, 174, 176, 885, 886, 887, 1016, 1017, 1018, 1019, 1020, 1021, 1022, 1023, 1024, 1025, 1026, 1027, 1028, 1029, 1030, 1031, 1032, 1033, 1034, 1035, 1036, 1037, 1038, 1039, 1040, 1041, 1042, 1043, 1044, 1045, 1046, 1047, 1048, 1049, 1050, 1051, 1052, 1053, 1054, 1055, 1056] (by decide +kernel) (by decide +kernel)
set_option maxRecDepth 20000 in
theorem gL_law_X12_unsteady : GoodIn wsL_law (wsV RL 121 RX12 yX12_unsteady wsX12_unsteady) := goodIn_app (goodIn_of _ (by decide +kernel)) ggL_law_X12_unsteady
set_option maxRecDepth 20000 in
theorem ggL_law_X11_cell : GoodIn wsL_law wsX11_cell := goodIn_r _ [899, 55, 900, 901, 2, 902, 195, 196, 197, 903, 904, 905, 54, 906, 144, 1005, 1006, 1007, 1008, 1009, 1010, 1011, 1012, 1013, 1014, 1015, 1104, 1105] (by decide +kernel) (by decide +kernel)
set_option maxRecDepth 20000 in
theorem gL_law_X11_cell : GoodIn wsL_law (wsV RL 122 RX11 yX11_cell wsX11_cell) := goodIn_app (goodIn_of _ (by decide +kernel)) ggL_law_X11_cell
set_option maxRecDepth 20000 in
theorem ggL_law_X12_cell : GoodIn wsL_law wsX12_cell := goodIn_r _ [910, 911, 912, 449, 177, 913, 914, 5, 915, 296, 234, 235, 236, 1016, 1017, 1018, 1019, 1020, 1021, 1022, 1023, 1024, 1025, 1026, 1027, 1028, 1029, 1030, 1031, 1032, 1033, 1034, 1035, 1036, 1037, 1038, 1039, 1040, 1041, 1042, 1043, 1044, 1045, 1046, 1047, 1048, 1049, 1050, 1051, 1052, 1053, 1054, 1055, 1056] (by decide +kernel) (by decide +kernel)
set_option maxRecDepth 20000 in
theorem gL_law_X12_cell : GoodIn wsL_law (wsV RL 125 RX12 yX12_cell wsX12_cell) := goodIn_app (goodIn_of _ (by decide +kernel)) ggL_law_X12_cell
set_option maxRecDepth 20000 in
theorem ggL_law_X11_wind : GoodIn wsL_law wsX11_wind := goodIn_r _ [919, 55, 900, 901, 2, 902, 195, 196, 197, 920, 921, 922, 54, 923, 145, 1005, 1006, 1007, 1008, 1009, 1010, 1011, 1012, 1013, 1014, 1015, 1104, 1105] (by decide +kernel) (by decide +kernel)
set_option maxRecDepth 20000 in
theorem gL_law_X11_wind : GoodIn wsL_law (wsV RL 126 RX11 yX11_wind wsX11_wind) := goodIn_app (goodIn_of _ (by decide +kernel)) ggL_law_X11_wind
set_option maxRecDepth 20000 in
theorem ggL_law_X12_wind : GoodIn wsL_law wsX12_wind := goodIn_r _ [927, 928, 911, 178, 913, 914, 5, 915, 296, 234, 235, 236, 1016, 1017, 1018, 1019, 1020, 1021, 1022, 1023, 1024, 1025, 1026, 1027, 1028, 1029, 1030, 1031, 1032, 1033, 1034, 1035, 1036, 1037, 1038, 1039, 1040, 1041, 1042, 1043, 1044, 1045, 1046, 1047, 1048, 1049, 1050, 1051, 1052, 1053, 1054, 1055, 1056] (by decide +kernel) (by decide +kernel)
set_option maxRecDepth 20000 in
theorem gL_law_X12_wind : GoodIn wsL_law (wsV RL 129 RX12 yX12_wind wsX12_wind) := goodIn_app (goodIn_of _ (by decide +kernel)) ggL_law_X12_wind
set_option maxRecDepth 20000 in
theorem ggL_law_X11_foretell : GoodIn wsL_law wsX11_foretell := goodIn_r _ [932, 55, 15, 241, 242, 243, 2, 244, 23, 245, 246, 247, 22, 248, 77, 195, 196, 197, 337, 338, 339, 14, 340, 60, 933, 934, 935, 54, 936, 145, 144, 937, 830, 831, 832, 1005, 1006, 1007, 1008, 1009, 1010, 1011, 1012, 1013, 1014, 1015, 1061, 1062, 1063, 1064, 1065, 1066, 1067, 1057, 1104, 1105] (by decide +kernel) (by decide +kernel)
set_option maxRecDepth 20000 in
theorem gL_law_X11_foretell : GoodIn wsL_law (wsV RL 130 RX11 yX11_foretell wsX11_foretell) := goodIn_app (goodIn_of _ (by decide +kernel)) ggL_law_X11_foretell
set_option maxRecDepth 20000 in
theorem ggL_law_X12_foretell : GoodIn wsL_law wsX12_foretell := goodIn_r _ [941, 635, 155, 178, 177, 259, 260, 261, 5, 262, 150, 234, 235, 236, 1016, 1017, 1018, 1019, 1020, 1021, 1022, 1023, 1024, 1025, 1026, 1027, 1028, 1029, 1030, 1031, 1032, 1033, 1034, 1035, 1036, 1037, 1038, 1039, 1040, 1041, 1042, 1043, 1044, 1045, 1046, 1047, 1048, 1049, 1050, 1051, 1052, 1053, 1054, 1055, 1056] (by decide +kernel) (by decide +kernel)
set_option maxRecDepth 20000 in
theorem gL_law_X12_foretell : GoodIn wsL_law (wsV RL 133 RX12 yX12_foretell wsX12_foretell) := goodIn_app (goodIn_of _ (by decide +kernel)) ggL_law_X12_foretell
set_option maxRecDepth 20000 in
theorem ggL_law_X11_guess : GoodIn wsL_law wsX11_guess := goodIn_r _ [945, 19, 267, 268, 269, 18, 270, 64, 65, 271, 2, 272, 195, 196, 197, 273, 274, 275, 276, 277, 278, 946, 947, 948, 444, 350, 351, 352, 949, 950, 951, 952, 953, 523, 524, 283, 284, 285, 286, 66, 1005, 1006, 1007, 1008, 1009, 1010, 1011, 1012, 1013, 1014, 1015, 1058, 1059, 1060] (by decide +kernel) (by decide +kernel)
set_option maxRecDepth 20000 in
theorem gL_law_X11_guess : GoodIn wsL_law (wsV RL 134 RX11 yX11_guess wsX11_guess) := goodIn_app (goodIn_of _ (by decide +kernel)) ggL_law_X11_guess
set_option maxRecDepth 20000 in
theorem ggL_law_X12_guess : GoodIn wsL_law wsX12_guess := goodIn_r _ [957, 295, 179, 180, 683, 181, 292, 293, 5, 294, 296, 234, 235, 236, 885, 886, 887, 1016, 1017, 1018, 1019, 1020, 1021, 1022, 1023, 1024, 1025, 1026, 1027, 1028, 1029, 1030, 1031, 1032, 1033, 1034, 1035, 1036, 1037, 1038, 1039, 1040, 1041, 1042, 1043, 1044, 1045, 1046, 1047, 1048, 1049, 1050, 1051, 1052, 1053, 1054, 1055, 1056] (by decide +kernel) (by decide +kernel)
set_option maxRecDepth 20000 in
theorem gL_law_X12_guess : GoodIn wsL_law (wsV RL 137 RX12 yX12_guess wsX12_guess) := goodIn_app (goodIn_of _ (by decide +kernel)) ggL_law_X12_guess
set_option maxRecDepth 20000 in
theorem ggL_law_X11_sheet : GoodIn wsL_law wsX11_sheet := goodIn_r _ [961, 19, 962, 271, 2, 272, 195, 196, 197, 963, 273, 274, 964, 965, 966, 18, 967, 64, 65, 66, 1005, 1006, 1007, 1008, 1009, 1010, 1011, 1012, 1013, 1014, 1015, 1058, 1059, 1060] (by decide +kernel) (by decide +kernel)
set_option maxRecDepth 20000 in
theorem gL_law_X11_sheet : GoodIn wsL_law (wsV RL 138 RX11 yX11_sheet wsX11_sheet) := goodIn_app (goodIn_of _ (by decide +kernel)) ggL_law_X11_sheet
set_option maxRecDepth 20000 in
theorem ggL_law_X12_sheet : GoodIn wsL_law wsX12_sheet := goodIn_r _ [971, 179, 180, 181, 292, 293, 5, 294, 295, 296, 234, 235, 236, 1016, 1017, 1018, 1019, 1020, 1021, 1022, 1023, 1024, 1025, 1026, 1027, 1028, 1029, 1030, 1031, 1032, 1033, 1034, 1035, 1036, 1037, 1038, 1039, 1040, 1041, 1042, 1043, 1044, 1045, 1046, 1047, 1048, 1049, 1050, 1051, 1052, 1053, 1054, 1055, 1056] (by decide +kernel) (by decide +kernel)
set_option maxRecDepth 20000 in
theorem gL_law_X12_sheet : GoodIn wsL_law (wsV RL 141 RX12 yX12_sheet wsX12_sheet) := goodIn_app (goodIn_of _ (by decide +kernel)) ggL_law_X12_sheet
set_option maxRecDepth 20000 in
theorem ggL_law_X11_drop : GoodIn wsL_law wsX11_drop := goodIn_r _ [975, 19, 962, 271, 2, 272, 195, 196, 197, 976, 276, 277, 18, 278, 65, 977, 978, 979, 980, 1005, 1006, 1007, 1008, 1009, 1010, 1011, 1012, 1013, 1014, 1015, 1058, 1059, 1060] (by decide +kernel) (by decide +kernel)
set_option maxRecDepth 20000 in
theorem gL_law_X11_drop : GoodIn wsL_law (wsV RL 142 RX11 yX11_drop wsX11_drop) := goodIn_app (goodIn_of _ (by decide +kernel)) ggL_law_X11_drop
set_option maxRecDepth 20000 in
theorem ggL_law_X12_drop : GoodIn wsL_law wsX12_drop := goodIn_r _ [984, 295, 179, 180, 234, 235, 5, 236, 1016, 1017, 1018, 1019, 1020, 1021, 1022, 1023, 1024, 1025, 1026, 1027, 1028, 1029, 1030, 1031, 1032, 1033, 1034, 1035, 1036, 1037, 1038, 1039, 1040, 1041, 1042, 1043, 1044, 1045, 1046, 1047, 1048, 1049, 1050, 1051, 1052, 1053, 1054, 1055, 1056] (by decide +kernel) (by decide +kernel)
set_option maxRecDepth 20000 in
theorem gL_law_X12_drop : GoodIn wsL_law (wsV RL 145 RX12 yX12_drop wsX12_drop) := goodIn_app (goodIn_of _ (by decide +kernel)) ggL_law_X12_drop
set_option maxRecDepth 20000 in
theorem ggL_law_X11_item : GoodIn wsL_law wsX11_item := goodIn_r _ [988, 19, 267, 268, 269, 18, 270, 64, 65, 271, 2, 272, 195, 196, 197, 273, 274, 275, 276, 277, 278, 989, 990, 991, 992, 66, 1005, 1006, 1007, 1008, 1009, 1010, 1011, 1012, 1013, 1014, 1015, 1058, 1059, 1060] (by decide +kernel) (by decide +kernel)
set_option maxRecDepth 20000 in
theorem gL_law_X11_item : GoodIn wsL_law (wsV RL 146 RX11 yX11_item wsX11_item) := goodIn_app (goodIn_of _ (by decide +kernel)) ggL_law_X11_item
set_option maxRecDepth 20000 in
theorem ggL_law_X12_item : GoodIn wsL_law wsX12_item := goodIn_r _ [996, 181, 292, 293, 5, 294, 295, 296, 234, 235, 236, 297, 298, 299, 300, 179, 180, 1016, 1017, 1018, 1019, 1020, 1021, 1022, 1023, 1024, 1025, 1026, 1027, 1028, 1029, 1030, 1031, 1032, 1033, 1034, 1035, 1036, 1037, 1038, 1039, 1040, 1041, 1042, 1043, 1044, 1045, 1046, 1047, 1048, 1049, 1050, 1051, 1052, 1053, 1054, 1055, 1056] (by decide +kernel) (by decide +kernel)
set_option maxRecDepth 20000 in
theorem gL_law_X12_item : GoodIn wsL_law (wsV RL 149 RX12 yX12_item wsX12_item) := goodIn_app (goodIn_of _ (by decide +kernel)) ggL_law_X12_item
set_option maxRecDepth 20000 in
theorem ggL_law_X11_layer : GoodIn wsL_law wsX11_layer := goodIn_r _ [1000, 19, 55, 900, 901, 2, 902, 195, 196, 197, 267, 268, 269, 18, 270, 64, 65, 271, 272, 273, 274, 275, 276, 277, 278, 279, 280, 281, 282, 283, 284, 285, 286, 66, 287, 903, 904, 905, 54, 906, 144, 1005, 1006, 1007, 1008, 1009, 1010, 1011, 1012, 1013, 1014, 1015, 1058, 1059, 1060, 1104, 1105] (by decide +kernel) (by decide +kernel)
set_option maxRecDepth 20000 in
theorem gL_law_X11_layer : GoodIn wsL_law (wsV RL 150 RX11 yX11_layer wsX11_layer) := goodIn_app (goodIn_of _ (by decide +kernel)) ggL_law_X11_layer
set_option maxRecDepth 20000 in
theorem ggL_law_X12_layer : GoodIn wsL_law wsX12_layer := goodIn_r _ [1004, 181, 912, 449, 177, 913, 914, 5, 915, 296, 234, 235, 236, 292, 293, 294, 295, 297, 298, 299, 300, 179, 180, 1016, 1017, 1018, 1019, 1020, 1021, 1022, 1023, 1024, 1025, 1026, 1027, 1028, 1029, 1030, 1031, 1032, 1033, 1034, 1035, 1036, 1037, 1038, 1039, 1040, 1041, 1042, 1043, 1044, 1045, 1046, 1047, 1048, 1049, 1050, 1051, 1052, 1053, 1054, 1055, 1056] (by decide +kernel) (by decide +kernel)
set_option maxRecDepth 20000 in
theorem gL_law_X12_layer : GoodIn wsL_law (wsV RL 153 RX12 yX12_layer wsX12_layer) := goodIn_app (goodIn_of _ (by decide +kernel)) ggL_law_X12_layer
