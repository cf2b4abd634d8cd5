set_option maxRecDepth 20000 in
theorem ggL_law_X11_init : GoodIn wsL_law wsX11_init := goodIn_r _ [8, 9, 10, 11, 12, 13, 14, 15, 16, 17, 18, 19, 20, 21, 22, 23, 24, 25, 26, 27, 28, 29, 30, 31, 32, 33, 34, 35, 36, 37, 38, 39, 40, 41, 42, 43, 44, 45, 46, 47, 48, 49, 50, 51, 52, 53, 54, 55, 56, 57, 58, 59, 60, 61, 62, 63, 64, 65, 66, 67, 68, 69, 70, 71, 72, 73, 74, 75, 76, 77, 78, 79, 80, 81, 82, 83, 84, 85, 86, 87, 88, 89, 90, 91, 92, 93, 94, 95, 96, 97, 98, 99, 100, 101, 102, 103, 104, 105, 106, 107, 108, 109, 110, 111, 112, 113, 114, 115, 116, 117, 118, 119, 120, 121, 122, 123, 124, 125, 126, 127, 128, 129, 130, 131, 132, 133, 134, 135, 136, 137, 138, 139, 140, 141, 142, 143, 144, 145, 1057, 1005, 1006, 1007, 1008, 1009, 1010, 1011, 1012, 1013, 1014, 1015, 1058, 1059, 1060, 1061, 1062, 1063, 1064, 1065, 1066, 1067, 1068, 1069, 1070, 1071, 1072, 1073, 1074, 1075, 1076, 1077, 1078, 1079, 1080, 1081, 1082, 1083, 1084, 1085, 1086, 1087, 1088, 1089, 1090, 1091, 1092, 1093, 1094, 1095, 1096, 1097, 1098, 1099, 1100, 1101, 1102, 1103, 1104, 1105] (by decide +kernel) (by decide +kernel)
set_option maxRecDepth 20000 in
theorem gL_law_X11_init : GoodIn wsL_law (wsX11_init) := ggL_law_X11_init
set_option maxRecDepth 20000 in
theorem ggL_law_X12_init : GoodIn wsL_law wsX12_init := goodIn_r _ [148, 149, 10, 11, 150, 151, 59, 152, 153, 154, 155, 156, 157, 158, 159, 160, 75, 161, 105, 162, 163, 164, 165, 166, 167, 168, 169, 170, 171, 172, 173, 174, 175, 176, 177, 178, 179, 180, 181, 182, 183, 184, 5, 185, 186, 187, 188, 189, 190, 1016, 1017, 1018, 1019, 1020, 1021, 1022, 1023, 1024, 1025, 1026, 1027, 1028, 1029, 1030, 1031, 1032, 1033, 1034, 1035, 1036, 1037, 1038, 1039, 1040, 1041, 1042, 1043, 1044, 1045, 1046, 1047, 1048, 1049, 1050, 1051, 1052, 1053, 1054, 1055, 1056] (by decide +kernel) (by decide +kernel)
set_option maxRecDepth 20000 in
theorem gL_law_X12_init : GoodIn wsL_law (wsX12_init) := ggL_law_X12_init
set_option maxRecDepth 20000 in
theorem ggL_law_X11_mirror : GoodIn wsL_law wsX11_mirror := goodIn_r _ [194, 23, 31, 27, 43, 47, 195, 196, 2, 197, 198, 199, 200, 22, 201, 77, 71, 72, 79, 80, 81, 82, 202, 203, 204, 30, 205, 97, 98, 95, 206, 207, 208, 209, 96, 210, 211, 212, 213, 26, 214, 86, 91, 215, 216, 217, 218, 42, 219, 126, 220, 221, 222, 223, 125, 127, 128, 224, 225, 226, 46, 227, 133, 134, 1005, 1006, 1007, 1008, 1009, 1010, 1011, 1012, 1013, 1014, 1015, 1061, 1062, 1063, 1064, 1065, 1066, 1067, 1074, 1075, 1076, 1077, 1068, 1069, 1070, 1071, 1072, 1073, 1094, 1095, 1096, 1097, 1098, 1099, 1100] (by decide +kernel) (by decide +kernel)
set_option maxRecDepth 20000 in
theorem gL_law_X11_mirror : GoodIn wsL_law (wsV RL 13 RX11 yX11_mirror wsX11_mirror) := goodIn_app (goodIn_of _ (by decide +kernel)) ggL_law_X11_mirror
set_option maxRecDepth 20000 in
theorem ggL_law_X12_mirror : GoodIn wsL_law wsX12_mirror := goodIn_r _ [231, 232, 233, 234, 235, 5, 236, 182, 183, 184, 185, 150, 151, 152, 153, 154, 158, 161, 170, 186, 187, 188, 189, 190, 1016, 1017, 1018, 1019, 1020, 1021, 1022, 1023, 1024, 1025, 1026, 1027, 1028, 1029, 1030, 1031, 1032, 1033, 1034, 1035, 1036, 1037, 1038, 1039, 1040, 1041, 1042, 1043, 1044, 1045, 1046, 1047, 1048, 1049, 1050, 1051, 1052, 1053, 1054, 1055, 1056] (by decide +kernel) (by decide +kernel)
set_option maxRecDepth 20000 in
theorem gL_law_X12_mirror : GoodIn wsL_law (wsV RL 17 RX12 yX12_mirror wsX12_mirror) := goodIn_app (goodIn_of _ (by decide +kernel)) ggL_law_X12_mirror
set_option maxRecDepth 20000 in
theorem ggL_law_X11_light : GoodIn wsL_law wsX11_light := goodIn_r _ [240, 23, 241, 242, 243, 2, 244, 245, 246, 247, 22, 248, 77, 195, 196, 197, 249, 250, 251, 252, 71, 1005, 1006, 1007, 1008, 1009, 1010, 1011, 1012, 1013, 1014, 1015, 1061, 1062, 1063, 1064, 1065, 1066, 1067] (by decide +kernel) (by decide +kernel)
set_option maxRecDepth 20000 in
theorem gL_law_X11_light : GoodIn wsL_law (wsV RL 18 RX11 yX11_light wsX11_light) := goodIn_app (goodIn_of _ (by decide +kernel)) ggL_law_X11_light
set_option maxRecDepth 20000 in
theorem ggL_law_X12_light : GoodIn wsL_law wsX12_light := goodIn_r _ [256, 257, 258, 152, 259, 260, 261, 5, 262, 150, 234, 235, 236, 1016, 1017, 1018, 1019, 1020, 1021, 1022, 1023, 1024, 1025, 1026, 1027, 1028, 1029, 1030, 1031, 1032, 1033, 1034, 1035, 1036, 1037, 1038, 1039, 1040, 1041, 1042, 1043, 1044, 1045, 1046, 1047, 1048, 1049, 1050, 1051, 1052, 1053, 1054, 1055, 1056] (by decide +kernel) (by decide +kernel)
set_option maxRecDepth 20000 in
theorem gL_law_X12_light : GoodIn wsL_law (wsV RL 22 RX12 yX12_light wsX12_light) := goodIn_app (goodIn_of _ (by decide +kernel)) ggL_law_X12_light
set_option maxRecDepth 20000 in
theorem ggL_law_X11_board : GoodIn wsL_law wsX11_board := goodIn_r _ [266, 19, 23, 241, 242, 243, 2, 244, 245, 246, 247, 22, 248, 77, 195, 196, 197, 267, 268, 269, 18, 270, 64, 65, 271, 272, 273, 274, 275, 276, 277, 278, 279, 280, 281, 282, 283, 284, 285, 286, 66, 287, 249, 250, 251, 252, 71, 1005, 1006, 1007, 1008, 1009, 1010, 1011, 1012, 1013, 1014, 1015, 1061, 1062, 1063, 1064, 1065, 1066, 1067, 1058, 1059, 1060] (by decide +kernel) (by decide +kernel)
set_option maxRecDepth 20000 in
theorem gL_law_X11_board : GoodIn wsL_law (wsV RL 23 RX11 yX11_board wsX11_board) := goodIn_app (goodIn_of _ (by decide +kernel)) ggL_law_X11_board
set_option maxRecDepth 20000 in
theorem ggL_law_X12_board : GoodIn wsL_law wsX12_board := goodIn_r _ [291, 181, 258, 152, 259, 260, 261, 5, 262, 150, 234, 235, 236, 292, 293, 294, 295, 296, 297, 298, 299, 300, 179, 180, 1016, 1017, 1018, 1019, 1020, 1021, 1022, 1023, 1024, 1025, 1026, 1027, 1028, 1029, 1030, 1031, 1032, 1033, 1034, 1035, 1036, 1037, 1038, 1039, 1040, 1041, 1042, 1043, 1044, 1045, 1046, 1047, 1048, 1049, 1050, 1051, 1052, 1053, 1054, 1055, 1056] (by decide +kernel) (by decide +kernel)
set_option maxRecDepth 20000 in
theorem gL_law_X12_board : GoodIn wsL_law (wsV RL 27 RX12 yX12_board wsX12_board) := goodIn_app (goodIn_of _ (by decide +kernel)) ggL_law_X12_board
set_option maxRecDepth 20000 in
theorem ggL_law_X11_set : GoodIn wsL_law wsX11_set := goodIn_r _ [304, 15, 305, 306, 307, 14, 308, 309, 310, 196, 2, 197, 311, 312, 313, 314, 60, 1005, 1006, 1007, 1008, 1009, 1010, 1011, 1012, 1013, 1014, 1015, 1057] (by decide +kernel) (by decide +kernel)
set_option maxRecDepth 20000 in
theorem gL_law_X11_set : GoodIn wsL_law (wsV RL 28 RX11 yX11_set wsX11_set) := goodIn_app (goodIn_of _ (by decide +kernel)) ggL_law_X11_set
set_option maxRecDepth 20000 in
theorem ggL_law_X12_set : GoodIn wsL_law wsX12_set := goodIn_r _ [318, 319, 156, 157, 155, 234, 235, 5, 236, 1016, 1017, 1018, 1019, 1020, 1021, 1022, 1023, 1024, 1025, 1026, 1027, 1028, 1029, 1030, 1031, 1032, 1033, 1034, 1035, 1036, 1037, 1038, 1039, 1040, 1041, 1042, 1043, 1044, 1045, 1046, 1047, 1048, 1049, 1050, 1051, 1052, 1053, 1054, 1055, 1056] (by decide +kernel) (by decide +kernel)
set_option maxRecDepth 20000 in
theorem gL_law_X12_set : GoodIn wsL_law (wsV RL 31 RX12 yX12_set wsX12_set) := goodIn_app (goodIn_of _ (by decide +kernel)) ggL_law_X12_set
set_option maxRecDepth 20000 in
theorem ggL_law_X11_rest : GoodIn wsL_law wsX11_rest := goodIn_r _ [323, 23, 241, 242, 243, 2, 244, 245, 246, 247, 22, 248, 77, 195, 196, 197, 324, 325, 326, 327, 72, 1005, 1006, 1007, 1008, 1009, 1010, 1011, 1012, 1013, 1014, 1015, 1061, 1062, 1063, 1064, 1065, 1066, 1067] (by decide +kernel) (by decide +kernel)
set_option maxRecDepth 20000 in
theorem gL_law_X11_rest : GoodIn wsL_law (wsV RL 32 RX11 yX11_rest wsX11_rest) := goodIn_app (goodIn_of _ (by decide +kernel)) ggL_law_X11_rest
set_option maxRecDepth 20000 in
theorem ggL_law_X12_rest : GoodIn wsL_law wsX12_rest := goodIn_r _ [331, 332, 153, 259, 260, 261, 5, 262, 150, 234, 235, 236, 1016, 1017, 1018, 1019, 1020, 1021, 1022, 1023, 1024, 1025, 1026, 1027, 1028, 1029, 1030, 1031, 1032, 1033, 1034, 1035, 1036, 1037, 1038, 1039, 1040, 1041, 1042, 1043, 1044, 1045, 1046, 1047, 1048, 1049, 1050, 1051, 1052, 1053, 1054, 1055, 1056] (by decide +kernel) (by decide +kernel)
set_option maxRecDepth 20000 in
theorem gL_law_X12_rest : GoodIn wsL_law (wsV RL 35 RX12 yX12_rest wsX12_rest) := goodIn_app (goodIn_of _ (by decide +kernel)) ggL_law_X12_rest
set_option maxRecDepth 20000 in
theorem ggL_law_X11_spot : GoodIn wsL_law wsX11_spot := goodIn_r _ [336, 23, 15, 241, 242, 243, 2, 244, 245, 246, 247, 22, 248, 77, 195, 196, 197, 337, 338, 339, 14, 340, 60, 341, 342, 343, 344, 78, 76, 73, 345, 346, 347, 348, 71, 349, 350, 351, 352, 74, 353, 354, 355, 356, 357, 358, 359, 360, 361, 362, 363, 364, 365, 366, 367, 368, 369, 370, 72, 1005, 1006, 1007, 1008, 1009, 1010, 1011, 1012, 1013, 1014, 1015, 1061, 1062, 1063, 1064, 1065, 1066, 1067, 1057] (by decide +kernel) (by decide +kernel)
set_option maxRecDepth 20000 in
theorem gL_law_X11_spot : GoodIn wsL_law (wsV RL 36 RX11 yX11_spot wsX11_spot) := goodIn_app (goodIn_of _ (by decide +kernel)) ggL_law_X11_spot
set_option maxRecDepth 20000 in
theorem ggL_law_X12_spot : GoodIn wsL_law wsX12_spot := goodIn_r _ [374, 295, 259, 260, 261, 5, 262, 150, 234, 235, 236, 375, 376, 377, 378, 379, 380, 381, 382, 152, 155, 383, 384, 385, 386, 387, 388, 389, 390, 391, 392, 393, 394, 153, 1016, 1017, 1018, 1019, 1020, 1021, 1022, 1023, 1024, 1025, 1026, 1027, 1028, 1029, 1030, 1031, 1032, 1033, 1034, 1035, 1036, 1037, 1038, 1039, 1040, 1041, 1042, 1043, 1044, 1045, 1046, 1047, 1048, 1049, 1050, 1051, 1052, 1053, 1054, 1055, 1056] (by decide +kernel) (by decide +kernel)
set_option maxRecDepth 20000 in
theorem gL_law_X12_spot : GoodIn wsL_law (wsV RL 39 RX12 yX12_spot wsX12_spot) := goodIn_app (goodIn_of _ (by decide +kernel)) ggL_law_X12_spot
set_option maxRecDepth 20000 in
theorem ggL_law_X11_table : GoodIn wsL_law wsX11_table := goodIn_r _ [398, 27, 241, 242, 243, 2, 244, 23, 245, 246, 247, 22, 248, 77, 195, 196, 197, 399, 400, 401, 402, 31, 403, 404, 405, 30, 406, 97, 407, 408, 409, 26, 410, 86, 91, 1005, 1006, 1007, 1008, 1009, 1010, 1011, 1012, 1013, 1014, 1015, 1061, 1062, 1063, 1064, 1065, 1066, 1067, 1074, 1075, 1076, 1077, 1068, 1069, 1070, 1071, 1072, 1073] (by decide +kernel) (by decide +kernel)
set_option maxRecDepth 20000 in
theorem gL_law_X11_table : GoodIn wsL_law (wsV RL 40 RX11 yX11_table wsX11_table) := goodIn_app (goodIn_of _ (by decide +kernel)) ggL_law_X11_table
set_option maxRecDepth 20000 in
theorem ggL_law_X12_table : GoodIn wsL_law wsX12_table := goodIn_r _ [414, 415, 416, 154, 158, 259, 260, 261, 5, 262, 150, 234, 235, 236, 417, 418, 419, 420, 151, 1016, 1017, 1018, 1019, 1020, 1021, 1022, 1023, 1024, 1025, 1026, 1027, 1028, 1029, 1030, 1031, 1032, 1033, 1034, 1035, 1036, 1037, 1038, 1039, 1040, 1041, 1042, 1043, 1044, 1045, 1046, 1047, 1048, 1049, 1050, 1051, 1052, 1053, 1054, 1055, 1056] (by decide +kernel) (by decide +kernel)
set_option maxRecDepth 20000 in
theorem gL_law_X12_table : GoodIn wsL_law (wsV RL 43 RX12 yX12_table wsX12_table) := goodIn_app (goodIn_of _ (by decide +kernel)) ggL_law_X12_table
set_option maxRecDepth 20000 in
theorem ggL_law_X11_poke : GoodIn wsL_law wsX11_poke := goodIn_r _ [424, 19, 23, 27, 399, 400, 401, 2, 402, 31, 403, 404, 405, 30, 406, 97, 195, 196, 197, 245, 246, 247, 22, 248, 77, 267, 268, 269, 18, 270, 64, 65, 271, 272, 273, 274, 275, 276, 277, 278, 279, 280, 281, 282, 283, 284, 285, 286, 66, 425, 426, 427, 26, 428, 91, 429, 430, 431, 432, 90, 287, 433, 434, 435, 436, 87, 88, 437, 350, 351, 352, 89, 438, 439, 440, 86, 353, 354, 441, 442, 443, 444, 1005, 1006, 1007, 1008, 1009, 1010, 1011, 1012, 1013, 1014, 1015, 1074, 1075, 1076, 1077, 1061, 1062, 1063, 1064, 1065, 1066, 1067, 1058, 1059, 1060, 1068, 1069, 1070, 1071, 1072, 1073] (by decide +kernel) (by decide +kernel)
set_option maxRecDepth 20000 in
theorem gL_law_X11_poke : GoodIn wsL_law (wsV RL 44 RX11 yX11_poke wsX11_poke) := goodIn_app (goodIn_of _ (by decide +kernel)) ggL_law_X11_poke
set_option maxRecDepth 20000 in
theorem ggL_law_X12_poke : GoodIn wsL_law wsX12_poke := goodIn_r _ [448, 449, 150, 181, 450, 451, 158, 159, 160, 417, 418, 419, 5, 420, 151, 234, 235, 236, 292, 293, 294, 295, 296, 297, 298, 299, 300, 179, 180, 452, 453, 454, 455, 154, 456, 457, 458, 459, 1016, 1017, 1018, 1019, 1020, 1021, 1022, 1023, 1024, 1025, 1026, 1027, 1028, 1029, 1030, 1031, 1032, 1033, 1034, 1035, 1036, 1037, 1038, 1039, 1040, 1041, 1042, 1043, 1044, 1045, 1046, 1047, 1048, 1049, 1050, 1051, 1052, 1053, 1054, 1055, 1056] (by decide +kernel) (by decide +kernel)
set_option maxRecDepth 20000 in
theorem gL_law_X12_poke : GoodIn wsL_law (wsV RL 48 RX12 yX12_poke wsX12_poke) := goodIn_app (goodIn_of _ (by decide +kernel)) ggL_law_X12_poke
set_option maxRecDepth 20000 in
theorem ggL_law_X11_told : GoodIn wsL_law wsX11_told := goodIn_r _ [463, 27, 241, 242, 243, 2, 244, 23, 245, 246, 247, 22, 248, 77, 195, 196, 197, 399, 400, 401, 402, 31, 403, 404, 405, 30, 406, 97, 464, 465, 466, 26, 467, 86, 425, 426, 427, 428, 91, 468, 469, 470, 471, 88, 89, 1005, 1006, 1007, 1008, 1009, 1010, 1011, 1012, 1013, 1014, 1015, 1061, 1062, 1063, 1064, 1065, 1066, 1067, 1074, 1075, 1076, 1077, 1068, 1069, 1070, 1071, 1072, 1073] (by decide +kernel) (by decide +kernel)
set_option maxRecDepth 20000 in
theorem gL_law_X11_told : GoodIn wsL_law (wsV RL 49 RX11 yX11_told wsX11_told) := goodIn_app (goodIn_of _ (by decide +kernel)) ggL_law_X11_told
set_option maxRecDepth 20000 in
theorem ggL_law_X12_told : GoodIn wsL_law wsX12_told := goodIn_r _ [475, 154, 158, 159, 259, 260, 261, 5, 262, 150, 234, 235, 236, 417, 418, 419, 420, 151, 456, 457, 458, 459, 160, 1016, 1017, 1018, 1019, 1020, 1021, 1022, 1023, 1024, 1025, 1026, 1027, 1028, 1029, 1030, 1031, 1032, 1033, 1034, 1035, 1036, 1037, 1038, 1039, 1040, 1041, 1042, 1043, 1044, 1045, 1046, 1047, 1048, 1049, 1050, 1051, 1052, 1053, 1054, 1055, 1056] (by decide +kernel) (by decide +kernel)
set_option maxRecDepth 20000 in
theorem gL_law_X12_told : GoodIn wsL_law (wsV RL 52 RX12 yX12_told wsX12_told) := goodIn_app (goodIn_of _ (by decide +kernel)) ggL_law_X12_told
set_option maxRecDepth 20000 in
theorem ggL_law_X11_dead : GoodIn wsL_law wsX11_dead := goodIn_r _ [479, 31, 399, 400, 401, 2, 402, 403, 404, 405, 30, 406, 97, 195, 196, 197, 480, 481, 482, 483, 95, 1005, 1006, 1007, 1008, 1009, 1010, 1011, 1012, 1013, 1014, 1015, 1074, 1075, 1076, 1077] (by decide +kernel) (by decide +kernel)
set_option maxRecDepth 20000 in
theorem gL_law_X11_dead : GoodIn wsL_law (wsV RL 53 RX11 yX11_dead wsX11_dead) := goodIn_app (goodIn_of _ (by decide +kernel)) ggL_law_X11_dead
set_option maxRecDepth 20000 in
theorem ggL_law_X12_dead : GoodIn wsL_law wsX12_dead := goodIn_r _ [487, 161, 417, 418, 419, 5, 420, 151, 234, 235, 236, 1016, 1017, 1018, 1019, 1020, 1021, 1022, 1023, 1024, 1025, 1026, 1027, 1028, 1029, 1030, 1031, 1032, 1033, 1034, 1035, 1036, 1037, 1038, 1039, 1040, 1041, 1042, 1043, 1044, 1045, 1046, 1047, 1048, 1049, 1050, 1051, 1052, 1053, 1054, 1055, 1056] (by decide +kernel) (by decide +kernel)
set_option maxRecDepth 20000 in
theorem gL_law_X12_dead : GoodIn wsL_law (wsV RL 57 RX12 yX12_dead wsX12_dead) := goodIn_app (goodIn_of _ (by decide +kernel)) ggL_law_X12_dead
set_option maxRecDepth 20000 in
theorem ggL_law_X11_seen : GoodIn wsL_law wsX11_seen := goodIn_r _ [491, 35, 492, 493, 494, 2, 495, 23, 15, 27, 31, 337, 338, 339, 14, 340, 60, 341, 342, 343, 22, 344, 78, 77, 76, 73, 345, 346, 347, 348, 71, 349, 350, 351, 352, 74, 353, 354, 496, 497, 498, 34, 499, 111, 108, 109, 500, 501, 502, 503, 102, 504, 80, 81, 82, 505, 404, 405, 30, 406, 97, 506, 507, 508, 509, 95, 510, 246, 247, 248, 511, 356, 357, 358, 512, 465, 466, 26, 467, 86, 513, 514, 515, 516, 103, 517, 368, 369, 370, 72, 518, 519, 520, 521, 522, 523, 524, 110, 525, 526, 527, 528, 529, 530, 531, 532, 533, 534, 535, 536, 537, 538, 104, 106, 107, 539, 540, 541, 542, 543, 544, 545, 546, 547, 548, 549, 550, 551, 552, 553, 554, 555, 556, 557, 558, 559, 560, 561, 562, 563, 564, 565, 566, 567, 568, 569, 1005, 1006, 1007, 1008, 1009, 1010, 1011, 1012, 1013, 1014, 1015, 1057, 1061, 1062, 1063, 1064, 1065, 1066, 1067, 1078, 1079, 1080, 1081, 1082, 1083, 1084, 1085, 1086, 1074, 1075, 1076, 1077, 1068, 1069, 1070, 1071, 1072, 1073] (by decide +kernel) (by decide +kernel)
set_option maxRecDepth 20000 in
theorem gL_law_X11_seen : GoodIn wsL_law (wsV RL 58 RX11 yX11_seen wsX11_seen) := goodIn_app (goodIn_of _ (by decide +kernel)) ggL_law_X11_seen
set_option maxRecDepth 20000 in
theorem ggL_law_X12_seen : GoodIn wsL_law wsX12_seen := goodIn_r _ [573, 574, 575, 576, 577, 5, 578, 162, 151, 161, 150, 154, 579, 163, 164, 383, 384, 385, 386, 155, 375, 376, 377, 378, 379, 380, 381, 382, 152, 580, 581, 582, 583, 584, 585, 586, 587, 391, 392, 393, 394, 153, 387, 388, 389, 390, 588, 589, 590, 591, 165, 1016, 1017, 1018, 1019, 1020, 1021, 1022, 1023, 1024, 1025, 1026, 1027, 1028, 1029, 1030, 1031, 1032, 1033, 1034, 1035, 1036, 1037, 1038, 1039, 1040, 1041, 1042, 1043, 1044, 1045, 1046, 1047, 1048, 1049, 1050, 1051, 1052, 1053, 1054, 1055, 1056] (by decide +kernel) (by decide +kernel)
set_option maxRecDepth 20000 in
theorem gL_law_X12_seen : GoodIn wsL_law (wsV RL 62 RX12 yX12_seen wsX12_seen) := goodIn_app (goodIn_of _ (by decide +kernel)) ggL_law_X12_seen
