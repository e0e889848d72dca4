def pg_Rn (co : Nat) : String := [RX0, RX1, RX2, RX3, RX4, RX5, RX6, RX7, RX8, RX9, RX10, RX11, RX12, RL, RJ0, RJ1, RJ9, RJ6, RJ2, RJ3, RJ11].getD co ""
def pg_FL : List (List (Nat × Nat × Nat × Nat)) := [[(9, 0, 0, 281), (15, 0, 1, 282), (19, 0, 2, 283), (23, 0, 3, 284)], [(9, 1, 3, 265), (15, 1, 0, 262), (25, 1, 1, 263), (28, 1, 2, 264)], [(9, 2, 5, 308), (15, 2, 6, 309), (19, 2, 7, 310), (23, 2, 8, 311), (27, 2, 0, 303), (37, 2, 1, 304), (44, 2, 2, 305), (47, 2, 3, 306), (51, 2, 4, 307)], [(9, 3, 0, 120), (15, 3, 1, 121), (18, 3, 2, 122), (21, 3, 3, 123), (24, 3, 4, 124), (27, 3, 5, 125), (30, 3, 6, 126), (34, 3, 7, 127)], [(9, 4, 4, 243), (15, 4, 0, 239), (19, 4, 1, 240), (29, 4, 2, 241), (36, 4, 3, 242)], [(12, 5, 0, 185), (23, 5, 1, 186), (27, 5, 2, 187), (31, 5, 3, 188), (34, 5, 4, 189), (37, 5, 5, 190), (40, 5, 6, 191), (44, 5, 7, 192), (48, 5, 8, 193), (51, 5, 9, 194), (54, 5, 10, 195), (57, 5, 11, 196), (60, 5, 12, 197)], [(9, 6, 1, 152), (15, 6, 2, 153), (18, 6, 3, 154), (21, 6, 4, 155), (25, 6, 5, 156), (28, 6, 6, 157), (31, 6, 7, 158), (34, 6, 8, 159), (38, 6, 9, 160), (41, 6, 10, 161), (44, 6, 0, 151)], [(9, 7, 0, 41), (15, 7, 1, 42), (18, 7, 2, 43), (21, 7, 3, 44)], [(9, 8, 0, 78), (15, 8, 1, 79)], [(9, 9, 0, 92), (15, 9, 1, 93), (18, 9, 2, 94), (21, 9, 3, 95), (25, 9, 4, 96)], [(9, 10, 0, 62), (15, 10, 1, 63), (19, 10, 2, 64)], [(10, 11, 0, 331), (19, 11, 1, 332), (26, 11, 2, 333), (33, 11, 3, 334), (40, 11, 4, 335), (49, 11, 5, 336), (58, 11, 6, 337), (65, 11, 7, 338), (74, 11, 8, 339), (78, 11, 9, 340), (82, 11, 10, 341)], [(15, 12, 0, 1176), (21, 12, 2, 1178), (24, 12, 3, 1179), (27, 12, 4, 1180), (30, 12, 5, 1181), (34, 12, 7, 1183), (37, 12, 8, 1184), (40, 12, 10, 1186), (44, 12, 11, 1187), (48, 12, 17, 1193), (51, 12, 18, 1194), (54, 12, 19, 1195), (57, 12, 21, 1197), (60, 12, 24, 1200), (63, 12, 25, 1201), (66, 12, 27, 1203), (69, 12, 28, 1204), (72, 12, 29, 1205), (75, 12, 30, 1206), (78, 12, 31, 1207), (81, 12, 35, 1211), (84, 12, 37, 1213), (87, 12, 38, 1214), (90, 12, 39, 1215), (93, 12, 41, 1217), (96, 12, 42, 1218), (99, 12, 43, 1219), (102, 12, 46, 1222), (105, 12, 50, 1226), (108, 12, 51, 1227), (112, 12, 52, 1228), (115, 12, 53, 1229), (118, 12, 1, 1177), (121, 12, 26, 1202), (124, 12, 22, 1198), (128, 12, 6, 1182), (143, 12, 9, 1185), (146, 12, 12, 1188), (149, 12, 13, 1189), (152, 12, 14, 1190), (170, 12, 15, 1191), (173, 12, 16, 1192), (199, 12, 23, 1199), (211, 12, 20, 1196), (223, 12, 34, 1210), (233, 12, 32, 1208), (236, 12, 33, 1209), (255, 12, 40, 1216), (265, 12, 36, 1212), (271, 12, 49, 1225), (283, 12, 44, 1220), (286, 12, 45, 1221), (295, 12, 54, 1230), (314, 12, 48, 1224), (330, 12, 47, 1223)], [], [(9, 100, 0, 1601), (15, 100, 1, 1602), (38, 101, 0, 619)], [], [], [], [], [], []]
def pg_MK0_0 : List (Nat × Nat × Nat × Nat × Nat × Nat × Nat × Nat × Nat) := [(3, 9, 1, 0, 280, 33, 0, 34, 0), (26, 0, 3, 4, 437, 430, 431, 432, 11)]
def pg_MK0 : List (Nat × Nat × Nat × Nat × Nat × Nat × Nat × Nat × Nat) := pg_MK0_0
def pg_MK1_0 : List (Nat × Nat × Nat × Nat × Nat × Nat × Nat × Nat × Nat) := [(3, 9, 1, 0, 260, 33, 0, 34, 0), (19, 0, 1, 62, 261, 232, 233, 234, 6), (32, 0, 1, 11, 897, 899, 10022, 900, 10), (35, 0, 1, 12, 933, 935, 10024, 936, 10), (38, 0, 1, 13, 966, 968, 10025, 969, 10), (41, 0, 1, 67, 901, 902, 903, 904, 6), (45, 0, 2, 68, 905, 906, 907, 908, 6), (49, 0, 2, 96, 912, 456, 457, 458, 2), (54, 0, 2, 69, 913, 914, 915, 916, 6), (57, 0, 2, 10, 917, 919, 10023, 920, 10), (61, 0, 2, 70, 921, 922, 923, 924, 6), (64, 0, 2, 73, 925, 926, 927, 928, 6)]
def pg_MK1_1 : List (Nat × Nat × Nat × Nat × Nat × Nat × Nat × Nat × Nat) := [(67, 0, 2, 71, 929, 930, 931, 932, 6), (70, 0, 1, 28, 937, 938, 939, 940, 7), (75, 0, 2, 31, 941, 942, 943, 944, 7), (79, 0, 2, 33, 946, 947, 948, 949, 7), (80, 0, 3, 37, 950, 951, 952, 953, 7), (84, 0, 2, 35, 954, 955, 956, 957, 7), (87, 0, 2, 34, 958, 959, 960, 961, 7), (90, 0, 2, 32, 962, 963, 964, 965, 7), (93, 0, 1, 81, 970, 971, 972, 973, 6), (97, 0, 1, 75, 974, 975, 976, 977, 6), (100, 0, 2, 77, 978, 979, 980, 981, 6), (103, 0, 2, 76, 982, 983, 984, 985, 6)]
def pg_MK1_2 : List (Nat × Nat × Nat × Nat × Nat × Nat × Nat × Nat × Nat) := [(106, 0, 2, 80, 986, 987, 988, 989, 6)]
def pg_MK1 : List (Nat × Nat × Nat × Nat × Nat × Nat × Nat × Nat × Nat) := pg_MK1_0 ++ pg_MK1_1 ++ pg_MK1_2
def pg_MK2_0 : List (Nat × Nat × Nat × Nat × Nat × Nat × Nat × Nat × Nat) := [(3, 9, 1, 0, 300, 33, 0, 34, 0), (31, 0, 1, 62, 301, 232, 233, 234, 6), (40, 0, 1, 63, 302, 236, 237, 238, 6), (55, 0, 1, 81, 1029, 971, 972, 973, 6), (58, 0, 1, 75, 1030, 975, 976, 977, 6), (62, 0, 2, 1, 1031, 756, 757, 758, 11), (68, 0, 1, 78, 1032, 1033, 1034, 1035, 6), (71, 0, 1, 3, 1036, 1037, 1038, 1039, 11), (74, 0, 2, 23, 1040, 1042, 10027, 1043, 12), (77, 0, 2, 17, 1065, 1067, 10028, 1068, 12), (81, 0, 1, 67, 1069, 902, 903, 904, 6), (84, 0, 1, 19, 1070, 1072, 10029, 1073, 12)]
def pg_MK2_1 : List (Nat × Nat × Nat × Nat × Nat × Nat × Nat × Nat × Nat) := [(87, 0, 2, 68, 1098, 906, 907, 908, 6), (91, 0, 2, 97, 1099, 464, 465, 466, 2), (96, 0, 5, 41, 1100, 1101, 1102, 1103, 7), (102, 0, 3, 90, 1112, 1113, 1114, 1115, 8), (108, 0, 2, 18, 1138, 1140, 10037, 1141, 12), (111, 0, 2, 72, 1142, 1143, 1144, 1145, 6), (114, 0, 1, 20, 1074, 1076, 10030, 1077, 12), (117, 0, 2, 76, 1059, 983, 984, 985, 6), (120, 0, 2, 77, 1060, 979, 980, 981, 6), (123, 0, 5, 24, 1083, 1085, 10032, 1086, 12), (127, 0, 1, 2, 1078, 422, 423, 424, 11), (129, 0, 2, 21, 1079, 1081, 10031, 1082, 12)]
def pg_MK2_2 : List (Nat × Nat × Nat × Nat × Nat × Nat × Nat × Nat × Nat) := [(132, 1, 2, 22, 1044, 1045, 0, 1046, 12), (136, 0, 2, 79, 1047, 1048, 1049, 1050, 6), (139, 0, 2, 40, 1055, 1056, 1057, 1058, 7), (142, 0, 2, 39, 1051, 1052, 1053, 1054, 7), (145, 0, 5, 7, 1061, 1062, 1063, 1064, 11), (149, 0, 3, 6, 1087, 443, 444, 445, 11), (153, 0, 3, 5, 1088, 434, 435, 436, 11), (157, 1, 3, 25, 1089, 1090, 0, 1091, 12), (161, 1, 2, 228, 1092, 1093, 0, 1094, 23), (167, 1, 2, 226, 1095, 1096, 0, 1097, 23)]
def pg_MK2 : List (Nat × Nat × Nat × Nat × Nat × Nat × Nat × Nat × Nat) := pg_MK2_0 ++ pg_MK2_1 ++ pg_MK2_2
def pg_MK3_0 : List (Nat × Nat × Nat × Nat × Nat × Nat × Nat × Nat × Nat) := [(3, 9, 1, 0, 119, 33, 0, 34, 0), (38, 0, 5, 29, 868, 813, 814, 815, 7), (42, 3, 2, 146, 0, 910, 0, 911, 1), (46, 0, 2, 33, 994, 947, 948, 949, 7), (50, 0, 2, 34, 995, 959, 960, 961, 7), (53, 0, 4, 101, 1104, 1105, 1106, 1107, 2), (59, 0, 4, 102, 1108, 1109, 1110, 1111, 2)]
def pg_MK3 : List (Nat × Nat × Nat × Nat × Nat × Nat × Nat × Nat × Nat) := pg_MK3_0
def pg_MK4_0 : List (Nat × Nat × Nat × Nat × Nat × Nat × Nat × Nat × Nat) := [(3, 9, 1, 0, 230, 33, 0, 34, 0), (23, 0, 1, 62, 231, 232, 233, 234, 6), (32, 0, 1, 63, 235, 236, 237, 238, 6), (39, 0, 1, 60, 763, 764, 765, 766, 6), (42, 0, 2, 125, 775, 776, 777, 778, 5), (48, 0, 1, 44, 787, 789, 10008, 790, 9), (52, 0, 2, 46, 816, 818, 10011, 819, 9), (56, 0, 1, 47, 824, 826, 10012, 827, 9), (59, 0, 1, 48, 881, 883, 10020, 884, 9), (62, 0, 1, 49, 885, 887, 10021, 888, 9), (65, 0, 1, 121, 795, 780, 781, 782, 5), (69, 0, 1, 45, 791, 793, 10009, 794, 9)]
def pg_MK4_1 : List (Nat × Nat × Nat × Nat × Nat × Nat × Nat × Nat × Nat) := [(72, 0, 1, 124, 796, 784, 785, 786, 5), (75, 0, 3, 65, 797, 798, 799, 800, 6), (79, 0, 1, 57, 801, 803, 10010, 804, 9), (82, 0, 1, 122, 805, 806, 807, 808, 5), (85, 1, 1, 58, 809, 810, 0, 811, 9), (88, 0, 6, 64, 820, 821, 822, 823, 6), (92, 0, 2, 50, 828, 830, 10013, 831, 9), (95, 0, 2, 66, 889, 890, 891, 892, 6), (99, 0, 1, 84, 832, 833, 834, 835, 8), (104, 0, 1, 85, 836, 837, 838, 839, 8), (107, 0, 2, 51, 840, 842, 10014, 843, 9), (110, 0, 4, 86, 869, 870, 871, 872, 8)]
def pg_MK4_2 : List (Nat × Nat × Nat × Nat × Nat × Nat × Nat × Nat × Nat) := [(114, 0, 4, 53, 873, 875, 10019, 876, 9), (117, 0, 2, 52, 844, 846, 10015, 847, 9), (120, 0, 2, 54, 848, 850, 10016, 851, 9), (123, 0, 5, 87, 877, 878, 879, 880, 8), (127, 0, 1, 55, 852, 854, 10017, 855, 9), (130, 0, 1, 56, 856, 858, 10018, 859, 9), (133, 0, 1, 123, 860, 861, 862, 863, 5), (136, 0, 3, 30, 864, 865, 866, 867, 7), (142, 0, 5, 29, 812, 813, 814, 815, 7)]
def pg_MK4 : List (Nat × Nat × Nat × Nat × Nat × Nat × Nat × Nat × Nat) := pg_MK4_0 ++ pg_MK4_1 ++ pg_MK4_2
def pg_MK5_0 : List (Nat × Nat × Nat × Nat × Nat × Nat × Nat × Nat × Nat) := [(3, 9, 1, 0, 113, 33, 0, 34, 0), (11, 4, 1, 26, 0, 117, 0, 118, 7), (20, 2, 2, 82, 147, 148, 0, 149, 8), (63, 0, 1, 27, 767, 768, 769, 770, 7), (66, 0, 1, 83, 771, 772, 773, 774, 8), (67, 0, 1, 88, 1002, 1003, 1004, 1005, 8), (70, 3, 2, 146, 0, 910, 0, 911, 1), (74, 0, 3, 38, 990, 991, 992, 993, 7)]
def pg_MK5 : List (Nat × Nat × Nat × Nat × Nat × Nat × Nat × Nat × Nat) := pg_MK5_0
def pg_MK6_0 : List (Nat × Nat × Nat × Nat × Nat × Nat × Nat × Nat × Nat) := [(3, 9, 1, 0, 150, 33, 0, 34, 0), (48, 0, 3, 89, 1006, 1008, 10026, 1009, 8), (52, 1, 2, 225, 1010, 708, 0, 709, 23), (57, 0, 2, 36, 1011, 1012, 1013, 1014, 7), (63, 0, 3, 91, 1116, 1118, 10033, 1119, 8), (66, 0, 2, 92, 1120, 1122, 10034, 1123, 8), (70, 0, 3, 93, 1124, 1126, 10035, 1127, 8), (73, 0, 4, 94, 1129, 1131, 10036, 1132, 8), (77, 1, 2, 227, 1128, 711, 0, 712, 23), (80, 0, 2, 40, 1133, 1056, 1057, 1058, 7), (84, 0, 2, 39, 1134, 1052, 1053, 1054, 7), (87, 1, 2, 229, 1135, 1136, 0, 1137, 25)]
def pg_MK6 : List (Nat × Nat × Nat × Nat × Nat × Nat × Nat × Nat × Nat) := pg_MK6_0
def pg_MK7_0 : List (Nat × Nat × Nat × Nat × Nat × Nat × Nat × Nat × Nat) := [(3, 9, 1, 0, 40, 33, 0, 34, 0), (25, 0, 2, 97, 471, 464, 465, 466, 2), (29, 0, 4, 103, 472, 474, 10000, 475, 2), (33, 0, 2, 130, 476, 477, 478, 479, 3), (38, 0, 2, 131, 480, 481, 482, 483, 3)]
def pg_MK7 : List (Nat × Nat × Nat × Nat × Nat × Nat × Nat × Nat × Nat) := pg_MK7_0
def pg_MK8_0 : List (Nat × Nat × Nat × Nat × Nat × Nat × Nat × Nat × Nat) := [(3, 9, 1, 0, 77, 33, 0, 34, 0), (19, 0, 1, 119, 583, 584, 585, 586, 5), (24, 0, 2, 108, 587, 589, 10002, 590, 4), (28, 0, 3, 109, 591, 593, 10003, 594, 4), (32, 0, 4, 120, 674, 675, 676, 677, 5), (36, 1, 1, 114, 595, 596, 0, 597, 4), (40, 0, 2, 110, 598, 600, 10004, 601, 4), (44, 0, 3, 112, 602, 604, 10005, 605, 4), (48, 1, 1, 116, 678, 679, 0, 680, 4), (51, 0, 3, 111, 681, 683, 10007, 684, 4), (54, 1, 1, 115, 685, 686, 0, 687, 4), (57, 1, 1, 117, 688, 689, 0, 690, 4)]
def pg_MK8_1 : List (Nat × Nat × Nat × Nat × Nat × Nat × Nat × Nat × Nat) := [(62, 0, 4, 113, 607, 609, 10006, 610, 4), (96, 0, 1, 214, 611, 612, 613, 614, 19), (101, 0, 2, 216, 621, 622, 623, 624, 19), (106, 0, 2, 218, 692, 693, 694, 695, 19)]
def pg_MK8 : List (Nat × Nat × Nat × Nat × Nat × Nat × Nat × Nat × Nat) := pg_MK8_0 ++ pg_MK8_1
def pg_MK9_0 : List (Nat × Nat × Nat × Nat × Nat × Nat × Nat × Nat × Nat) := [(3, 9, 1, 0, 91, 33, 0, 34, 0), (28, 0, 1, 121, 779, 780, 781, 782, 5), (32, 0, 1, 124, 783, 784, 785, 786, 5)]
def pg_MK9 : List (Nat × Nat × Nat × Nat × Nat × Nat × Nat × Nat × Nat) := pg_MK9_0
def pg_MK10_0 : List (Nat × Nat × Nat × Nat × Nat × Nat × Nat × Nat × Nat) := [(3, 9, 1, 0, 61, 33, 0, 34, 0)]
def pg_MK10 : List (Nat × Nat × Nat × Nat × Nat × Nat × Nat × Nat × Nat) := pg_MK10_0
def pg_MK11_0 : List (Nat × Nat × Nat × Nat × Nat × Nat × Nat × Nat × Nat) := [(1, 9, 1, 0, 32, 33, 0, 34, 0), (9, 4, 1, 95, 0, 38, 0, 39, 2), (18, 4, 1, 126, 0, 59, 0, 60, 3), (25, 4, 1, 104, 0, 75, 0, 76, 4), (32, 4, 1, 118, 0, 89, 0, 90, 5), (39, 4, 1, 59, 0, 111, 0, 112, 6), (46, 2, 3, 42, 227, 228, 0, 229, 9), (55, 2, 3, 8, 257, 258, 0, 259, 10), (64, 4, 1, 0, 0, 278, 0, 279, 11), (71, 2, 4, 14, 297, 298, 0, 299, 12), (86, 0, 3, 98, 369, 370, 371, 372, 2), (90, 0, 2, 74, 373, 374, 375, 376, 6)]
def pg_MK11_1 : List (Nat × Nat × Nat × Nat × Nat × Nat × Nat × Nat × Nat) := [(94, 0, 3, 129, 381, 382, 383, 384, 3), (98, 0, 2, 96, 455, 456, 457, 458, 2), (102, 0, 1, 127, 459, 460, 461, 462, 3), (106, 0, 2, 97, 463, 464, 465, 466, 2), (109, 0, 3, 99, 467, 468, 469, 470, 2), (113, 0, 1, 128, 484, 485, 486, 487, 3), (128, 0, 2, 100, 393, 394, 395, 396, 2), (131, 0, 2, 105, 401, 402, 403, 404, 4), (134, 0, 2, 107, 579, 580, 581, 582, 4), (138, 0, 1, 106, 751, 752, 753, 754, 4), (139, 0, 2, 1, 755, 756, 757, 758, 11), (142, 0, 1, 43, 759, 760, 761, 762, 9)]
def pg_MK11_2 : List (Nat × Nat × Nat × Nat × Nat × Nat × Nat × Nat × Nat) := [(146, 0, 1, 9, 893, 894, 895, 896, 10), (149, 0, 1, 122, 996, 806, 807, 808, 5), (154, 0, 1, 61, 998, 999, 1000, 1001, 6), (157, 0, 1, 67, 1015, 902, 903, 904, 6), (162, 0, 1, 16, 1025, 1026, 1027, 1028, 12), (170, 0, 1, 2, 421, 422, 423, 424, 11), (172, 0, 1, 15, 413, 414, 415, 416, 12), (175, 0, 3, 4, 429, 430, 431, 432, 11), (178, 0, 3, 5, 433, 434, 435, 436, 11), (181, 0, 3, 6, 442, 443, 444, 445, 11)]
def pg_MK11 : List (Nat × Nat × Nat × Nat × Nat × Nat × Nat × Nat × Nat) := pg_MK11_0 ++ pg_MK11_1 ++ pg_MK11_2
def pg_MK12_0 : List (Nat × Nat × Nat × Nat × Nat × Nat × Nat × Nat × Nat) := [(1, 9, 1, 0, 1167, 33, 0, 34, 0), (131, 0, 3, 152, 1354, 1356, 10038, 1357, 13), (135, 0, 2, 150, 1366, 1368, 10039, 1369, 13), (139, 0, 2, 149, 1370, 1372, 10040, 1373, 13), (155, 0, 2, 158, 1406, 1408, 10046, 1409, 13), (159, 1, 1, 159, 1410, 1411, 0, 1412, 13), (163, 1, 1, 160, 1417, 1418, 0, 1419, 13), (166, 0, 2, 161, 1424, 1426, 10049, 1427, 13), (176, 0, 1, 162, 1413, 1415, 10047, 1416, 13), (180, 0, 2, 163, 1420, 1422, 10048, 1423, 13), (183, 0, 1, 164, 1402, 1404, 10045, 1405, 13), (186, 0, 2, 166, 1398, 1400, 10044, 1401, 13)]
def pg_MK12_1 : List (Nat × Nat × Nat × Nat × Nat × Nat × Nat × Nat × Nat) := [(189, 0, 1, 165, 1428, 1430, 10050, 1431, 13), (192, 1, 3, 168, 1436, 1437, 0, 1438, 13), (196, 0, 2, 167, 1394, 1396, 10043, 1397, 13), (202, 0, 1, 169, 1439, 1441, 10052, 1442, 13), (205, 0, 1, 170, 1432, 1434, 10051, 1435, 13), (208, 0, 1, 172, 1455, 1457, 10056, 1458, 13), (214, 0, 1, 173, 1451, 1453, 10055, 1454, 13), (217, 0, 1, 174, 1459, 1461, 10057, 1462, 13), (220, 0, 1, 175, 1447, 1449, 10054, 1450, 13), (226, 0, 1, 171, 1390, 1392, 10042, 1393, 13), (229, 0, 2, 176, 1443, 1445, 10053, 1446, 13), (239, 0, 1, 177, 1463, 1465, 10058, 1466, 13)]
def pg_MK12_2 : List (Nat × Nat × Nat × Nat × Nat × Nat × Nat × Nat × Nat) := [(242, 0, 2, 180, 1475, 1477, 10061, 1478, 13), (245, 0, 2, 179, 1479, 1481, 10062, 1482, 13), (248, 0, 2, 181, 1483, 1485, 10063, 1486, 13), (251, 0, 3, 182, 1471, 1473, 10060, 1474, 13), (258, 0, 2, 184, 1487, 1489, 10064, 1490, 13), (261, 0, 4, 183, 1491, 1493, 10065, 1494, 13), (268, 0, 3, 186, 1499, 1501, 10067, 1502, 13), (274, 0, 1, 178, 1386, 1388, 10041, 1389, 13), (277, 0, 1, 185, 1467, 1469, 10059, 1470, 13), (280, 0, 1, 187, 1495, 1497, 10066, 1498, 13), (289, 0, 3, 191, 1538, 1540, 10074, 1541, 13), (292, 0, 2, 190, 1534, 1536, 10073, 1537, 13)]
def pg_MK12_3 : List (Nat × Nat × Nat × Nat × Nat × Nat × Nat × Nat × Nat) := [(298, 1, 2, 194, 1527, 1528, 0, 1529, 13), (302, 0, 2, 195, 1530, 1532, 10072, 1533, 13), (305, 1, 1, 192, 1542, 1543, 0, 1544, 13), (308, 1, 2, 193, 1545, 1546, 0, 1547, 13), (311, 0, 3, 196, 1523, 1525, 10071, 1526, 13), (317, 0, 2, 198, 1556, 1558, 10077, 1559, 13), (320, 0, 1, 199, 1511, 1513, 10068, 1514, 13), (324, 0, 1, 200, 1552, 1554, 10076, 1555, 13), (327, 0, 3, 201, 1560, 1562, 10078, 1563, 13), (333, 0, 2, 203, 1568, 1570, 10080, 1571, 13), (336, 0, 2, 197, 1519, 1521, 10070, 1522, 13), (339, 0, 1, 202, 1548, 1550, 10075, 1551, 13)]
def pg_MK12_4 : List (Nat × Nat × Nat × Nat × Nat × Nat × Nat × Nat × Nat) := [(342, 0, 1, 204, 1576, 1578, 10082, 1579, 13), (345, 0, 1, 205, 1572, 1574, 10081, 1575, 13), (348, 0, 1, 206, 1564, 1566, 10079, 1567, 13), (351, 0, 1, 207, 1515, 1517, 10069, 1518, 13), (354, 0, 3, 211, 1592, 1594, 10083, 1595, 13)]
def pg_MK12 : List (Nat × Nat × Nat × Nat × Nat × Nat × Nat × Nat × Nat) := pg_MK12_0 ++ pg_MK12_1 ++ pg_MK12_2 ++ pg_MK12_3 ++ pg_MK12_4
def pg_MK13_0 : List (Nat × Nat × Nat × Nat × Nat × Nat × Nat × Nat × Nat) := [(7, 0, 2, 136, 451, 452, 453, 454, 1), (17, 0, 1, 139, 575, 576, 577, 578, 1), (21, 0, 1, 141, 1020, 1021, 1022, 1023, 1), (26, 2, 1, 132, 29, 30, 0, 31, 1), (29, 2, 1, 147, 1164, 1165, 0, 1166, 13), (30, 0, 3, 133, 365, 366, 367, 368, 1), (34, 0, 3, 151, 1346, 1347, 1348, 1349, 13), (35, 0, 2, 134, 377, 378, 379, 380, 1), (39, 0, 2, 153, 1350, 1351, 1352, 1353, 13), (40, 0, 1, 135, 385, 386, 387, 388, 1), (44, 0, 1, 154, 1358, 1359, 1360, 1361, 13), (45, 5, 3, 232, 446, 447, 0, 448, 0)]
def pg_MK13_1 : List (Nat × Nat × Nat × Nat × Nat × Nat × Nat × Nat × Nat) := [(50, 0, 2, 155, 1362, 1363, 1364, 1365, 13), (51, 0, 1, 148, 1342, 1343, 1344, 1345, 13), (54, 0, 2, 137, 389, 390, 391, 392, 1), (57, 0, 2, 156, 1374, 1375, 1376, 1377, 13), (58, 0, 2, 138, 397, 398, 399, 400, 1), (62, 0, 2, 157, 1378, 1379, 1380, 1381, 13), (63, 5, 2, 233, 572, 573, 0, 574, 0), (66, 0, 1, 188, 1382, 1383, 1384, 1385, 13), (67, 0, 1, 140, 405, 406, 407, 408, 1), (70, 0, 1, 189, 1503, 1504, 1505, 1506, 13), (71, 5, 2, 234, 1016, 1017, 0, 1018, 0), (73, 0, 1, 208, 1507, 1508, 1509, 1510, 13)]
def pg_MK13_2 : List (Nat × Nat × Nat × Nat × Nat × Nat × Nat × Nat × Nat) := [(74, 0, 1, 142, 409, 410, 411, 412, 1), (77, 0, 1, 209, 1580, 1581, 1582, 1583, 13), (78, 0, 1, 143, 417, 418, 419, 420, 1), (81, 0, 1, 210, 1584, 1585, 1586, 1587, 13), (82, 0, 3, 144, 425, 426, 427, 428, 1), (85, 0, 3, 212, 1588, 1589, 1590, 1591, 13), (86, 0, 3, 145, 438, 439, 440, 441, 1), (90, 0, 3, 213, 1596, 1597, 1598, 1599, 13)]
def pg_MK13 : List (Nat × Nat × Nat × Nat × Nat × Nat × Nat × Nat × Nat) := pg_MK13_0 ++ pg_MK13_1 ++ pg_MK13_2
def pg_MK14_0 : List (Nat × Nat × Nat × Nat × Nat × Nat × Nat × Nat × Nat) := [(335, 0, 1, 215, 615, 616, 617, 618, 19), (492, 0, 1, 217, 625, 626, 627, 628, 19), (495, 1, 2, 220, 629, 630, 0, 631, 20), (505, 0, 1, 214, 700, 612, 613, 614, 19), (633, 0, 3, 219, 696, 697, 698, 699, 19), (637, 1, 4, 222, 701, 702, 0, 703, 20), (1059, 1, 3, 231, 637, 638, 0, 639, 21)]
def pg_MK14 : List (Nat × Nat × Nat × Nat × Nat × Nat × Nat × Nat × Nat) := pg_MK14_0
def pg_MK15_0 : List (Nat × Nat × Nat × Nat × Nat × Nat × Nat × Nat × Nat) := [(9, 1, 2, 224, 632, 633, 0, 634, 19), (38, 1, 2, 227, 710, 711, 0, 712, 23), (88, 1, 1, 221, 704, 705, 0, 706, 20), (92, 1, 2, 225, 707, 708, 0, 709, 23), (95, 1, 4, 223, 713, 714, 0, 715, 20)]
def pg_MK15 : List (Nat × Nat × Nat × Nat × Nat × Nat × Nat × Nat × Nat) := pg_MK15_0
def pg_MK16_0 : List (Nat × Nat × Nat × Nat × Nat × Nat × Nat × Nat × Nat) := []
def pg_MK16 : List (Nat × Nat × Nat × Nat × Nat × Nat × Nat × Nat × Nat) := pg_MK16_0
def pg_MK17_0 : List (Nat × Nat × Nat × Nat × Nat × Nat × Nat × Nat × Nat) := []
def pg_MK17 : List (Nat × Nat × Nat × Nat × Nat × Nat × Nat × Nat × Nat) := pg_MK17_0
def pg_MK18_0 : List (Nat × Nat × Nat × Nat × Nat × Nat × Nat × Nat × Nat) := [(183, 1, 2, 227, 720, 711, 0, 712, 23), (224, 1, 2, 225, 719, 708, 0, 709, 23), (241, 1, 3, 230, 728, 729, 0, 730, 19), (414, 1, 2, 224, 649, 633, 0, 634, 19)]
def pg_MK18 : List (Nat × Nat × Nat × Nat × Nat × Nat × Nat × Nat × Nat) := pg_MK18_0
def pg_MK19_0 : List (Nat × Nat × Nat × Nat × Nat × Nat × Nat × Nat × Nat) := []
def pg_MK19 : List (Nat × Nat × Nat × Nat × Nat × Nat × Nat × Nat × Nat) := pg_MK19_0
def pg_MK20_0 : List (Nat × Nat × Nat × Nat × Nat × Nat × Nat × Nat × Nat) := []
def pg_MK20 : List (Nat × Nat × Nat × Nat × Nat × Nat × Nat × Nat × Nat) := pg_MK20_0
def pg_MK : List (List (Nat × Nat × Nat × Nat × Nat × Nat × Nat × Nat × Nat)) := [pg_MK0, pg_MK1, pg_MK2, pg_MK3, pg_MK4, pg_MK5, pg_MK6, pg_MK7, pg_MK8, pg_MK9, pg_MK10, pg_MK11, pg_MK12, pg_MK13, pg_MK14, pg_MK15, pg_MK16, pg_MK17, pg_MK18, pg_MK19, pg_MK20]
def pg_CN : List (List (Nat × Nat × Nat × Nat × Nat)) := [[], [], [], [], [], [(9, 3, 114, 115, 7), (18, 6, 145, 146, 8)], [], [], [], [], [], [(7, 7, 35, 36, 2), (16, 10, 56, 57, 3), (23, 8, 72, 73, 4), (30, 9, 86, 87, 5), (37, 5, 108, 109, 6), (44, 4, 225, 226, 9), (53, 1, 255, 256, 10), (62, 0, 275, 276, 11), (69, 2, 295, 296, 12)], [], [(8, 11, 27, 28, 1), (27, 12, 1162, 1163, 13)], [], [], [], [], [], [], []]
def pg_LD : List (List (Nat × q_V × Nat)) := [[], [], [], [], [], [], [], [], [(60, .inr (.inr 1002), 0), (66, .inr (.inr 1003), 0), (68, .inr (.inr 1004), 0), (70, .inr (.inr 1005), 0), (72, .inr (.inr 1006), 0), (74, .inr (.inr 1007), 0), (76, .inr (.inr 1008), 0), (78, .inr (.inr 1009), 0), (80, .inr (.inr 1010), 0), (82, .inr (.inr 1011), 0), (84, .inr (.inr 1012), 0), (86, .inr (.inr 1013), 0), (88, .inr (.inr 1014), 0), (90, .inr (.inr 1015), 0), (92, .inr (.inr 1016), 0), (94, .inr (.inr 1017), 0), (104, .inr (.inr 1018), 0)], [], [], [(118, .inr (.inr 1000), 0), (125, .inr (.inr 1001), 0), (152, .inr (.inr 1019), 0), (160, .inr (.inr 1020), 0), (167, .inr (.inr 1021), 0)], [(7, .inl (643175540), 1168), (8, .inl (215533), 1169), (9, .inl (343342), 1170), (10, .inl (398548), 1171), (11, .inl (24385093), 1172), (12, .inl (7945904), 1173), (13, .inl (3659220), 1174), (14, .inl (480652), 1175)], [], [], [], [], [], [(227, .inl (65536), 721)], [], [(76, .inl (56320), 750), (110, .inl (55232), 746)]]
def pg_FT : List (List Nat) := [[4, 4, 0, 0], [4, 4, 4, 0], [4, 4, 4, 4, 4, 4, 4, 1, 0], [4, 4, 4, 4, 4, 4, 4, 0], [4, 4, 4, 4, 0], [4, 4, 4, 4, 4, 4, 4, 0, 4, 4, 0, 4, 0], [4, 4, 4, 4, 0, 4, 4, 4, 4, 0, 4], [4, 4, 4, 4], [4, 0], [4, 4, 4, 0, 0], [4, 4, 0], [4, 4, 4, 4, 4, 4, 4, 4, 4, 1, 0], [4, 0, 4, 4, 4, 4, 0, 4, 4, 0, 4, 0, 1, 0, 0, 0, 0, 4, 4, 4, 0, 4, 1, 0, 4, 4, 0, 4, 4, 4, 4, 4, 0, 0, 0, 4, 0, 4, 4, 4, 1, 4, 4, 4, 1, 0, 4, 0, 1, 0, 4, 4, 4, 4, 0]]
def pg_SB : List (List Int) := [[110, 111, 32, 115, 117, 99, 104, 32, 116, 97, 98, 108, 101, 44, 32, 111, 114, 32, 110, 111, 116, 32, 97, 115, 32, 109, 97, 110, 121, 32, 118, 97, 108, 117, 101, 115, 32, 97, 115, 32, 105, 116, 32, 104, 97, 115, 32, 99, 111, 108, 117, 109, 110, 115], [116, 104, 101, 32, 116, 97, 98, 108, 101, 32, 105, 115, 32, 102, 117, 108, 108], [115, 101, 108, 101, 99, 116], [102, 114, 111, 109], [106, 111, 105, 110], [108, 101, 102, 116], [111, 110], [119, 104, 101, 114, 101], [103, 114, 111, 117, 112], [99, 111, 117, 110, 116], [115, 117, 109], [109, 105, 110], [109, 97, 120], [111, 114], [97, 110, 100], [110, 111, 116], [105, 115], [110, 117, 108, 108], [40, 41, 44, 46, 61, 60, 62], [116, 104, 101, 32, 116, 101, 120, 116, 32, 105, 115, 32, 105, 108, 108], [116, 104, 101, 114, 101, 32, 105, 115, 32, 110, 111, 32, 113, 117, 101, 114, 121], [116, 104, 101, 32, 114, 101, 115, 117, 108, 116, 32, 119, 111, 117, 108, 100, 32, 104, 97, 118, 101, 32, 116, 111, 111, 32, 109, 97, 110, 121, 32, 114, 111, 119, 115]]
def pg_SR : q_SRt := [(RX11, 118, "no such table, or not as many values as it has columns", 0), (RX11, 125, "the table is full", 1), (RX8, 60, "select", 2), (RX8, 66, "from", 3), (RX8, 68, "join", 4), (RX8, 70, "left", 5), (RX8, 72, "on", 6), (RX8, 74, "where", 7), (RX8, 76, "group", 8), (RX8, 78, "count", 9), (RX8, 80, "sum", 10), (RX8, 82, "min", 11), (RX8, 84, "max", 12), (RX8, 86, "or", 13), (RX8, 88, "and", 14), (RX8, 90, "not", 15), (RX8, 92, "is", 16), (RX8, 94, "null", 17), (RX8, 104, "(),.=<>", 18), (RX11, 152, "the text is ill", 19), (RX11, 160, "there is no query", 20), (RX11, 167, "the result would have too many rows", 21)]
def pg_NW : List (String × Nat × MethodName × String) := [(RX11, 9, yX7_init, "QueryLoops"), (RX11, 18, yX10_init, "QueryLoops"), (RX11, 25, yX8_init, "QueryLoops"), (RX11, 32, yX9_init, "QueryLoops"), (RX11, 39, yX5_init, "QueryLoops"), (RX5, 11, yX3_init, "QueryLoops"), (RX11, 64, yX0_init, "QueryLoops"), (RX5, 70, yX11_get, "QueryLoops"), (RX3, 42, yX11_get, "QueryLoops")]
def pg_MM : List (Nat × Nat × Nat) := [(0, 2, 240), (0, 0, 0), (0, 0, 0), (0, 0, 0), (0, 0, 0), (0, 0, 0), (0, 0, 0), (0, 0, 0), (1, 0, 0), (1, 0, 0), (1, 0, 0), (1, 0, 0), (1, 0, 0), (1, 0, 0), (2, 2, 180), (2, 0, 0), (2, 0, 0), (2, 0, 0), (2, 0, 0), (2, 0, 0), (2, 0, 0), (2, 0, 0), (2, 0, 0), (2, 0, 0), (2, 0, 0), (2, 0, 0), (3, 7, 910), (3, 0, 0), (3, 0, 0), (3, 0, 0), (3, 0, 0), (3, 0, 0), (3, 0, 0), (3, 0, 0), (3, 0, 0), (3, 0, 0), (3, 0, 0), (3, 0, 0), (3, 0, 0), (3, 0, 0), (3, 0, 0), (3, 0, 0), (4, 0, 0), (4, 0, 0), (4, 0, 0), (4, 0, 0), (4, 0, 0), (4, 0, 0), (4, 0, 0), (4, 0, 0), (4, 0, 0), (4, 0, 0), (4, 0, 0), (4, 0, 0), (4, 0, 0), (4, 0, 0), (4, 0, 0), (4, 0, 0), (4, 0, 0), (5, 25, 1995), (5, 0, 0), (5, 0, 0), (5, 0, 0), (5, 0, 0), (5, 0, 0), (5, 0, 0), (5, 0, 0), (5, 0, 0), (5, 0, 0), (5, 0, 0), (5, 0, 0), (5, 0, 0), (5, 0, 0), (5, 0, 0), (5, 0, 0), (5, 0, 0), (5, 0, 0), (5, 0, 0), (5, 0, 0), (5, 0, 0), (5, 0, 0), (5, 0, 0), (6, 8, 1040), (6, 0, 0), (6, 0, 0), (6, 0, 0), (6, 0, 0), (6, 0, 0), (6, 0, 0), (6, 0, 0), (6, 0, 0), (6, 0, 0), (6, 0, 0), (6, 0, 0), (6, 0, 0), (7, 4, 246), (7, 0, 0), (7, 0, 0), (7, 0, 0), (7, 0, 0), (7, 0, 0), (7, 0, 0), (7, 0, 0), (7, 0, 0), (8, 1, 130), (8, 0, 0), (8, 0, 0), (8, 0, 0), (8, 0, 0), (8, 0, 0), (8, 0, 0), (8, 0, 0), (8, 0, 0), (8, 0, 0), (8, 0, 0), (8, 0, 0), (8, 0, 0), (8, 0, 0), (9, 3, 393), (9, 0, 0), (9, 0, 0), (9, 0, 0), (9, 0, 0), (9, 0, 0), (9, 0, 0), (9, 0, 0), (10, 2, 8), (10, 0, 0), (10, 0, 0), (10, 0, 0), (10, 0, 0), (10, 0, 0), (11, 48, 3241), (11, 0, 0), (11, 0, 0), (11, 0, 0), (11, 0, 0), (11, 0, 0), (11, 0, 0), (11, 0, 0), (11, 0, 0), (11, 0, 0), (11, 0, 0), (11, 0, 0), (11, 0, 0), (11, 0, 0), (11, 0, 0), (12, 31, 1405), (12, 0, 0), (12, 0, 0), (12, 0, 0), (12, 0, 0), (12, 0, 0), (12, 0, 0), (12, 0, 0), (12, 0, 0), (12, 0, 0), (12, 0, 0), (12, 0, 0), (12, 0, 0), (12, 0, 0), (12, 0, 0), (12, 0, 0), (12, 0, 0), (12, 0, 0), (12, 0, 0), (12, 0, 0), (12, 0, 0), (12, 0, 0), (12, 0, 0), (12, 0, 0), (12, 0, 0), (12, 0, 0), (12, 0, 0), (12, 0, 0), (12, 0, 0), (12, 0, 0), (12, 0, 0), (12, 0, 0), (12, 0, 0), (12, 0, 0), (12, 0, 0), (12, 0, 0), (12, 0, 0), (12, 0, 0), (12, 0, 0), (12, 0, 0), (12, 0, 0), (12, 0, 0), (12, 0, 0), (12, 0, 0), (12, 0, 0), (12, 0, 0), (12, 0, 0), (12, 0, 0), (12, 0, 0), (12, 0, 0), (12, 0, 0), (12, 0, 0), (12, 0, 0), (12, 0, 0), (12, 0, 0), (12, 0, 0), (12, 0, 0), (12, 0, 0), (12, 0, 0), (12, 0, 0), (12, 0, 0), (12, 0, 0), (12, 0, 0), (12, 0, 0), (12, 0, 0), (12, 0, 0), (12, 0, 0), (100, 0, 0), (100, 0, 0), (100, 0, 0), (100, 0, 0), (100, 0, 0), (100, 0, 0), (15, 0, 0), (15, 0, 0), (15, 0, 0), (15, 0, 0), (100, 0, 0), (16, 0, 0), (16, 0, 0), (16, 0, 0), (16, 0, 0), (17, 0, 0), (100, 0, 0), (19, 0, 0), (13, 1, 6), (13, 1, 6), (13, 1, 6)]
def pg_RK : List Nat := [0, 0, 1, 1, 1, 1, 2, 0, 0, 1, 0, 0, 0, 0, 0, 1, 1, 1, 1, 1, 1, 1, 1, 0, 0, 2, 0, 0, 1, 1, 1, 1, 1, 1, 1, 1, 1, 0, 1, 1, 1, 0, 0, 1, 1, 1, 1, 1, 1, 1, 1, 1, 1, 0, 1, 1, 1, 1, 1, 0, 0, 0, 3, 3, 0, 0, 0, 1, 1, 1, 1, 1, 1, 1, 1, 1, 1, 1, 1, 1, 1, 1, 0, 0, 1, 1, 0, 0, 0, 1, 1, 1, 0, 1, 1, 0, 1, 1, 1, 0, 1, 1, 1, 1, 0, 1, 0, 0, 1, 1, 1, 1, 1, 1, 1, 1, 1, 1, 0, 0, 0, 1, 1, 1, 0, 1, 0, 1, 0, 1, 1, 1, 0, 1, 1, 1, 1, 1, 1, 1, 1, 1, 1, 1, 1, 2, 1, 0, 1, 1, 1, 1, 1, 1, 1, 1, 1, 1, 1, 1, 1, 0, 1, 1, 1, 0, 1, 0, 1, 0, 0, 0, 0, 0, 0, 0, 0, 0, 0, 0, 1, 1, 0, 0, 1, 0, 0, 0, 1, 1, 1, 0, 1, 1, 1, 1, 1, 1, 1, 1, 1, 0, 0, 1, 0, 0, 0, 0, 1, 1, 1, 1, 1, 2, 1, 1, 1, 1, 1, 1, 1, 1, 1, 1, 0, 1, 2, 1, 2, 1, 0, 1, 1, 1, 1]
def pg_YM : List (MethodName × ByteArray × Nat × Option FieldType) := [(yX0_init, cX0_init, 1, none),
  (yX0_clear, cX0_clear, 2, none),
  (yX0_height, cX0_height, 1, (some .int)),
  (yX0_append, cX0_append, 1, (some .int)),
  (yX0_has, cX0_has, 3, (some .boolean)),
  (yX0_unknownAt, cX0_unknownAt, 3, (some .boolean)),
  (yX0_numberAt, cX0_numberAt, 3, (some .long)),
  (yX0_set, cX0_set, 6, none),
  (yX1_init, cX1_init, 3, none),
  (yX1_firstIll, cX1_firstIll, 1, (some .int)),
  (yX1_noteIll, cX1_noteIll, 2, none),
  (yX1_checkItems, cX1_checkItems, 2, none),
  (yX1_checkColumns, cX1_checkColumns, 3, none),
  (yX1_checkOuts, cX1_checkOuts, 3, none),
  (yX2_init, cX2_init, 4, none),
  (yX2_seen, cX2_seen, 1, (some .int)),
  (yX2_goThroughAll, cX2_goThroughAll, 1, (some .boolean)),
  (yX2_goThrough, cX2_goThrough, 6, (some .boolean)),
  (yX2_goOn, cX2_goOn, 2, (some .boolean)),
  (yX2_gather, cX2_gather, 3, (some .boolean)),
  (yX2_lineOfGroup, cX2_lineOfGroup, 2, (some .int)),
  (yX2_isOfGroup, cX2_isOfGroup, 5, (some .boolean)),
  (yX2_keyOf, cX2_keyOf, 2, (some .int)),
  (yX2_begin, cX2_begin, 5, none),
  (yX2_tally, cX2_tally, 10, none),
  (yX2_joined, cX2_joined, 5, (some .long)),
  (yX3_init, cX3_init, 1, none),
  (yX3_clear, cX3_clear, 1, none),
  (yX3_count, cX3_count, 1, (some .int)),
  (yX3_addColumn, cX3_addColumn, 5, (some .int)),
  (yX3_addConstant, cX3_addConstant, 4, (some .int)),
  (yX3_isColumn, cX3_isColumn, 2, (some .boolean)),
  (yX3_placeOf, cX3_placeOf, 2, (some .int)),
  (yX3_aliasOf, cX3_aliasOf, 2, (some .int)),
  (yX3_letterOf, cX3_letterOf, 2, (some .int)),
  (yX3_lastItemOf, cX3_lastItemOf, 2, (some .int)),
  (yX3_itemOf, cX3_itemOf, 2, (some .int)),
  (yX3_setItem, cX3_setItem, 3, none),
  (yX3_sameColumn, cX3_sameColumn, 3, (some .boolean)),
  (yX3_numberOf, cX3_numberOf, 2, (some .int)),
  (yX3_unknownOf, cX3_unknownOf, 2, (some .boolean)),
  (yX3_load, cX3_load, 6, none),
  (yX4_init, cX4_init, 3, none),
  (yX4_readQuery, cX4_readQuery, 1, (some .boolean)),
  (yX4_readOuts, cX4_readOuts, 2, (some .boolean)),
  (yX4_readOut, cX4_readOut, 4, (some .boolean)),
  (yX4_readItem, cX4_readItem, 5, (some .boolean)),
  (yX4_readJoined, cX4_readJoined, 3, (some .boolean)),
  (yX4_readWhere, cX4_readWhere, 1, (some .boolean)),
  (yX4_readGroup, cX4_readGroup, 3, (some .boolean)),
  (yX4_readCondition, cX4_readCondition, 5, (some .boolean)),
  (yX4_readConjunction, cX4_readConjunction, 3, (some .boolean)),
  (yX4_readPart, cX4_readPart, 3, (some .boolean)),
  (yX4_notePart, cX4_notePart, 4, none),
  (yX4_readTest, cX4_readTest, 3, (some .boolean)),
  (yX4_readComparison, cX4_readComparison, 4, (some .boolean)),
  (yX4_readOperand, cX4_readOperand, 3, (some .int)),
  (yX4_readColumn, cX4_readColumn, 4, (some .int)),
  (yX4_isAlias, cX4_isAlias, 1, (some .boolean)),
  (yX5_init, cX5_init, 1, none),
  (yX5_clear, cX5_clear, 1, none),
  (yX5_settle, cX5_settle, 1, none),
  (yX5_operands, cX5_operands, 1, (some (.object "QueryLoops$Operands"))),
  (yX5_steps, cX5_steps, 1, (some (.object "QueryLoops$Steps"))),
  (yX5_addItem, cX5_addItem, 6, none),
  (yX5_addOut, cX5_addOut, 3, none),
  (yX5_addGrouped, cX5_addGrouped, 2, none),
  (yX5_itemCount, cX5_itemCount, 1, (some .int)),
  (yX5_tableOf, cX5_tableOf, 2, (some .int)),
  (yX5_tablePlaceOf, cX5_tablePlaceOf, 2, (some .int)),
  (yX5_aliasOf, cX5_aliasOf, 2, (some .int)),
  (yX5_aliasPlaceOf, cX5_aliasPlaceOf, 2, (some .int)),
  (yX5_isLeft, cX5_isLeft, 2, (some .boolean)),
  (yX5_itemWith, cX5_itemWith, 3, (some .int)),
  (yX5_uses, cX5_uses, 3, (some .boolean)),
  (yX5_outCount, cX5_outCount, 1, (some .int)),
  (yX5_outKind, cX5_outKind, 2, (some .int)),
  (yX5_outColumn, cX5_outColumn, 2, (some .int)),
  (yX5_groupedCount, cX5_groupedCount, 1, (some .int)),
  (yX5_groupColumn, cX5_groupColumn, 2, (some .int)),
  (yX5_groupsBy, cX5_groupsBy, 3, (some .boolean)),
  (yX5_gathers, cX5_gathers, 2, (some .boolean)),
  (yX6_init, cX6_init, 2, none),
  (yX6_clear, cX6_clear, 1, none),
  (yX6_count, cX6_count, 1, (some .int)),
  (yX6_partCount, cX6_partCount, 1, (some .int)),
  (yX6_add, cX6_add, 4, none),
  (yX6_addPart, cX6_addPart, 5, none),
  (yX6_settle, cX6_settle, 2, none),
  (yX6_lastItemIn, cX6_lastItemIn, 5, (some .int)),
  (yX6_allTrue, cX6_allTrue, 4, (some .boolean)),
  (yX6_truthOf, cX6_truthOf, 6, (some .int)),
  (yX6_turnTop, cX6_turnTop, 2, none),
  (yX6_joinTop, cX6_joinTop, 5, (some .int)),
  (yX6_testOf, cX6_testOf, 6, (some .int)),
  (yX7_init, cX7_init, 1, none),
  (yX7_width, cX7_width, 2, (some .int)),
  (yX7_height, cX7_height, 2, (some .int)),
  (yX7_make, cX7_make, 3, (some .boolean)),
  (yX7_append, cX7_append, 6, none),
  (yX7_dropFirst, cX7_dropFirst, 5, (some .int)),
  (yX7_numberAt, cX7_numberAt, 5, (some .int)),
  (yX7_unknownAt, cX7_unknownAt, 5, (some .boolean)),
  (yX7_cellOf, cX7_cellOf, 4, (some .int)),
  (yX8_init, cX8_init, 1, none),
  (yX8_append, cX8_append, 2, (some .boolean)),
  (yX8_clear, cX8_clear, 1, none),
  (yX8_splitInto, cX8_splitInto, 4, none),
  (yX8_codeAt, cX8_codeAt, 2, (some .char)),
  (yX8_readToken, cX8_readToken, 6, (some .int)),
  (yX8_endOfWord, cX8_endOfWord, 4, (some .int)),
  (yX8_readNumeral, cX8_readNumeral, 8, (some .int)),
  (yX8_wordKind, cX8_wordKind, 3, (some .int)),
  (yX8_spells, cX8_spells, 5, (some .boolean)),
  (yX8_isSmall, cX8_isSmall, 1, (some .boolean)),
  (yX8_isCapital, cX8_isCapital, 1, (some .boolean)),
  (yX8_isDigit, cX8_isDigit, 1, (some .boolean)),
  (yX8_isSign, cX8_isSign, 1, (some .boolean)),
  (yX9_init, cX9_init, 1, none),
  (yX9_clear, cX9_clear, 1, none),
  (yX9_add, cX9_add, 4, none),
  (yX9_nextKind, cX9_nextKind, 1, (some .int)),
  (yX9_nextPlace, cX9_nextPlace, 1, (some .int)),
  (yX9_nextNumber, cX9_nextNumber, 1, (some .int)),
  (yX9_advance, cX9_advance, 1, none),
  (yX9_take, cX9_take, 2, (some .boolean)),
  (yX10_init, cX10_init, 1, none),
  (yX10_size, cX10_size, 1, (some .int)),
  (yX10_clear, cX10_clear, 1, none),
  (yX10_put, cX10_put, 3, (some .boolean)),
  (yX10_numberAt, cX10_numberAt, 2, (some .int)),
  (yX10_unknownAt, cX10_unknownAt, 2, (some .boolean)),
  (yX11_init, cX11_init, 1, none),
  (yX11_declare, cX11_declare, 3, (some .boolean)),
  (yX11_value, cX11_value, 2, (some .boolean)),
  (yX11_nothing, cX11_nothing, 1, (some .boolean)),
  (yX11_row, cX11_row, 5, (some .int)),
  (yX11_drop, cX11_drop, 2, (some .int)),
  (yX11_ask, cX11_ask, 2, (some .boolean)),
  (yX11_compile, cX11_compile, 1, (some .int)),
  (yX11_place, cX11_place, 1, (some .int)),
  (yX11_run, cX11_run, 1, (some .int)),
  (yX11_looked, cX11_looked, 1, (some .int)),
  (yX11_rows, cX11_rows, 1, (some .int)),
  (yX11_isNull, cX11_isNull, 3, (some .boolean)),
  (yX11_result, cX11_result, 3, (some .long)),
  (yX11_get, cX11_get, 2, (some .int)),
  (yX12_init, cX12_init, 1, none),
  (yX12_thrown, cX12_thrown, 1, (some .int)),
  (yX12_fail, cX12_fail, 2, (some .int)),
  (yX12_isTable, cX12_isTable, 2, (some .boolean)),
  (yX12_declare, cX12_declare, 4, (some .boolean)),
  (yX12_put, cX12_put, 3, (some .boolean)),
  (yX12_value, cX12_value, 2, (some .boolean)),
  (yX12_nothing, cX12_nothing, 1, (some .boolean)),
  (yX12_row, cX12_row, 4, (some .int)),
  (yX12_drop, cX12_drop, 3, (some .int)),
  (yX12_ask, cX12_ask, 2, (some .boolean)),
  (yX12_at, cX12_at, 2, (some .char)),
  (yX12_isSmall, cX12_isSmall, 1, (some .boolean)),
  (yX12_isDigit, cX12_isDigit, 1, (some .boolean)),
  (yX12_stop, cX12_stop, 2, none),
  (yX12_readWord, cX12_readWord, 4, (some .int)),
  (yX12_readNumeral, cX12_readNumeral, 5, (some .int)),
  (yX12_look, cX12_look, 3, (some .int)),
  (yX12_wrong, cX12_wrong, 1, none),
  (yX12_take, cX12_take, 2, (some .boolean)),
  (yX12_want, cX12_want, 2, none),
  (yX12_isIn, cX12_isIn, 3, (some .boolean)),
  (yX12_readColumn, cX12_readColumn, 1, none),
  (yX12_readOut, cX12_readOut, 2, none),
  (yX12_readOuts, cX12_readOuts, 1, none),
  (yX12_readOperand, cX12_readOperand, 2, none),
  (yX12_readComparison, cX12_readComparison, 2, none),
  (yX12_closeNots, cX12_closeNots, 1, none),
  (yX12_readCondition, cX12_readCondition, 3, none),
  (yX12_readItem, cX12_readItem, 3, none),
  (yX12_readGroup, cX12_readGroup, 2, none),
  (yX12_readQuery, cX12_readQuery, 3, none),
  (yX12_spot, cX12_spot, 3, none),
  (yX12_itemOf, cX12_itemOf, 3, (some .int)),
  (yX12_columnOf, cX12_columnOf, 2, (some .int)),
  (yX12_checkColumn, cX12_checkColumn, 4, none),
  (yX12_checkRange, cX12_checkRange, 5, none),
  (yX12_isGrouped, cX12_isGrouped, 4, (some .boolean)),
  (yX12_checkAll, cX12_checkAll, 2, none),
  (yX12_addPart, cX12_addPart, 5, none),
  (yX12_findParts, cX12_findParts, 5, none),
  (yX12_compile, cX12_compile, 1, (some .int)),
  (yX12_place, cX12_place, 1, (some .int)),
  (yX12_takeOperand, cX12_takeOperand, 3, (some .int)),
  (yX12_fetch, cX12_fetch, 4, none),
  (yX12_not, cX12_not, 1, (some .int)),
  (yX12_both, cX12_both, 2, (some .int)),
  (yX12_either, cX12_either, 2, (some .int)),
  (yX12_compare, cX12_compare, 7, (some .int)),
  (yX12_truthOf, cX12_truthOf, 7, (some .int)),
  (yX12_passes, cX12_passes, 4, (some .boolean)),
  (yX12_sameKey, cX12_sameKey, 3, (some .boolean)),
  (yX12_newRow, cX12_newRow, 2, (some .boolean)),
  (yX12_groupRow, cX12_groupRow, 2, (some .int)),
  (yX12_gather, cX12_gather, 6, none),
  (yX12_found, cX12_found, 3, none),
  (yX12_fits, cX12_fits, 2, (some .boolean)),
  (yX12_third, cX12_third, 4, none),
  (yX12_afterSecond, cX12_afterSecond, 1, none),
  (yX12_second, cX12_second, 4, none),
  (yX12_first, cX12_first, 2, none),
  (yX12_run, cX12_run, 1, (some .int)),
  (yX12_looked, cX12_looked, 1, (some .int)),
  (yX12_rows, cX12_rows, 1, (some .int)),
  (yX12_isThere, cX12_isThere, 3, (some .boolean)),
  (yX12_isNull, cX12_isNull, 3, (some .boolean)),
  (yX12_result, cX12_result, 3, (some .long)),
  (yJ0_length_8abf5, cJ0_length_8abf5, 1, (some .int)),
  (yJ0_coder_7d493, cJ0_coder_7d493, 1, (some .byte)),
  (yJ0_charAt_5068e, cJ0_charAt_5068e, 2, (some .char)),
  (yJ0_isLatin1_aae02, cJ0_isLatin1_aae02, 1, (some .boolean)),
  (yJ0_indexOf_0f7a4, cJ0_indexOf_0f7a4, 2, (some .int)),
  (yJ0_indexOf_7cf53, cJ0_indexOf_7cf53, 3, (some .int)),
  (yJ1_charAt_3b067, cJ1_charAt_3b067, 2, (some .char)),
  (yJ1_canEncode_9a6ad, cJ1_canEncode_9a6ad, 1, (some .boolean)),
  (yJ1_indexOf_4cfef, cJ1_indexOf_4cfef, 4, (some .int)),
  (yJ1_indexOfChar_4cfef, cJ1_indexOfChar_4cfef, 6, (some .int)),
  (yJ0_checkIndex_df160, cJ0_checkIndex_df160, 2, none),
  (yJ9_max_7cf53, cJ9_max_7cf53, 2, (some .int)),
  (yJ9_max_f86c9, cJ9_max_f86c9, 4, (some .long)),
  (yJ9_min_7cf53, cJ9_min_7cf53, 2, (some .int)),
  (yJ9_min_f86c9, cJ9_min_f86c9, 4, (some .long)),
  (yJ6_compare_7cf53, cJ6_compare_7cf53, 2, (some .int)),
  (yJ0_checkBoundsBeginEnd_23922, cJ0_checkBoundsBeginEnd_23922, 3, none),
  (yJ3_checkIndex_8e157, cJ3_checkIndex_8e157, 3, (some .int)),
  (yL_row, cL_row, 4, (some .int)),
  (yL_compile, cL_compile, 3, (some .int)),
  (yL_run, cL_run, 3, (some .int))]
def pg_ym : q_ym := fun mid => pg_YM.getD mid (⟨"", "", ""⟩, ⟨#[]⟩, 0, none)
def pg_fl (co idx : Nat) : Option (Nat × Nat) := ((pg_FL.getD co []).find? (fun t => t.1 == idx)).map (fun t => (t.2.1, t.2.2.1))
def pg_mk (co idx : Nat) : Option (Nat × Nat × Nat) := ((pg_MK.getD co []).find? (fun t => t.1 == idx)).map (fun t => (t.2.1, t.2.2.1, t.2.2.2.1))
def pg_cn (co idx : Nat) : Option Nat := ((pg_CN.getD co []).find? (fun t => t.1 == idx)).map (fun t => t.2.1)
def pg_ld (co idx : Nat) : Option q_V := ((pg_LD.getD co []).find? (fun t => t.1 == idx)).map (fun t => t.2.1)
def pg_ft (ci j : Nat) : Nat := (pg_FT.getD ci []).getD j 9
def pg_mm (mid : Nat) : Nat × Nat × Nat := pg_MM.getD mid (0, 0, 0)
def pg_nf (ci : Nat) : Nat := (pg_FT.getD ci []).length
def pg_rk (mid : Nat) : Nat := pg_RK.getD mid 9
def pg_P (sc : List Int) : q_P := (pg_fl, pg_mk, pg_cn, pg_ld, pg_ft, pg_mm, pg_nf, pg_SB, pg_rk, sc)
