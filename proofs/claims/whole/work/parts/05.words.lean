/-! ===== the words that the tables name stand in the law's list ===== -/
theorem xmem {ws : List Cond} (ps : List Nat) (h : ws = ps.filterMap (fun i => lw_tbl[i]?)) : ∀ w ∈ ws, w ∈ lw_tbl := by
  intro w hw
  rw [h] at hw
  obtain ⟨i, -, hi⟩ := List.mem_filterMap.mp hw
  exact List.mem_of_getElem? hi
set_option maxRecDepth 100000 in
theorem xw_Fp : ∀ w ∈ xFp.map xFpw, w ∈ lw_tbl := xmem [123, 125, 129, 131, 133, 135, 139, 141, 143, 146, 230, 231, 232, 228, 229, 176, 177, 190, 192, 193, 194, 214, 212, 213, 244, 245, 246, 247, 248, 249, 250, 251, 252, 253, 254, 716, 720, 721, 722, 723, 724, 725, 727, 728, 730, 735, 736, 737, 738, 739, 744, 745, 746, 747, 748, 751, 726, 719, 718, 729, 717, 731, 732, 733, 734, 742, 743, 741, 740, 749, 750, 752] (by decide +kernel)
set_option maxRecDepth 100000 in
theorem xw_Fn : ∀ w ∈ xFn.map xFnw, w ∈ lw_tbl := xmem [137, 126, 136, 144, 195, 127, 178, 145, 147, 142, 132, 134, 191, 138, 130, 124, 140, 128] (by decide +kernel)
set_option maxRecDepth 100000 in
theorem xw_Mp : ∀ w ∈ xMp.map xMpw, w ∈ lw_tbl := xmem [119, 345, 349, 353, 357, 518, 583, 602, 611, 607, 598, 588, 592, 305, 309, 329, 323, 317, 313, 320, 336, 527, 530, 567, 539, 543, 282, 415, 425, 439, 444, 447, 460, 470, 499, 556, 576, 627, 672, 681, 699, 705, 463, 503, 631, 712, 854, 895, 891, 887, 883, 964, 832, 844, 848, 857, 875, 879, 899, 903, 840, 861, 869, 865, 924, 927, 961, 967, 971, 980, 989, 993, 998, 1026, 1018, 1022, 1030, 1034, 1014, 1010, 1062, 1078, 1058, 1066, 1070, 1074, 1054, 1090, 1110, 1130, 1145, 107, 708, 278, 828, 290, 836, 384, 915, 401, 920, 406, 931, 411, 935, 417, 940, 421, 944, 427, 948, 431, 952, 435, 956, 475, 976, 483, 984, 510, 1002, 519, 1006, 552, 1042, 559, 1046, 568, 1038, 572, 1050, 619, 1082, 623, 1086, 634, 1094, 638, 1098, 643, 1102, 647, 1106, 655, 1114, 660, 1118, 664, 1122, 668, 1126, 676, 1134, 687, 907, 691, 911, 695, 1141] (by decide +kernel)
set_option maxRecDepth 100000 in
theorem xw_Mn : ∀ w ∈ xMn.map xMnw, w ∈ lw_tbl := xmem [374, 381, 361, 606, 587, 596, 340, 341, 366, 370, 377, 455, 534, 547, 115, 172, 186, 208, 224, 286, 294, 301, 388, 389, 393, 397, 405, 410, 416, 426, 456, 466, 479, 487, 491, 495, 514, 523, 563, 579, 615, 651, 659, 451] (by decide +kernel)
set_option maxRecDepth 100000 in
theorem xw_Ob : ∀ w ∈ xOb.map xObw, w ∈ lw_tbl := xmem [118, 227, 175, 189, 211, 110, 711] (by decide +kernel)
set_option maxRecDepth 100000 in
theorem xw_Cp : ∀ w ∈ xCp.map xCpw, w ∈ lw_tbl := xmem [298] (by decide +kernel)
set_option maxRecDepth 100000 in
theorem xw_M902 : ∀ w ∈ xM902.map (xMaw Lib.Math.max.name), w ∈ lw_tbl := xmem [326, 364] (by decide +kernel)
set_option maxRecDepth 100000 in
theorem xw_M903 : ∀ w ∈ xM903.map (xMaw Lib.Math.min.name), w ∈ lw_tbl := xmem [333, 365] (by decide +kernel)
set_option maxRecDepth 100000 in
theorem xw_M904 : ∀ w ∈ xM904.map (xMaw Lib.MathLoose.max_long.x), w ∈ lw_tbl := xmem [548, 507] (by decide +kernel)
set_option maxRecDepth 100000 in
theorem xw_M905 : ∀ w ∈ xM905.map (xMaw Lib.MathLoose.min_long.x), w ∈ lw_tbl := xmem [549] (by decide +kernel)
set_option maxRecDepth 100000 in
theorem xw_Ci : ∀ w ∈ xCi.map xCiw, w ∈ lw_tbl := xmem [680, 685, 686, 1138, 1139, 1140, 702, 703, 704] (by decide +kernel)
set_option maxRecDepth 100000 in
theorem xw_Cj : ∀ w ∈ xCj.map xCjw, w ∈ lw_tbl := xmem [597, 538, 474, 642, 443, 873, 852, 853, 874, 919, 939, 960, 975, 997, 988, 1148, 1149] (by decide +kernel)
set_option maxRecDepth 100000 in
theorem xw_Nw : ∀ w ∈ xNw.map xNww, w ∈ lw_tbl := xmem [113, 170, 184, 206, 222, 105, 706] (by decide +kernel)
def xl_Se0 : List Nat := [1, 2, 3, 4, 5, 6, 7, 8, 9, 10, 11, 12, 13, 14, 15, 17, 18, 19, 20, 21, 22, 23, 24, 25, 27, 28, 29, 30, 34, 35, 36, 38, 39, 40, 41, 42, 43, 44, 45, 47, 48, 49, 51, 52, 54, 55, 56, 57, 58, 59]
set_option maxRecDepth 100000 in
theorem xw_Se0 : ∀ w ∈ xl_Se0.map xSew, w ∈ lw_tbl := xmem [0, 3, 11, 19, 12, 18, 10, 15, 16, 17, 50, 20, 14, 13, 33, 48, 40, 44, 46, 47, 45, 41, 42, 43, 2, 4, 5, 6, 7, 8, 9, 23, 24, 25, 36, 27, 29, 30, 28, 34, 39, 37, 35, 38, 280, 292, 386, 403, 408, 413] (by decide +kernel)
def xl_Se1 : List Nat := [60, 61, 62, 63, 64, 65, 66, 67, 68, 69, 70, 71, 72, 73, 74, 75, 76, 77, 78, 79, 80, 81, 82, 83, 84, 85, 86, 87, 88, 96, 97, 98, 99, 100, 102, 103, 107, 108, 109, 111, 112, 113, 114, 115, 116, 117, 120, 121, 122, 123]
set_option maxRecDepth 100000 in
theorem xw_Se1 : ∀ w ∈ xl_Se1.map xSew, w ∈ lw_tbl := xmem [419, 423, 429, 433, 437, 477, 485, 512, 521, 554, 561, 570, 574, 621, 625, 636, 640, 645, 649, 657, 662, 666, 670, 678, 689, 693, 697, 1, 21, 22, 26, 31, 32, 49, 51, 52, 53, 54, 62, 67, 66, 65, 64, 63, 74, 73, 830, 56, 57, 58] (by decide +kernel)
def xl_Se2 : List Nat := [124, 125, 126, 127, 128, 129, 130, 131, 132, 133, 134, 135, 136, 137, 138, 139, 140, 141, 142, 143, 144, 145, 146, 147, 148, 149, 150, 151, 152, 153, 154, 155, 156, 157, 158, 159, 160, 161, 162, 163, 164, 165, 166, 167, 168, 169, 170, 171, 172, 173]
set_option maxRecDepth 100000 in
theorem xw_Se2 : ∀ w ∈ xl_Se2.map xSew, w ∈ lw_tbl := xmem [55, 68, 69, 61, 838, 60, 59, 909, 913, 917, 70, 922, 933, 937, 942, 946, 950, 954, 72, 71, 958, 978, 75, 76, 986, 1004, 81, 79, 80, 82, 83, 78, 77, 1008, 1040, 1044, 1048, 86, 85, 87, 88, 90, 89, 84, 1052, 1084, 91, 1088, 1096, 1100] (by decide +kernel)
def xl_Se3 : List Nat := [174, 175, 176, 177, 178, 179, 180, 181, 182, 184]
set_option maxRecDepth 100000 in
theorem xw_Se3 : ∀ w ∈ xl_Se3.map xSew, w ∈ lw_tbl := xmem [1104, 92, 1108, 1116, 1120, 1124, 93, 1128, 1136, 1143] (by decide +kernel)
def xl_Se : List Nat := xl_Se0 ++ (xl_Se1 ++ (xl_Se2 ++ (xl_Se3)))
theorem xw_Se : ∀ k ∈ xl_Se, xSew k ∈ lw_tbl := (fun k h => (List.mem_append.mp h).elim (fun h => xw_Se0 _ (List.mem_map_of_mem h)) ((fun k h => (List.mem_append.mp h).elim (fun h => xw_Se1 _ (List.mem_map_of_mem h)) ((fun k h => (List.mem_append.mp h).elim (fun h => xw_Se2 _ (List.mem_map_of_mem h)) ((fun k h => xw_Se3 _ (List.mem_map_of_mem h)) k)) k)) k))
def xl_In0 : List Nat := [0, 1, 2, 3, 4, 5, 6, 7, 8, 9, 10, 11, 12, 13, 14, 15, 16, 17, 18, 19, 20, 21, 22, 23, 24, 25, 26, 27, 28, 29, 30, 34, 35, 36, 37, 38, 39, 40, 41, 42, 43, 44, 45, 46, 47, 48, 49, 51, 52, 53]
set_option maxRecDepth 100000 in
theorem xw_In0 : ∀ w ∈ xl_In0.map xInw, w ∈ lw_tbl := xmem [116, 121, 296, 347, 395, 351, 391, 343, 368, 372, 379, 653, 399, 359, 355, 516, 225, 617, 581, 600, 609, 613, 604, 585, 590, 594, 173, 288, 303, 307, 311, 315, 331, 338, 187, 453, 458, 468, 536, 481, 493, 497, 489, 209, 525, 565, 541, 532, 545, 108] (by decide +kernel)
def xl_In1 : List Nat := [54, 55, 56, 57, 58, 59, 60, 61, 62, 63, 64, 65, 66, 67, 68, 69, 70, 71, 72, 73, 74, 75, 76, 77, 78, 79, 80, 81, 82, 83, 84, 85, 86, 87, 88, 96, 97, 98, 99, 100, 102, 103, 105, 107, 108, 109, 111, 112, 113, 114]
set_option maxRecDepth 100000 in
theorem xw_In1 : ∀ w ∈ xl_In1.map xInw, w ∈ lw_tbl := xmem [279, 291, 385, 402, 407, 412, 418, 422, 428, 432, 436, 476, 484, 511, 520, 553, 560, 569, 573, 620, 624, 635, 639, 644, 648, 656, 661, 665, 669, 677, 688, 692, 696, 284, 441, 449, 472, 501, 505, 629, 674, 683, 709, 714, 834, 877, 897, 893, 889, 885] (by decide +kernel)
def xl_In2 : List Nat := [115, 116, 117, 120, 121, 122, 123, 124, 125, 126, 127, 128, 129, 130, 131, 132, 133, 134, 135, 136, 137, 138, 139, 140, 141, 142, 143, 144, 145, 146, 147, 148, 149, 150, 151, 152, 153, 154, 155, 156, 157, 158, 159, 160, 161, 162, 163, 164, 165, 166]
set_option maxRecDepth 100000 in
theorem xw_In2 : ∀ w ∈ xl_In2.map xInw, w ∈ lw_tbl := xmem [881, 991, 982, 829, 846, 850, 859, 842, 901, 905, 871, 837, 867, 863, 908, 912, 916, 929, 921, 932, 936, 941, 945, 949, 953, 973, 969, 957, 977, 995, 1000, 985, 1003, 1028, 1020, 1024, 1032, 1036, 1016, 1012, 1007, 1039, 1043, 1047, 1064, 1060, 1068, 1072, 1080, 1076] (by decide +kernel)
def xl_In3 : List Nat := [167, 168, 169, 170, 171, 172, 173, 174, 175, 176, 177, 178, 179, 180, 181, 182, 184]
set_option maxRecDepth 100000 in
theorem xw_In3 : ∀ w ∈ xl_In3.map xInw, w ∈ lw_tbl := xmem [1056, 1051, 1083, 1092, 1087, 1095, 1099, 1103, 1112, 1107, 1115, 1119, 1123, 1132, 1127, 1135, 1142] (by decide +kernel)
def xl_In : List Nat := xl_In0 ++ (xl_In1 ++ (xl_In2 ++ (xl_In3)))
theorem xw_In : ∀ k ∈ xl_In, xInw k ∈ lw_tbl := (fun k h => (List.mem_append.mp h).elim (fun h => xw_In0 _ (List.mem_map_of_mem h)) ((fun k h => (List.mem_append.mp h).elim (fun h => xw_In1 _ (List.mem_map_of_mem h)) ((fun k h => (List.mem_append.mp h).elim (fun h => xw_In2 _ (List.mem_map_of_mem h)) ((fun k h => xw_In3 _ (List.mem_map_of_mem h)) k)) k)) k))
def xl_St0 : List Nat := [31, 32, 33, 50, 89, 90, 91, 92, 93, 94, 95, 101, 104, 106, 110, 118, 119, 183, 185]
set_option maxRecDepth 100000 in
theorem xw_St0 : ∀ w ∈ xl_St0.map xStw, w ∈ lw_tbl := xmem [318, 324, 321, 528, 375, 382, 445, 577, 557, 461, 464, 632, 362, 855, 925, 965, 962, 1146, 700] (by decide +kernel)
def xl_St : List Nat := xl_St0
theorem xw_St : ∀ k ∈ xl_St, xStw k ∈ lw_tbl := (fun k h => xw_St0 _ (List.mem_map_of_mem h))
def xl_Iy0 : List Nat := [0, 1, 2, 3, 4, 5, 6, 7, 8, 9, 10, 11, 12, 13, 14, 15, 16, 17, 18, 19, 20, 21, 22, 23, 24, 25, 26, 27, 28, 29, 30, 31, 32, 33, 34, 35, 36, 37, 38, 39, 40, 41, 42, 43, 44, 45, 46, 47, 48, 49]
set_option maxRecDepth 100000 in
theorem xw_Iy0 : ∀ w ∈ xl_Iy0.map xIyw, w ∈ lw_tbl := xmem [96, 96, 96, 96, 96, 96, 96, 96, 96, 96, 96, 96, 96, 96, 96, 96, 100, 100, 100, 100, 100, 100, 100, 100, 100, 100, 97, 97, 97, 97, 97, 97, 97, 97, 97, 97, 97, 98, 98, 98, 98, 98, 98, 98, 98, 98, 99, 99, 99, 99] (by decide +kernel)
def xl_Iy1 : List Nat := [50, 51, 52, 53, 54, 55, 56, 57, 58, 59, 60, 61, 62, 63, 64, 65, 66, 67, 68, 69, 70, 71, 72, 73, 74, 75, 76, 77, 78, 79, 80, 81, 82, 83, 84, 85, 86, 87, 88, 89, 90, 91, 92, 93, 94, 95, 96, 97, 98, 99]
set_option maxRecDepth 100000 in
theorem xw_Iy1 : ∀ w ∈ xl_Iy1.map xIyw, w ∈ lw_tbl := xmem [99, 99, 99, 95, 95, 95, 95, 95, 95, 95, 95, 95, 95, 95, 95, 95, 95, 95, 95, 95, 95, 95, 95, 95, 95, 95, 95, 95, 95, 95, 95, 95, 95, 95, 95, 95, 95, 95, 95, 95, 95, 95, 95, 95, 95, 95, 95, 95, 95, 95] (by decide +kernel)
def xl_Iy2 : List Nat := [100, 101, 102, 103, 104, 105, 106, 107, 108, 109, 110, 111, 112, 113, 114, 115, 116, 117, 118, 119, 120, 121, 122, 123, 124, 125, 126, 127, 128, 129, 130, 131, 132, 133, 134, 135, 136, 137, 138, 139, 140, 141, 142, 143, 144, 145, 146, 147, 148, 149]
set_option maxRecDepth 100000 in
theorem xw_Iy2 : ∀ w ∈ xl_Iy2.map xIyw, w ∈ lw_tbl := xmem [95, 95, 95, 95, 95, 101, 101, 101, 101, 101, 101, 101, 101, 101, 101, 101, 101, 101, 101, 101, 101, 101, 101, 101, 101, 101, 101, 101, 101, 101, 101, 101, 101, 101, 101, 101, 101, 101, 101, 101, 101, 101, 101, 101, 101, 101, 101, 101, 101, 101] (by decide +kernel)
def xl_Iy3 : List Nat := [150, 151, 152, 153, 154, 155, 156, 157, 158, 159, 160, 161, 162, 163, 164, 165, 166, 167, 168, 169, 170, 171, 172, 173, 174, 175, 176, 177, 178, 179, 180, 181, 182, 183, 184, 185]
set_option maxRecDepth 100000 in
theorem xw_Iy3 : ∀ w ∈ xl_Iy3.map xIyw, w ∈ lw_tbl := xmem [101, 101, 101, 101, 101, 101, 101, 101, 101, 101, 101, 101, 101, 101, 101, 101, 101, 101, 101, 101, 101, 101, 101, 101, 101, 101, 101, 101, 101, 101, 101, 101, 101, 101, 101, 104] (by decide +kernel)
def xl_Iy : List Nat := xl_Iy0 ++ (xl_Iy1 ++ (xl_Iy2 ++ (xl_Iy3)))
theorem xw_Iy : ∀ k ∈ xl_Iy, xIyw k ∈ lw_tbl := (fun k h => (List.mem_append.mp h).elim (fun h => xw_Iy0 _ (List.mem_map_of_mem h)) ((fun k h => (List.mem_append.mp h).elim (fun h => xw_Iy1 _ (List.mem_map_of_mem h)) ((fun k h => (List.mem_append.mp h).elim (fun h => xw_Iy2 _ (List.mem_map_of_mem h)) ((fun k h => xw_Iy3 _ (List.mem_map_of_mem h)) k)) k)) k))
def xl_Co0 : List Nat := [0, 1, 2, 3, 4, 5, 6, 7, 8, 9, 10, 11, 12, 13, 14, 15, 16, 17, 18, 19]
set_option maxRecDepth 100000 in
theorem xw_Co0 : ∀ w ∈ xl_Co0.map xCow, w ∈ lw_tbl := xmem [117, 122, 297, 348, 396, 352, 392, 344, 369, 373, 380, 654, 400, 360, 356, 517, 226, 618, 582, 601] rfl
def xl_Co1 : List Nat := [20, 21, 22, 23, 24, 25, 26, 27, 28, 29, 30, 31, 32, 33, 34, 35, 36, 37, 38, 39]
set_option maxRecDepth 100000 in
theorem xw_Co1 : ∀ w ∈ xl_Co1.map xCow, w ∈ lw_tbl := xmem [610, 614, 605, 586, 591, 595, 174, 289, 304, 308, 312, 319, 325, 322, 316, 332, 339, 188, 454, 459] rfl
def xl_Co2 : List Nat := [40, 41, 42, 43, 44, 45, 46, 47, 48, 49, 50, 51, 52, 53, 54, 55, 56, 57, 58, 59]
set_option maxRecDepth 100000 in
theorem xw_Co2 : ∀ w ∈ xl_Co2.map xCow, w ∈ lw_tbl := xmem [469, 537, 482, 494, 498, 490, 210, 526, 566, 542, 529, 533, 546, 109, 281, 293, 387, 404, 409, 414] rfl
def xl_Co3 : List Nat := [60, 61, 62, 63, 64, 65, 66, 67, 68, 69, 70, 71, 72, 73, 74, 75, 76, 77, 78, 79]
set_option maxRecDepth 100000 in
theorem xw_Co3 : ∀ w ∈ xl_Co3.map xCow, w ∈ lw_tbl := xmem [420, 424, 430, 434, 438, 478, 486, 513, 522, 555, 562, 571, 575, 622, 626, 637, 641, 646, 650, 658] rfl
def xl_Co4 : List Nat := [80, 81, 82, 83, 84, 85, 86, 87, 88, 89, 90, 91, 92, 93, 94, 95, 96, 97, 98, 99]
set_option maxRecDepth 100000 in
theorem xw_Co4 : ∀ w ∈ xl_Co4.map xCow, w ∈ lw_tbl := xmem [663, 667, 671, 679, 690, 694, 698, 285, 442, 376, 383, 446, 578, 558, 462, 465, 450, 473, 502, 506] rfl
def xl_Co5 : List Nat := [100, 101, 102, 103, 104, 105, 106, 107, 108, 109, 110, 111, 112, 113, 114, 115, 116, 117, 118, 119]
set_option maxRecDepth 100000 in
theorem xw_Co5 : ∀ w ∈ xl_Co5.map xCow, w ∈ lw_tbl := xmem [630, 633, 675, 684, 363, 710, 856, 715, 835, 878, 926, 898, 894, 890, 886, 882, 992, 983, 966, 963] rfl
def xl_Co6 : List Nat := [120, 121, 122, 123, 124, 125, 126, 127, 128, 129, 130, 131, 132, 133, 134, 135, 136, 137, 138, 139]
set_option maxRecDepth 100000 in
theorem xw_Co6 : ∀ w ∈ xl_Co6.map xCow, w ∈ lw_tbl := xmem [831, 847, 851, 860, 843, 902, 906, 872, 839, 868, 864, 910, 914, 918, 930, 923, 934, 938, 943, 947] rfl
def xl_Co7 : List Nat := [140, 141, 142, 143, 144, 145, 146, 147, 148, 149, 150, 151, 152, 153, 154, 155, 156, 157, 158, 159]
set_option maxRecDepth 100000 in
theorem xw_Co7 : ∀ w ∈ xl_Co7.map xCow, w ∈ lw_tbl := xmem [951, 955, 974, 970, 959, 979, 996, 1001, 987, 1005, 1029, 1021, 1025, 1033, 1037, 1017, 1013, 1009, 1041, 1045] rfl
def xl_Co8 : List Nat := [160, 161, 162, 163, 164, 165, 166, 167, 168, 169, 170, 171, 172, 173, 174, 175, 176, 177, 178, 179]
set_option maxRecDepth 100000 in
theorem xw_Co8 : ∀ w ∈ xl_Co8.map xCow, w ∈ lw_tbl := xmem [1049, 1065, 1061, 1069, 1073, 1081, 1077, 1057, 1053, 1085, 1093, 1089, 1097, 1101, 1105, 1113, 1109, 1117, 1121, 1125] rfl
def xl_Co9 : List Nat := [180, 181, 182, 183, 184, 185]
set_option maxRecDepth 100000 in
theorem xw_Co9 : ∀ w ∈ xl_Co9.map xCow, w ∈ lw_tbl := xmem [1133, 1129, 1137, 1147, 1144, 701] rfl
def xl_Co : List Nat := xl_Co0 ++ (xl_Co1 ++ (xl_Co2 ++ (xl_Co3 ++ (xl_Co4 ++ (xl_Co5 ++ (xl_Co6 ++ (xl_Co7 ++ (xl_Co8 ++ (xl_Co9)))))))))
theorem xw_Co : ∀ k ∈ xl_Co, xCow k ∈ lw_tbl := (fun k h => (List.mem_append.mp h).elim (fun h => xw_Co0 _ (List.mem_map_of_mem h)) ((fun k h => (List.mem_append.mp h).elim (fun h => xw_Co1 _ (List.mem_map_of_mem h)) ((fun k h => (List.mem_append.mp h).elim (fun h => xw_Co2 _ (List.mem_map_of_mem h)) ((fun k h => (List.mem_append.mp h).elim (fun h => xw_Co3 _ (List.mem_map_of_mem h)) ((fun k h => (List.mem_append.mp h).elim (fun h => xw_Co4 _ (List.mem_map_of_mem h)) ((fun k h => (List.mem_append.mp h).elim (fun h => xw_Co5 _ (List.mem_map_of_mem h)) ((fun k h => (List.mem_append.mp h).elim (fun h => xw_Co6 _ (List.mem_map_of_mem h)) ((fun k h => (List.mem_append.mp h).elim (fun h => xw_Co7 _ (List.mem_map_of_mem h)) ((fun k h => (List.mem_append.mp h).elim (fun h => xw_Co8 _ (List.mem_map_of_mem h)) ((fun k h => xw_Co9 _ (List.mem_map_of_mem h)) k)) k)) k)) k)) k)) k)) k)) k)) k))
set_option maxRecDepth 100000 in
theorem xw_Ini : ∀ w ∈ (List.range 10).map xIniw, w ∈ lw_tbl := xmem [96, 100, 97, 98, 99, 95, 101, 94, 104, 103] (by decide +kernel)
set_option maxRecDepth 100000 in
theorem xw_Ina : ∀ w ∈ (List.range 7).map xInaw, w ∈ lw_tbl := xmem [114, 223, 171, 185, 207, 106, 707] (by decide +kernel)
set_option maxRecDepth 100000 in
theorem xw_L0 : ∀ w ∈ u_ws RX0 TX0 10, w ∈ lw_tbl := xmem [148, 150, 152, 154, 156, 158, 160, 162, 164, 166] (by decide +kernel)
set_option maxRecDepth 100000 in
theorem xw_L1 : ∀ w ∈ u_ws RX1 TX1 5, w ∈ lw_tbl := xmem [233, 235, 237, 239, 241] (by decide +kernel)
set_option maxRecDepth 100000 in
theorem xw_L2 : ∀ w ∈ u_ws RX2 TX2 2, w ∈ lw_tbl := xmem [179, 181] (by decide +kernel)
set_option maxRecDepth 100000 in
theorem xw_L3 : ∀ w ∈ u_ws RX3 TX3 4, w ∈ lw_tbl := xmem [196, 198, 200, 202] (by decide +kernel)
set_option maxRecDepth 100000 in
theorem xw_L4 : ∀ w ∈ u_ws RX4 TX4 3, w ∈ lw_tbl := xmem [215, 217, 219] (by decide +kernel)
set_option maxRecDepth 100000 in
theorem xw_L5 : ∀ w ∈ u_ws RX5 TX5 11, w ∈ lw_tbl := xmem [255, 257, 259, 261, 263, 265, 267, 269, 271, 273, 275] (by decide +kernel)
set_option maxRecDepth 100000 in
theorem xw_L6 : ∀ w ∈ u_ws RX6 TX6 37, w ∈ lw_tbl := xmem [753, 755, 757, 759, 761, 763, 765, 767, 769, 771, 773, 775, 777, 779, 781, 783, 785, 787, 789, 791, 793, 795, 797, 799, 801, 803, 805, 807, 809, 811, 813, 815, 817, 819, 821, 823, 825] (by decide +kernel)
set_option maxRecDepth 100000 in
theorem xw_x : ∀ w ∈ [Cond.instanceMethod Lib.objectInit, Cond.code Lib.objectInit ⟨#[0xb1]⟩ 1 none, Cond.native arraycopyName, Cond.static arraycopyName, Cond.initialized "java/lang/System", Cond.arrayClass .int, Cond.arrayClass .long], w ∈ lw_tbl := xmem [111, 112, 300, 299, 102, 169, 205] (by decide +kernel)
/-- what is asked of a method's row -/
def xfacA (k : Nat) : Bool := plainName (xY k).cls && decide ((xY k).cls ≠ "java/lang/invoke/MethodHandle" ∧ (xY k).cls ≠ "java/lang/invoke/VarHandle")
def xfacB (k : Nat) : Bool := decide ((parseMethodDescriptor (xY k).desc).map (fun d => d.parameters.length) = some ((xMs k).1 - (bif Nat.beq (xMs k).2.1 0 then 0 else 1)))
def xfacC (k : Nat) : Bool := decide ((xY k).cls = xR (xOcs k)) && (decide (k ∈ xl_Co) && decide (k ∈ xl_Iy))
def xfacD (k : Nat) : Bool := bif Nat.beq (xMs k).2.1 0 then decide (k ∈ xl_St) && !(xMs k).2.2.2.2.1 else decide (k ∈ xl_In) && (Nat.beq (xMs k).2.1 (xOcs k + 1) && (Nat.ble (xOcs k) 6 && Nat.ble 1 (xMs k).1))
def xfacE (k : Nat) : Bool := bif Nat.beq (xMs k).2.1 0 then true else (bif (xMs k).2.2.2.2.1 then decide ((xY k).name = "<init>" ∧ xRt k = none) else decide (k ∈ xl_Se))
set_option maxRecDepth 100000 in
theorem xfacA_ok : ∀ k, k < 186 → xfacA k = true := by decide +kernel
set_option maxRecDepth 100000 in
theorem xfacB_ok : ∀ k, k < 186 → xfacB k = true := by decide +kernel
set_option maxRecDepth 100000 in
theorem xfacC_ok : ∀ k, k < 186 → xfacC k = true := by decide +kernel
set_option maxRecDepth 100000 in
theorem xfacD_ok : ∀ k, k < 186 → xfacD k = true := by decide +kernel
set_option maxRecDepth 100000 in
theorem xfacE_ok : ∀ k, k < 186 → xfacE k = true := by decide +kernel
theorem xms_at (k : Nat) (q) (h : xms[k]? = some q) : xMs k = q := by
  unfold xMs
  rw [List.getD_eq_getElem?_getD, h]; rfl

set_option maxRecDepth 100000 in
theorem xw_m0 : ∀ w ∈ [Cond.static Lib.Math.max.name, Cond.code Lib.Math.max.name Lib.Math.max.code 2 (some .int), Cond.initialized "java/lang/Math"], w ∈ lw_tbl := xmem [327, 328, 103] (by decide +kernel)
set_option maxRecDepth 100000 in
theorem xw_m1 : ∀ w ∈ [Cond.static Lib.Math.min.name, Cond.code Lib.Math.min.name Lib.Math.min.code 2 (some .int), Cond.initialized "java/lang/Math"], w ∈ lw_tbl := xmem [334, 335, 103] (by decide +kernel)
set_option maxRecDepth 100000 in
theorem xw_m2 : ∀ w ∈ [Cond.static Lib.MathLoose.max_long.x, Cond.code Lib.MathLoose.max_long.x Lib.MathLoose.max_long.code 4 (some .long), Cond.initialized "java/lang/Math"], w ∈ lw_tbl := xmem [508, 509, 103] (by decide +kernel)
set_option maxRecDepth 100000 in
theorem xw_m3 : ∀ w ∈ [Cond.static Lib.MathLoose.min_long.x, Cond.code Lib.MathLoose.min_long.x Lib.MathLoose.min_long.code 4 (some .long), Cond.initialized "java/lang/Math"], w ∈ lw_tbl := xmem [550, 551, 103] (by decide +kernel)
