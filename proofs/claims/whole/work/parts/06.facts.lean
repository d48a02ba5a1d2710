def rn_T : Nat → u_T := fun c => match c with
  | 0 => TX0
  | 1 => TX1
  | 2 => TX2
  | 3 => TX3
  | 4 => TX4
  | 5 => TX5
  | 6 => TX6
  | 7 => TX7
  | 8 => TX8
  | 9 => TX9
  | _ => TX10
def rn_ty : Nat → Nat → FieldType := fun c => match c with
  | 0 => tyX0
  | 1 => tyX1
  | 2 => tyX2
  | 3 => tyX3
  | 4 => tyX4
  | 5 => tyX5
  | 6 => tyX6
  | 7 => tyX7
  | 8 => tyX8
  | 9 => tyX9
  | _ => tyX10
/-- of a class: places of instantiable, initialized -/
def rn_cpl : List (Nat × Nat) := [(141, 72), (134, 71), (289, 76), (226, 75), (95, 69), (152, 73), (299, 77), (101, 70), (199, 74), (87, 68), (897, 78)]
/-- of a method: its kind (0 virtual, 1 static, 2 a constructor), places of code, initialized, static or instance, selects -/
def rn_mpl : List (Nat × Nat × Nat × Nat × Nat) := [(2, 144, 72, 143, 0), (0, 358, 72, 356, 357), (0, 367, 72, 366, 0), (0, 390, 72, 389, 1), (0, 410, 72, 409, 2), (0, 362, 72, 360, 361), (0, 386, 72, 384, 385), (0, 406, 72, 404, 405), (0, 371, 72, 369, 370), (0, 394, 72, 392, 393), (0, 414, 72, 412, 413), (0, 672, 72, 670, 671), (0, 759, 72, 757, 758), (0, 820, 72, 818, 819), (0, 845, 72, 843, 844), (0, 746, 72, 744, 745), (0, 763, 72, 761, 762), (0, 755, 72, 753, 754), (0, 853, 72, 851, 852), (2, 137, 71, 136, 0), (0, 742, 71, 740, 741), (0, 354, 71, 352, 353), (0, 562, 71, 560, 561), (0, 566, 71, 565, 12), (0, 734, 71, 732, 733), (2, 292, 76, 291, 0), (0, 623, 76, 621, 622), (0, 631, 76, 630, 13), (0, 639, 76, 638, 14), (0, 651, 76, 650, 15), (0, 689, 76, 688, 18), (0, 710, 76, 709, 21), (0, 885, 76, 883, 884), (0, 693, 76, 692, 19), (0, 893, 76, 891, 892), (0, 680, 76, 678, 679), (0, 685, 76, 684, 17), (0, 724, 76, 723, 22), (0, 751, 76, 749, 750), (0, 720, 76, 718, 719), (2, 229, 75, 228, 0), (0, 418, 75, 416, 417), (0, 824, 75, 822, 823), (0, 774, 75, 772, 773), (0, 839, 75, 837, 838), (2, 98, 69, 97, 0), (0, 422, 69, 420, 421), (0, 495, 69, 494, 5), (0, 557, 69, 556, 11), (0, 499, 69, 498, 6), (0, 520, 69, 519, 9), (0, 512, 69, 511, 8), (0, 551, 69, 550, 10), (0, 503, 69, 502, 7), (0, 426, 69, 425, 3), (1, 433, 69, 432, 0), (0, 442, 69, 441, 4), (2, 155, 73, 154, 0), (0, 379, 73, 377, 378), (0, 375, 73, 373, 374), (0, 507, 73, 505, 506), (0, 516, 73, 514, 515), (0, 528, 73, 526, 527), (0, 524, 73, 522, 523), (0, 536, 73, 534, 535), (0, 532, 73, 530, 531), (0, 542, 73, 540, 541), (0, 812, 73, 810, 811), (0, 627, 73, 625, 626), (0, 705, 73, 704, 20), (0, 701, 73, 699, 700), (0, 872, 73, 870, 871), (0, 697, 73, 695, 696), (0, 835, 73, 833, 834), (0, 659, 73, 658, 16), (0, 655, 73, 653, 654), (0, 857, 73, 855, 856), (0, 794, 73, 792, 793), (2, 302, 77, 301, 0), (0, 767, 77, 765, 766), (0, 780, 77, 778, 779), (0, 784, 77, 783, 23), (2, 104, 70, 103, 0), (0, 337, 70, 335, 336), (0, 346, 70, 344, 345), (0, 430, 70, 428, 429), (2, 202, 74, 201, 0), (0, 402, 74, 400, 401), (0, 398, 74, 396, 397), (0, 646, 74, 644, 645), (2, 90, 68, 89, 0), (0, 330, 68, 328, 329), (0, 342, 68, 340, 341), (0, 350, 68, 348, 349), (0, 572, 68, 570, 571), (0, 586, 68, 584, 585), (0, 592, 68, 590, 591), (0, 599, 68, 597, 598), (0, 603, 68, 601, 602), (0, 607, 68, 605, 606), (0, 612, 68, 610, 611), (0, 616, 68, 614, 615), (0, 668, 68, 666, 667), (0, 676, 68, 674, 675), (0, 716, 68, 714, 715), (0, 730, 68, 728, 729), (0, 738, 68, 736, 737), (0, 789, 68, 787, 788), (0, 801, 68, 799, 800), (0, 808, 68, 806, 807), (0, 816, 68, 814, 815), (0, 829, 68, 827, 828), (0, 849, 68, 847, 848), (0, 863, 68, 861, 862), (0, 868, 68, 866, 867), (0, 877, 68, 875, 876), (0, 881, 68, 879, 880), (0, 889, 68, 887, 888), (1, 333, 68, 332, 0), (1, 547, 68, 546, 0), (1, 576, 68, 575, 0), (1, 579, 68, 578, 0), (1, 619, 68, 618, 0), (2, 900, 78, 899, 0), (1, 958, 78, 957, 0), (0, 971, 78, 970, 24), (0, 951, 78, 949, 950), (0, 997, 78, 996, 27), (1, 978, 78, 977, 0), (0, 1005, 78, 1004, 29), (1, 1008, 78, 1007, 0), (1, 1011, 78, 1010, 0), (1, 961, 78, 960, 0), (0, 1001, 78, 1000, 28), (1, 964, 78, 963, 0), (1, 967, 78, 966, 0), (0, 975, 78, 974, 25), (0, 955, 78, 953, 954), (1, 985, 78, 984, 0), (0, 989, 78, 988, 26), (0, 982, 78, 980, 981), (0, 1015, 78, 1014, 30), (0, 993, 78, 991, 992), (0, 1023, 78, 1022, 31), (0, 1019, 78, 1017, 1018), (0, 1027, 78, 1025, 1026), (0, 1035, 78, 1034, 32), (0, 1031, 78, 1029, 1030), (0, 1039, 78, 1037, 1038), (1, 1105, 78, 1104, 0), (0, 1102, 78, 1101, 44), (0, 1054, 78, 1053, 34), (0, 1098, 78, 1097, 43), (0, 1165, 78, 1164, 52), (0, 1058, 78, 1057, 35), (0, 1062, 78, 1061, 36), (0, 1070, 78, 1069, 38), (0, 1066, 78, 1065, 37), (0, 1050, 78, 1049, 33), (0, 1113, 78, 1112, 45), (0, 1094, 78, 1093, 42), (0, 1082, 78, 1081, 40), (0, 1074, 78, 1073, 39), (1, 1046, 78, 1045, 0), (0, 1043, 78, 1041, 1042), (0, 1086, 78, 1085, 41), (0, 1078, 78, 1076, 1077), (0, 1090, 78, 1088, 1089), (0, 1109, 78, 1107, 1108), (0, 1121, 78, 1120, 46), (0, 1125, 78, 1124, 47), (0, 1133, 78, 1132, 49), (0, 1129, 78, 1128, 48), (0, 1137, 78, 1136, 50), (0, 1117, 78, 1115, 1116), (0, 1145, 78, 1144, 51), (0, 1141, 78, 1139, 1140), (0, 1149, 78, 1147, 1148), (0, 1153, 78, 1151, 1152), (0, 1157, 78, 1155, 1156), (0, 1169, 78, 1168, 53), (0, 1161, 78, 1159, 1160), (0, 1177, 78, 1176, 54), (0, 1173, 78, 1171, 1172), (0, 1181, 78, 1179, 1180), (0, 1185, 78, 1183, 1184), (0, 1189, 78, 1187, 1188), (0, 1193, 78, 1191, 1192), (0, 1197, 78, 1195, 1196), (0, 1201, 78, 1199, 1200), (0, 1205, 78, 1203, 1204), (0, 1221, 78, 1220, 57), (0, 1217, 78, 1216, 56), (0, 1233, 78, 1232, 60), (0, 1225, 78, 1224, 58), (0, 1249, 78, 1248, 64), (0, 1237, 78, 1236, 61), (0, 1245, 78, 1244, 63), (0, 1241, 78, 1240, 62), (0, 1229, 78, 1228, 59), (0, 1253, 78, 1252, 65), (0, 1209, 78, 1207, 1208), (0, 1213, 78, 1212, 55), (0, 1257, 78, 1256, 66), (1, 635, 80, 634, 0), (1, 663, 80, 662, 0), (1, 437, 80, 436, 0), (0, 446, 81, 444, 445), (0, 456, 81, 454, 455), (0, 450, 81, 448, 449), (0, 460, 81, 458, 459), (1, 466, 81, 465, 0), (1, 463, 82, 462, 0), (1, 770, 85, 769, 0), (1, 471, 83, 470, 0), (0, 0, 0, 0, 0)]
theorem rn_cl_at : ∀ a, a < 11 → rn_cl[a]? = some (rn_cn a, rn_T a, rn_nf a) := by
  intro a h
  match a, h with
  | 0, _ => rfl
  | 1, _ => rfl
  | 2, _ => rfl
  | 3, _ => rfl
  | 4, _ => rfl
  | 5, _ => rfl
  | 6, _ => rfl
  | 7, _ => rfl
  | 8, _ => rfl
  | 9, _ => rfl
  | 10, _ => rfl
  | k + 11, h => exact absurd h (by omega)
theorem rn_cl_in : ∀ a, a < 11 → ∀ w ∈ u_ws (rn_cn a) (rn_T a) (rn_nf a), w ∈ lw_tbl ∧ goodWord w = true := by
  intro a h
  match a, h with
  | 0, _ => exact fun w hw => ⟨rn_in0 w hw, List.all_eq_true.mp (show (wsX00.all goodWord) = true by decide +kernel) w hw⟩
  | 1, _ => exact fun w hw => ⟨rn_in1 w hw, List.all_eq_true.mp (show (wsX10.all goodWord) = true by decide +kernel) w hw⟩
  | 2, _ => exact fun w hw => ⟨rn_in2 w hw, List.all_eq_true.mp (show (wsX20.all goodWord) = true by decide +kernel) w hw⟩
  | 3, _ => exact fun w hw => ⟨rn_in3 w hw, List.all_eq_true.mp (show (wsX30.all goodWord) = true by decide +kernel) w hw⟩
  | 4, _ => exact fun w hw => ⟨rn_in4 w hw, List.all_eq_true.mp (show (wsX40.all goodWord) = true by decide +kernel) w hw⟩
  | 5, _ => exact fun w hw => ⟨rn_in5 w hw, List.all_eq_true.mp (show (wsX50.all goodWord) = true by decide +kernel) w hw⟩
  | 6, _ => exact fun w hw => ⟨rn_in6 w hw, List.all_eq_true.mp (show (wsX60.all goodWord) = true by decide +kernel) w hw⟩
  | 7, _ => exact fun w hw => ⟨rn_in7 w hw, List.all_eq_true.mp (show (wsX70.all goodWord) = true by decide +kernel) w hw⟩
  | 8, _ => exact fun w hw => ⟨rn_in8 w hw, List.all_eq_true.mp (show (wsX80.all goodWord) = true by decide +kernel) w hw⟩
  | 9, _ => exact fun w hw => ⟨rn_in9 w hw, List.all_eq_true.mp (show (wsX90.all goodWord) = true by decide +kernel) w hw⟩
  | 10, _ => exact fun w hw => ⟨rn_in10 w hw, List.all_eq_true.mp (show (wsX100.all goodWord) = true by decide +kernel) w hw⟩
  | k + 11, h => exact absurd h (by omega)
theorem rn_cl_ty : ∀ a, a < 11 → ∀ k, k < rn_nf a → parseFieldDescriptor (rn_T a k).2.2.1 = some (rn_ty a k) := by
  intro a h
  match a, h with
  | 0, _ => exact tyX0_ok
  | 1, _ => exact tyX1_ok
  | 2, _ => exact tyX2_ok
  | 3, _ => exact tyX3_ok
  | 4, _ => exact tyX4_ok
  | 5, _ => exact tyX5_ok
  | 6, _ => exact tyX6_ok
  | 7, _ => exact tyX7_ok
  | 8, _ => exact tyX8_ok
  | 9, _ => exact tyX9_ok
  | 10, _ => exact tyX10_ok
  | k + 11, h => exact absurd h (by omega)
theorem rn_cl_nm : ∀ a, a < 11 → ∀ i, i < rn_nf a → ∀ b, b < rn_nf a → i ≠ b → (rn_T a i).2.1 ≠ (rn_T a b).2.1 := by
  intro a h
  match a, h with
  | 0, _ => exact nmX0
  | 1, _ => exact nmX1
  | 2, _ => exact nmX2
  | 3, _ => exact nmX3
  | 4, _ => exact nmX4
  | 5, _ => exact nmX5
  | 6, _ => exact nmX6
  | 7, _ => exact nmX7
  | 8, _ => exact nmX8
  | 9, _ => exact nmX9
  | 10, _ => exact nmX10
  | k + 11, h => exact absurd h (by omega)
theorem rn_p_maxc : Cond.code Lib.Math.max.name Lib.Math.max.code 2 (some .int) ∈ rn_Wd := rn_Wd_mem (t := 663) (by decide +kernel) (by decide +kernel)
theorem rn_p_maxs : Cond.static Lib.Math.max.name ∈ rn_Wd := rn_Wd_mem (t := 662) (by decide +kernel) (by decide +kernel)
theorem rn_p_minc : Cond.code Lib.Math.min.name Lib.Math.min.code 2 (some .int) ∈ rn_Wd := rn_Wd_mem (t := 437) (by decide +kernel) (by decide +kernel)
theorem rn_p_mins : Cond.static Lib.Math.min.name ∈ rn_Wd := rn_Wd_mem (t := 436) (by decide +kernel) (by decide +kernel)
theorem rn_p_absc : Cond.code Lib.Math.abs.name Lib.Math.abs.code 1 (some .int) ∈ rn_Wd := rn_Wd_mem (t := 635) (by decide +kernel) (by decide +kernel)
theorem rn_p_abss : Cond.static Lib.Math.abs.name ∈ rn_Wd := rn_Wd_mem (t := 634) (by decide +kernel) (by decide +kernel)
theorem rn_p_mini : Cond.initialized "java/lang/Math" ∈ rn_Wd := rn_Wd_mem (t := 80) (by decide +kernel) (by decide +kernel)
theorem rn_p_nat : Cond.native arraycopyName ∈ rn_Wd := rn_Wd_mem (t := 382) (by decide +kernel) (by decide +kernel)
theorem rn_p_cst : Cond.static arraycopyName ∈ rn_Wd := rn_Wd_mem (t := 381) (by decide +kernel) (by decide +kernel)
theorem rn_p_cin : Cond.initialized "java/lang/System" ∈ rn_Wd := rn_Wd_mem (t := 79) (by decide +kernel) (by decide +kernel)
theorem rn_p_arr : Cond.arrayClass .int ∈ rn_Wd := rn_Wd_mem (t := 115) (by decide +kernel) (by decide +kernel)
theorem rn_p_obi : Cond.instanceMethod Lib.objectInit ∈ rn_Wd := rn_Wd_mem (t := 92) (by decide +kernel) (by decide +kernel)
theorem rn_p_obc : Cond.code Lib.objectInit ⟨#[0xb1]⟩ 1 none ∈ rn_Wd := rn_Wd_mem (t := 93) (by decide +kernel) (by decide +kernel)
theorem rn_nfw : nativeFrameWords "java/lang/System" "arraycopy" 5 ≤ 19 := by decide +kernel
