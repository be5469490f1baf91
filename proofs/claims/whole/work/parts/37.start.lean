/-! Every word of the list stands in the claim's tables: by their places. -/
theorem xs_mem {ws : List Cond} (ps : List Nat) (h : ws = ps.filterMap (fun i => lw_tbl[i]?)) : ∀ w ∈ ws, w ∈ lw_tbl := by
  intro w hw
  rw [h] at hw
  obtain ⟨i, -, hi⟩ := List.mem_filterMap.mp hw
  exact List.mem_of_getElem? hi
set_option maxRecDepth 100000 in
theorem xs_0 : ∀ w ∈ ([.arrayClass .int, .arrayClass .boolean, .arrayClass .long, .instanceMethod Lib.objectInit, .code Lib.objectInit ⟨#[0xb1]⟩ 1 none] : List Cond), w ∈ lw_tbl := xs_mem [155, 1061, 1291, 97, 98] rfl
set_option maxRecDepth 100000 in
theorem xs_1 : ∀ w ∈ xi_cl.flatMap (fun r => u_ws r.1 r.2.1 r.2.2), w ∈ lw_tbl := xs_mem [396, 398, 400, 402, 130, 132, 134, 136, 138, 140, 142, 144, 146, 148, 150, 152, 196, 198, 200, 202, 204, 206, 208, 210, 212, 214, 216, 238, 240, 242, 244, 246, 248, 250, 252, 254, 256, 258, 260, 262, 355, 357, 359, 361, 363, 365, 367, 369, 371, 373, 375, 377, 379, 381, 383, 385, 387, 389, 288, 290, 292, 294, 296, 298, 300, 302, 304, 323, 325, 327, 329, 331, 930, 932, 934, 936, 938, 940, 942, 944, 946, 948, 950, 952, 954, 956, 958, 960, 962, 964, 966, 968, 970, 972, 974, 976, 978, 980, 982, 984, 986, 988, 990, 992, 994, 996, 998, 1000, 1002, 1004, 1006, 1008, 1010, 1012, 1014, 1016, 1018, 1020, 1022, 1024, 1026, 1028, 1030, 1032, 1034, 1036, 1038, 1040, 1042, 1044, 1046, 1048, 1050, 1052, 1054, 1056, 1058] rfl
set_option maxRecDepth 100000 in
theorem xs_2 : ∀ w ∈ xi_ml.flatMap xi_kw, w ∈ lw_tbl := xs_mem [95, 77, 94, 408, 77, 406, 407, 422, 77, 420, 421, 430, 77, 428, 429, 480, 77, 478, 479, 488, 77, 486, 487, 607, 77, 605, 606, 611, 77, 609, 610, 619, 77, 617, 618, 628, 77, 626, 627, 632, 77, 630, 631, 636, 77, 634, 635, 748, 77, 746, 747, 756, 77, 754, 755, 764, 77, 762, 763, 772, 77, 770, 771, 781, 77, 779, 780, 103, 78, 102, 412, 78, 410, 411, 415, 78, 414, 418, 78, 417, 426, 78, 424, 425, 434, 78, 432, 433, 440, 78, 439, 0, 444, 78, 443, 1, 448, 78, 447, 2, 452, 78, 451, 3, 456, 78, 455, 4, 459, 78, 458, 463, 78, 461, 462, 467, 78, 465, 466, 470, 78, 469, 484, 78, 482, 483, 509, 78, 507, 508, 566, 78, 564, 565, 640, 78, 638, 639, 160, 79, 159, 500, 79, 498, 499, 522, 79, 520, 521, 599, 79, 597, 598, 603, 79, 601, 602, 615, 79, 613, 614, 623, 79, 621, 622, 223, 80, 222, 496, 80, 494, 495, 505, 80, 504, 5, 513, 80, 512, 6, 517, 80, 516, 7, 526, 80, 525, 8, 530, 80, 529, 9, 534, 80, 533, 10, 538, 80, 537, 11, 542, 80, 541, 12, 546, 80, 545, 13, 550, 80, 549, 14, 554, 80, 553, 15, 558, 80, 557, 16, 562, 80, 561, 17, 570, 80, 569, 18, 574, 80, 573, 19, 578, 80, 577, 20, 583, 80, 582, 21, 587, 80, 586, 22, 591, 80, 590, 23, 595, 80, 594, 24, 269, 81, 268, 492, 81, 490, 491, 645, 81, 643, 644, 658, 81, 657, 25, 678, 81, 677, 26, 682, 81, 681, 27, 686, 81, 685, 28, 690, 81, 689, 29, 698, 81, 697, 30, 706, 81, 705, 31, 723, 81, 722, 32, 727, 81, 726, 33, 731, 81, 730, 34, 740, 81, 739, 35, 744, 81, 743, 36, 752, 81, 750, 751, 760, 81, 758, 759, 768, 81, 766, 767, 275, 82, 274, 649, 82, 647, 648, 694, 82, 692, 693, 702, 82, 700, 701, 710, 82, 708, 709, 714, 82, 712, 713, 719, 82, 717, 718, 311, 83, 310, 653, 83, 651, 652, 662, 83, 660, 661, 666, 83, 664, 665, 670, 83, 668, 669, 674, 83, 672, 673, 735, 83, 733, 734, 863, 84, 862, 1065, 84, 1063, 1064, 1069, 84, 1067, 1068, 1072, 84, 1071, 1076, 84, 1074, 1075, 1080, 84, 1078, 1079, 1084, 84, 1083, 38, 1088, 84, 1087, 39, 1092, 84, 1091, 40, 1096, 84, 1094, 1095, 1100, 84, 1098, 1099, 1104, 84, 1103, 41, 1108, 84, 1107, 42, 1111, 84, 1110, 1114, 84, 1113, 1118, 84, 1117, 43, 1122, 84, 1121, 44, 1126, 84, 1125, 45, 1130, 84, 1129, 46, 1134, 84, 1133, 47, 1138, 84, 1137, 48, 1142, 84, 1141, 49, 1146, 84, 1145, 50, 1150, 84, 1149, 51, 1154, 84, 1153, 52, 1158, 84, 1157, 53, 1162, 84, 1161, 54, 1166, 84, 1165, 55, 1170, 84, 1169, 56, 1174, 84, 1173, 57, 1178, 84, 1176, 1177, 1182, 84, 1181, 58, 1186, 84, 1184, 1185, 1190, 84, 1189, 59, 1194, 84, 1192, 1193, 1198, 84, 1196, 1197, 1202, 84, 1200, 1201, 1206, 84, 1204, 1205, 1210, 84, 1208, 1209, 1214, 84, 1213, 60, 1218, 84, 1217, 61, 1222, 84, 1221, 62, 1226, 84, 1225, 63, 1230, 84, 1229, 64, 1234, 84, 1233, 65, 1238, 84, 1237, 66, 1242, 84, 1241, 67, 1246, 84, 1245, 68, 1250, 84, 1249, 69, 1254, 84, 1253, 70, 1258, 84, 1257, 71, 1262, 84, 1261, 72, 1266, 84, 1265, 73, 1270, 84, 1269, 74, 1274, 84, 1272, 1273, 1278, 84, 1276, 1277, 1282, 84, 1280, 1281, 1286, 84, 1285, 75, 1290, 84, 1288, 1289, 473, 85, 472, 476, 85, 475] rfl
set_option maxRecDepth 100000 in
theorem xs_3 : ∀ w ∈ xi_ll.flatMap (fun r => r.2.flatMap (xi_lw r.1)), w ∈ lw_tbl := xs_mem [778, 91, 92, 77, 93, 859, 860, 84, 861, 405, 1066, 419, 1073, 427, 1077, 477, 1093, 485, 1097, 604, 1175, 1183, 1062, 608, 1191, 616, 1195, 625, 1199, 629, 1203, 633, 1207, 745, 1271, 753, 1275, 761, 1279, 769, 1287, 96, 99, 100, 78, 392, 156, 157, 79, 393, 219, 220, 80, 221, 394, 265, 266, 81, 267, 395, 409, 423, 431, 481, 489, 493, 164, 167, 169, 173, 620, 176, 181, 612, 624, 183, 187, 339, 341, 637, 642, 749, 757, 765, 354, 104, 105, 108, 111, 114, 117, 118, 120, 122, 124, 125, 127, 129, 413, 416, 437, 453, 441, 445, 641, 464, 449, 457, 460, 468, 471, 474, 161, 162, 165, 168, 171, 174, 178, 182, 186, 190, 192, 194, 106, 109, 224, 227, 228, 229, 230, 231, 232, 233, 234, 235, 236, 237, 225, 226, 497, 121, 119, 126, 128, 501, 502, 588, 600, 172, 163, 166, 191, 115, 506, 510, 514, 575, 543, 113, 519, 579, 580, 123, 539, 179, 518, 584, 523, 527, 535, 547, 107, 555, 110, 559, 563, 567, 571, 531, 551, 188, 170, 592, 596, 185, 177, 270, 271, 272, 82, 273, 336, 307, 308, 83, 337, 338, 340, 342, 343, 344, 345, 346, 347, 348, 349, 350, 351, 352, 353, 334, 335, 646, 650, 654, 112, 655, 691, 280, 278, 195, 193, 180, 175, 659, 663, 667, 671, 675, 679, 720, 724, 728, 737, 741, 683, 687, 695, 716, 322, 116, 732, 736, 320, 699, 703, 711, 184, 314, 707, 318, 189, 316, 276, 277, 279, 281, 282, 283, 284, 285, 286, 287, 715, 312, 313, 315, 317, 319, 321, 864, 866, 867, 869, 870, 871, 872, 874, 875, 876, 877, 878, 879, 882, 883, 884, 885, 886, 887, 888, 889, 890, 893, 894, 896, 897, 899, 900, 902, 910, 914, 915, 916, 917, 918, 920, 924, 925, 926, 927, 865, 1070, 868, 873, 1085, 1089, 1081, 1109, 1112, 1105, 891, 892, 881, 901, 895, 1127, 1131, 1135, 1119, 1147, 1151, 1143, 898, 1155, 1159, 1123, 1139, 1163, 1167, 904, 880, 1101, 1115, 1171, 1179, 1187, 903, 919, 1231, 906, 921, 922, 1227, 913, 907, 923, 1259, 1219, 1223, 1239, 1243, 908, 911, 909, 1251, 1255, 1263, 1267, 905, 1215, 1235, 1247, 912, 1211, 928, 929, 1283] rfl
set_option maxRecDepth 100000 in
theorem xs_4 : ∀ w ∈ xi_wy, w ∈ lw_tbl := xs_mem [86, 804, 813, 816, 819, 821, 805, 806, 97, 98, 807, 812, 817, 833, 794, 834, 796, 835, 798, 808, 810, 800, 823, 824, 825, 826, 826, 827, 828, 829, 829, 830, 831, 805, 822, 783, 791, 792, 793, 795, 797, 799, 803, 802, 801, 86, 804, 813, 816, 819, 821, 805, 806, 97, 98, 807, 812, 817, 833, 794, 834, 796, 835, 798, 808, 810, 800, 854, 855, 856, 826, 826, 827, 828, 829, 829, 830, 831, 805, 853, 845, 847, 815, 848, 849, 850, 851, 803, 802, 852, 782, 89, 844, 90, 776, 777, 775, 774, 773, 76] rfl
theorem xs_W0 : ∀ w ∈ xi_W0, w ∈ lw_tbl := by
  intro w hw
  rcases List.mem_append.mp hw with h | h
  · exact xs_0 w h
  · rcases List.mem_append.mp h with h | h
    · exact xs_1 w h
    · rcases List.mem_append.mp h with h | h
      · exact xs_2 w h
      · rcases List.mem_append.mp h with h | h
        · exact xs_3 w h
        · exact xs_4 w h
set_option maxRecDepth 100000 in
theorem xs_ins : ∀ (ci : Nat) (r : vw_C), xi_cl[ci]? = some r → ∃ n, Cond.instantiable r.1 n ∈ lw_tbl
  | 0, _, rfl => ⟨4, List.mem_of_getElem? (i := 92) rfl⟩
  | 1, _, rfl => ⟨12, List.mem_of_getElem? (i := 100) rfl⟩
  | 2, _, rfl => ⟨11, List.mem_of_getElem? (i := 157) rfl⟩
  | 3, _, rfl => ⟨13, List.mem_of_getElem? (i := 220) rfl⟩
  | 4, _, rfl => ⟨18, List.mem_of_getElem? (i := 266) rfl⟩
  | 5, _, rfl => ⟨9, List.mem_of_getElem? (i := 272) rfl⟩
  | 6, _, rfl => ⟨5, List.mem_of_getElem? (i := 308) rfl⟩
  | 7, _, rfl => ⟨65, List.mem_of_getElem? (i := 860) rfl⟩
  | 8, _, rfl => ⟨6, List.mem_of_getElem? (i := 783) rfl⟩
  | 9, _, rfl => ⟨6, List.mem_of_getElem? (i := 845) rfl⟩
  | _ + 10, _, h => nomatch h
theorem xs_nm : ∀ w ∈ xi_nm.map (fun q => Cond.methodLinkNest q.1 q.2.1 q.2.2.1 q.2.2.2), w ∈ lw_tbl := xs_mem [101, 158, 309] rfl
theorem xs_nf : ∀ w ∈ xi_nf.map (fun q => Cond.fieldLinkNest q.1 q.2.1 q.2.2.1 q.2.2.2.1 q.2.2.2.2.1 q.2.2.2.2.2), w ∈ lw_tbl := xs_mem [435] rfl
theorem xs_Zl : Cond.laysStatic xi_ZC xi_Zn "[I" ∈ lw_tbl := List.mem_of_getElem? (i := 436) rfl
theorem xs_Zi : Cond.initialized xi_ZC ∈ lw_tbl := List.mem_of_getElem? (i := 77) rfl
set_option maxRecDepth 100000 in
theorem xs_dl : ∀ w ∈ xe_dl.map (fun x => Cond.declares x), w ∈ lw_tbl := xs_mem [785, 787, 789] rfl
set_option maxRecDepth 100000 in
theorem xs_cs : ∀ w ∈ xe_cs.map (fun q => Cond.castable q.1 q.2), w ∈ lw_tbl := xs_mem [784, 846] rfl
set_option maxRecDepth 100000 in
theorem xs_l1 : Cond.laysStatic "java/lang/Throwable" "UNASSIGNED_STACK" "[Ljava/lang/StackTraceElement;" ∈ lw_tbl := List.mem_of_getElem? (i := 809) rfl
set_option maxRecDepth 100000 in
theorem xs_l2 : Cond.laysStatic "java/lang/Throwable" "SUPPRESSED_SENTINEL" "Ljava/util/List;" ∈ lw_tbl := List.mem_of_getElem? (i := 811) rfl
theorem xs_r1 : Cond.isRef (.static "java/lang/Throwable" "UNASSIGNED_STACK" "[Ljava/lang/StackTraceElement;") ∈ flatC (Jvm.Cond.and given_1 narrow_1) := by decide +kernel
theorem xs_no : Cond.not (.castable xe_A xe_I) ∈ flatC (Jvm.Cond.and given_1 narrow_1) := by decide +kernel
theorem xs_r2 : Cond.isRef (.static "java/lang/Throwable" "SUPPRESSED_SENTINEL" "Ljava/util/List;") ∈ flatC (Jvm.Cond.and given_1 narrow_1) := by decide +kernel
def xs_Z : List Int32 := [0, 0, 0, 1, 0, 0, 2, 0, 0, 4, 4, 0, 4, 4, 0, 4, 4, 0, 1, 4, 4, 4, 0, 0, 4, 0, 0, 4, 0, 0, 4, 4, 4, 2, 4, 4, 3, 5, 0, 4, 5, 0, 4, 4, 0, 4, 4, 0, 4, 0, 0, 4, 4, 0]
theorem xs_el : ∀ j, j < 54 → Cond.eq (.elem (.static xi_ZC xi_Zn "[I") (.int (Int32.ofNat j))) (.int (xs_Z.getD j 0)) ∈ flatC (Jvm.Cond.and given_1 narrow_1) := by decide +kernel
theorem xs_len : Cond.eq (.length (.static xi_ZC xi_Zn "[I")) (.int 54) ∈ flatC (Jvm.Cond.and given_1 narrow_1) := by decide +kernel
theorem xs_arr : Cond.arrayOf (.static xi_ZC xi_Zn "[I") .int ∈ flatC (Jvm.Cond.and given_1 narrow_1) := by decide +kernel
/-- what the claim's start gives -/
theorem xs_know {s : State} {args : Array Value} (hts : ∀ w ∈ lw_tbl, w.before args s = true) : ∃ (D : va_G) (ct : Nat → ClassId), va_K D xi_cl [(ct 0, .int), (ct 1, .boolean), (ct 2, .long)] s := by
  have h1 : ∀ ci : Nat, ∃ q : ClassId × (Nat → Nat), ∀ r : vw_C, xi_cl[ci]? = some r → u_Kn s r.1 r.2.1 r.2.2 q.1 q.2 := by
    intro ci
    cases hr : xi_cl[ci]? with
    | none => exact ⟨(0, fun _ => 0), fun r h => by cases h⟩
    | some r =>
      obtain ⟨n, hn⟩ := xs_ins ci r hr
      obtain ⟨cC, iS, hk⟩ := u_known hts (fun w hw => xs_W0 w (xi_W0_cl hr w hw)) (hts _ hn)
      exact ⟨(cC, iS), fun r' h => by cases h; exact hk⟩
  have h2 : ∀ ty : FieldType, (Cond.arrayClass ty).before args s = true → ∃ cA : ClassId, ArrOfT s cA ty ∧ s.vm.findClass ("[" ++ ty.toString) = some cA := by
    intro ty h
    obtain ⟨cA, kA, comp, hf, hk, hkind⟩ := Cond.arrayClass_spec h
    exact ⟨cA, fun n z => ⟨fun k h => (by cases h), kA, hk, comp, hkind⟩, hf⟩
  obtain ⟨c0, a0, b0⟩ := h2 .int (hts _ (xs_W0 _ xi_W0_i))
  obtain ⟨c1, a1, b1⟩ := h2 .boolean (hts _ (xs_W0 _ xi_W0_z))
  obtain ⟨c2, a2, b2⟩ := h2 .long (hts _ (xs_W0 _ xi_W0_l))
  refine ⟨(fun ci => (Classical.choose (h1 ci)).1, fun ci => (Classical.choose (h1 ci)).2), fun k => match k with
    | 0 => c0
    | 1 => c1
    | _ => c2, fun c q hq => Classical.choose_spec (h1 c) q hq, fun k q hk => ?_⟩
  match k, hk with
  | 0, rfl => exact ⟨a0, b0⟩
  | 1, rfl => exact ⟨a1, b1⟩
  | 2, rfl => exact ⟨a2, b2⟩
  | _ + 3, h => exact nomatch h
theorem xs_start {s : State} {b L : Nat} {xs : Nat → Int32} (l : Launch) (hts : ∀ w ∈ lw_tbl, w.before #[Value.ref b] s = true) (hX : va_X b L xs s s.heap) (hb : b < s.heap.size) (hg : (Jvm.Cond.and given_1 narrow_1).before #[Value.ref b] s = true) :
    ∃ Y : xi_Y, xi_G Y s ∧ Y.2.2.1 = s.heap.size ∧ Y.2.2.2.2.1 = b ∧ Y.2.2.2.2.2.1 = xs_Z ∧ Y.2.2.2.2.2.2.1 = (List.range L).map xs ∧ Y.2.2.2.2.2.2.2 = l := by
  obtain ⟨D, ct, hK⟩ := xs_know hts
  have hf := flat_of_before _ hg
  have hA : ∀ a : Nat, a < s.heap.size → ¬ s.heap.size ≤ a := fun a h => Nat.not_le.mpr h
  obtain ⟨t, ht, hT⟩ := va_Tof (A := fun q => s.heap.size ≤ q) (N := 54) (f := fun j => .int (xs_Z.getD j 0)) (by decide) (hf _ xs_arr) (va_eqt (hf _ xs_len)) (fun j hj => va_eqt (hf _ (xs_el j hj))) hA
  have hN : xe_N s := by
    have hA1 := (hK.1 9 (xe_A, xc_TE, 0) rfl).2.1
    have hI1 := (hK.1 8 (xe_I, xc_TE, 0) rfl).2.1
    have hv := Cond.holds_not_iff.mp (hf _ xs_no)
    simp only [Cond.value, hA1, hI1] at hv
    exact ⟨_, _, hA1, hI1, Option.some.inj hv⟩
  have hZ := va_Zref (A := fun q => s.heap.size ≤ q) (hts _ xs_Zl) (hts _ xs_Zi) ht hA
  refine ⟨(D, ct, s.heap.size, t, b, xs_Z, (List.range L).map xs, l), ⟨hK, fun q hq => va_Nw.of rfl (hts _ (xs_nm _ (List.mem_map.mpr ⟨q, hq, rfl⟩))), fun q hq => va_Nw.of rfl (hts _ (xs_nf _ (List.mem_map.mpr ⟨q, hq, rfl⟩))), hZ, hT, ?_, hb, Nat.le_refl _, ⟨fun x hx => va_Nw.of rfl (hts _ (xs_dl _ (List.mem_map.mpr ⟨x, hx, rfl⟩))), fun q hq => va_Nw.of rfl (hts _ (xs_cs _ (List.mem_map.mpr ⟨q, hq, rfl⟩))), xe_Z.of (hts _ xs_l1) (hf _ xs_r1), xe_Z.of (hts _ xs_l2) (hf _ xs_r2), hN⟩⟩, rfl, rfl, rfl, rfl, rfl⟩
  obtain ⟨scr, h1, h2, h3, h4, h5⟩ := hX
  refine ⟨scr, h1, h2, h3, ?_, fun j hj => ?_⟩
  · show scr.slots.size = ((List.range L).map xs).length
    rw [h4, List.length_map, List.length_range]
  · have hj' : j < L := by
      have h9 : ((List.range L).map xs).length = L := by rw [List.length_map, List.length_range]
      have h8 : j < ((List.range L).map xs).length := hj
      omega
    rw [h5 j hj']
    show some (Value.int (xs j)) = some (Value.int (((List.range L).map xs).getD j 0))
    rw [List.getD_eq_getElem?_getD, List.getElem?_map, List.getElem?_range hj']
    rfl
