/-! each instruction of the tables is one of the bytes; each method is one of the tables' words -/
def ck_lk (own kd : Nat) (t : Int) : List Nat := (ex_lk own).filterMap (fun q => if q.1 = kd ∧ q.2.2.2 = t then some q.2.2.1 else none)
def ck_of (pcs : List Nat) (pc : Nat) (t : Int) : Int := ((pcs.getD t.toNat 0 : Nat) : Int) - (pc : Int)
def ck_n (k : Nat) (f : Fin 4 → Instr) : List (Instr × Nat) := if h : k < 4 then [(f ⟨k, h⟩, 1)] else []
def rw_i (own kd : Nat) (pcs : List Nat) (pc : Nat) : Instr → List (Instr × Nat)
  | .iload k => (.iload k, 2) :: ck_n k .iload_n
  | .aload k => (.aload k, 2) :: ck_n k .aload_n
  | .istore k => (.istore k, 2) :: ck_n k .istore_n
  | .astore k => (.astore k, 2) :: ck_n k .astore_n
  | .iinc k c => if -32768 ≤ c ∧ c ≤ 32767 then [(.iinc k c, 3)] else []
  | .sipush v => (if -1 ≤ v ∧ v ≤ 5 then [(.iconst v, 1)] else []) ++ ((if -128 ≤ v ∧ v ≤ 127 then [(.bipush v, 2)] else []) ++ ((if -32768 ≤ v ∧ v ≤ 32767 then [(.sipush v, 3)] else [])
      ++ (if -2147483648 ≤ v ∧ v ≤ 2147483647 then (ck_lk own 4 v).map (fun x => (.ldc x, 2)) ++ (ck_lk own 4 v).map (fun x => (.ldc_w x, 3)) else [])))
  | .iadd => [(.iadd, 1)]
  | .isub => [(.isub, 1)]
  | .imul => [(.imul, 1)]
  | .iand => [(.iand, 1)]
  | .ior => [(.ior, 1)]
  | .ixor => [(.ixor, 1)]
  | .ishl => [(.ishl, 1)]
  | .ishr => [(.ishr, 1)]
  | .iushr => [(.iushr, 1)]
  | .idiv => [(.idiv, 1)]
  | .irem => [(.irem, 1)]
  | .i2l => [(.i2l, 1)]
  | .ladd => [(.ladd, 1)]
  | .lcmp => [(.lcmp, 1)]
  | .dup => [(.dup, 1)]
  | .dup2 => [(.dup2, 1)]
  | .pop => [(.pop, 1)]
  | .arraylength => [(.arraylength, 1)]
  | .iaload => [(.iaload, 1)]
  | .iastore => [(.iastore, 1)]
  | .aaload => [(.aaload, 1)]
  | .aastore => [(.aastore, 1)]
  | .newarray .int => [(.newarray .int, 2)]
  | .anewarray c => (ck_lk own 5 c).map (fun x => (.anewarray x, 3))
  | .new c => (ck_lk own 5 c).map (fun x => (.new x, 3))
  | .getfield q => (ck_lk own 1 q).map (fun x => (.getfield x, 3))
  | .putfield q => if (ex_fT q).2.2.2 = false ∨ (kd = 2 ∧ own = q / 32) then (ck_lk own 1 q).map (fun x => (.putfield x, 3)) else []
  | .getstatic k => (ck_lk own 6 k).map (fun x => (.getstatic x, 3))
  | .if_icmp c t => [(.if_icmp c (ck_of pcs pc t), 3)]
  | .ifCond c t => [(.ifCond c (ck_of pcs pc t), 3)]
  | .ifnull t => [(.ifnull (ck_of pcs pc t), 3)]
  | .goto t => [(.goto (ck_of pcs pc t), 3)]
  | .tableswitch df lo hi of => [(.tableswitch (ck_of pcs pc df) lo hi (of.map (ck_of pcs pc)), 1 + (3 - pc % 4) + 12 + 4 * of.size)]
  | .lookupswitch df ps => if (ps.toList.zip (ps.toList.drop 1)).all (fun (a, next) => a.1 < next.1) = true then [(.lookupswitch (ck_of pcs pc df) (ps.map (fun q => (q.1, ck_of pcs pc q.2))), 1 + (3 - pc % 4) + 8 + 8 * ps.size)] else []
  | .invokestatic m => (ck_lk own 2 m).map (fun x => (.invokestatic x, 3))
  | .invokevirtual m => (ck_lk own 2 m).map (fun x => (.invokevirtual x, 3))
  | .invokespecial m => (ck_lk own 2 m).map (fun x => (.invokespecial x, 3)) ++ (ck_lk own 3 m).map (fun x => (.invokespecial x, 3))
  | .invokedynamic k => if k = 1 then (ck_lk own 7 0).map (fun x => (.invokespecial x, 3)) else (ck_lk own 8 0).map (fun x => (.invokestatic x, 3))
  | .ireturn => [(.ireturn, 1)]
  | .return_ => [(.return_, 1)]
  | _ => []
/-- the targets of jumps are blocks -/
def ck_t (pcs : List Nat) : Instr → Bool
  | .if_icmp _ t => decide (t.toNat < pcs.length)
  | .ifCond _ t => decide (t.toNat < pcs.length)
  | .goto t => decide (t.toNat < pcs.length)
  | .tableswitch df _ _ of => decide (df.toNat < pcs.length) && of.toList.all (fun t => decide (t.toNat < pcs.length))
  | .lookupswitch df ps => decide (df.toNat < pcs.length) && ps.toList.all (fun q => decide (q.2.toNat < pcs.length))
  | _ => true
def ck_L (own kd : Nat) (pcs : List Nat) (law : Bool) (cc : ByteArray) : Nat → List Instr → Bool
  | _, [] => true
  | pc, .goto_w t :: _ => decide (pcs[t.toNat]? = some pc)
  | pc, .ret k :: _ => law && decide (k = 1 ∧ pcs[1]? = some pc)
  | pc, i :: is => match decode cc pc with
    | .ok (raw, len) => (rw_i own kd pcs pc i).any (fun q => decide (q = (raw, len))) && (ck_t pcs i && ck_L own kd pcs law cc (pc + len) is)
    | _ => false
def ck_M (m : Nat) : Bool := match ex_mt[m]?, ex_my[m]?, ex_bs[m]?, ex_pc[m]? with
  | some (kd, own, _, _, _), some (_, cc, _, _), some bs, some pcs => decide (bs.length = pcs.length) && (decide (pcs[0]? = some 0) && (List.zip pcs bs).all (fun q => ck_L own kd pcs (decide (m = 241)) cc q.1 q.2))
  | _, _, _, _ => false
set_option maxRecDepth 100000 in
theorem ck_g0 : (List.range' 0 12).all ck_M = true := by decide +kernel
set_option maxRecDepth 100000 in
theorem ck_g1 : (List.range' 12 12).all ck_M = true := by decide +kernel
set_option maxRecDepth 100000 in
theorem ck_g2 : (List.range' 24 12).all ck_M = true := by decide +kernel
set_option maxRecDepth 100000 in
theorem ck_g3 : (List.range' 36 12).all ck_M = true := by decide +kernel
set_option maxRecDepth 100000 in
theorem ck_g4 : (List.range' 48 12).all ck_M = true := by decide +kernel
set_option maxRecDepth 100000 in
theorem ck_g5 : (List.range' 60 12).all ck_M = true := by decide +kernel
set_option maxRecDepth 100000 in
theorem ck_g6 : (List.range' 72 12).all ck_M = true := by decide +kernel
set_option maxRecDepth 100000 in
theorem ck_g7 : (List.range' 84 12).all ck_M = true := by decide +kernel
set_option maxRecDepth 100000 in
theorem ck_g8 : (List.range' 96 12).all ck_M = true := by decide +kernel
set_option maxRecDepth 100000 in
theorem ck_g9 : (List.range' 108 12).all ck_M = true := by decide +kernel
set_option maxRecDepth 100000 in
theorem ck_g10 : (List.range' 120 12).all ck_M = true := by decide +kernel
set_option maxRecDepth 100000 in
theorem ck_g11 : (List.range' 132 12).all ck_M = true := by decide +kernel
set_option maxRecDepth 100000 in
theorem ck_g12 : (List.range' 144 12).all ck_M = true := by decide +kernel
set_option maxRecDepth 100000 in
theorem ck_g13 : (List.range' 156 12).all ck_M = true := by decide +kernel
set_option maxRecDepth 100000 in
theorem ck_g14 : (List.range' 168 12).all ck_M = true := by decide +kernel
set_option maxRecDepth 100000 in
theorem ck_g15 : (List.range' 180 12).all ck_M = true := by decide +kernel
set_option maxRecDepth 100000 in
theorem ck_g16 : (List.range' 192 12).all ck_M = true := by decide +kernel
set_option maxRecDepth 100000 in
theorem ck_g17 : (List.range' 204 12).all ck_M = true := by decide +kernel
set_option maxRecDepth 100000 in
theorem ck_g18 : (List.range' 216 12).all ck_M = true := by decide +kernel
set_option maxRecDepth 100000 in
theorem ck_g19 : (List.range' 228 12).all ck_M = true := by decide +kernel
set_option maxRecDepth 100000 in
theorem ck_g20 : (List.range' 240 1).all ck_M = true := by decide +kernel
theorem ck_all (m : Nat) (h : m < 241) : ck_M m = true := by
  by_cases h0 : m < 12
  · exact List.all_eq_true.mp ck_g0 m (by rw [List.mem_range'_1]; omega)
  by_cases h1 : m < 24
  · exact List.all_eq_true.mp ck_g1 m (by rw [List.mem_range'_1]; omega)
  by_cases h2 : m < 36
  · exact List.all_eq_true.mp ck_g2 m (by rw [List.mem_range'_1]; omega)
  by_cases h3 : m < 48
  · exact List.all_eq_true.mp ck_g3 m (by rw [List.mem_range'_1]; omega)
  by_cases h4 : m < 60
  · exact List.all_eq_true.mp ck_g4 m (by rw [List.mem_range'_1]; omega)
  by_cases h5 : m < 72
  · exact List.all_eq_true.mp ck_g5 m (by rw [List.mem_range'_1]; omega)
  by_cases h6 : m < 84
  · exact List.all_eq_true.mp ck_g6 m (by rw [List.mem_range'_1]; omega)
  by_cases h7 : m < 96
  · exact List.all_eq_true.mp ck_g7 m (by rw [List.mem_range'_1]; omega)
  by_cases h8 : m < 108
  · exact List.all_eq_true.mp ck_g8 m (by rw [List.mem_range'_1]; omega)
  by_cases h9 : m < 120
  · exact List.all_eq_true.mp ck_g9 m (by rw [List.mem_range'_1]; omega)
  by_cases h10 : m < 132
  · exact List.all_eq_true.mp ck_g10 m (by rw [List.mem_range'_1]; omega)
  by_cases h11 : m < 144
  · exact List.all_eq_true.mp ck_g11 m (by rw [List.mem_range'_1]; omega)
  by_cases h12 : m < 156
  · exact List.all_eq_true.mp ck_g12 m (by rw [List.mem_range'_1]; omega)
  by_cases h13 : m < 168
  · exact List.all_eq_true.mp ck_g13 m (by rw [List.mem_range'_1]; omega)
  by_cases h14 : m < 180
  · exact List.all_eq_true.mp ck_g14 m (by rw [List.mem_range'_1]; omega)
  by_cases h15 : m < 192
  · exact List.all_eq_true.mp ck_g15 m (by rw [List.mem_range'_1]; omega)
  by_cases h16 : m < 204
  · exact List.all_eq_true.mp ck_g16 m (by rw [List.mem_range'_1]; omega)
  by_cases h17 : m < 216
  · exact List.all_eq_true.mp ck_g17 m (by rw [List.mem_range'_1]; omega)
  by_cases h18 : m < 228
  · exact List.all_eq_true.mp ck_g18 m (by rw [List.mem_range'_1]; omega)
  by_cases h19 : m < 240
  · exact List.all_eq_true.mp ck_g19 m (by rw [List.mem_range'_1]; omega)
  by_cases h20 : m < 241
  · exact List.all_eq_true.mp ck_g20 m (by rw [List.mem_range'_1]; omega)
  omega
def ex_mp : List (Nat × Nat × Nat × Nat) := [(313, 68, 312, 0),
  (804, 68, 802, 803),
  (808, 68, 807, 11),
  (814, 68, 812, 813),
  (818, 68, 817, 12),
  (822, 68, 821, 13),
  (89, 61, 88, 0),
  (439, 61, 437, 438),
  (761, 61, 759, 760),
  (95, 62, 94, 0),
  (443, 62, 441, 442),
  (420, 62, 419, 0),
  (508, 62, 507, 0),
  (472, 62, 470, 471),
  (524, 62, 522, 523),
  (464, 62, 462, 463),
  (516, 62, 514, 515),
  (497, 62, 495, 496),
  (543, 62, 541, 542),
  (476, 62, 474, 475),
  (584, 62, 583, 2),
  (485, 62, 483, 484),
  (557, 62, 555, 556),
  (493, 62, 491, 492),
  (489, 62, 487, 488),
  (573, 62, 571, 572),
  (597, 62, 595, 596),
  (566, 62, 564, 565),
  (592, 62, 590, 591),
  (580, 62, 578, 579),
  (641, 62, 639, 640),
  (637, 62, 635, 636),
  (721, 62, 719, 720),
  (665, 62, 663, 664),
  (529, 62, 527, 528),
  (1001, 62, 999, 1000),
  (753, 62, 751, 752),
  (933, 62, 931, 932),
  (179, 64, 178, 0),
  (455, 64, 453, 454),
  (950, 64, 948, 949),
  (601, 64, 599, 600),
  (688, 64, 686, 687),
  (162, 63, 161, 0),
  (450, 63, 448, 449),
  (646, 63, 644, 645),
  (879, 63, 877, 878),
  (883, 63, 882, 15),
  (887, 63, 886, 16),
  (891, 63, 890, 17),
  (293, 67, 292, 0),
  (774, 67, 772, 773),
  (781, 67, 780, 9),
  (788, 67, 787, 10),
  (327, 69, 326, 0),
  (842, 69, 840, 841),
  (846, 69, 845, 14),
  (855, 69, 853, 854),
  (357, 71, 356, 0),
  (924, 71, 922, 923),
  (928, 71, 927, 18),
  (344, 70, 343, 0),
  (899, 70, 898, 0),
  (610, 70, 608, 609),
  (614, 70, 612, 613),
  (618, 70, 616, 617),
  (621, 70, 620, 0),
  (625, 70, 624, 4),
  (629, 70, 628, 5),
  (632, 70, 631, 0),
  (256, 65, 255, 0),
  (734, 65, 732, 733),
  (738, 65, 736, 737),
  (962, 65, 960, 961),
  (743, 65, 741, 742),
  (976, 65, 974, 975),
  (984, 65, 982, 983),
  (988, 65, 986, 987),
  (274, 66, 273, 0),
  (697, 66, 695, 696),
  (706, 66, 704, 705),
  (693, 66, 691, 692),
  (702, 66, 701, 8),
  (713, 66, 711, 712),
  (81, 60, 80, 0),
  (417, 60, 415, 416),
  (468, 60, 466, 467),
  (481, 60, 479, 480),
  (501, 60, 499, 500),
  (505, 60, 503, 504),
  (520, 60, 518, 519),
  (539, 60, 537, 538),
  (547, 60, 545, 546),
  (553, 60, 551, 552),
  (562, 60, 560, 561),
  (588, 60, 586, 587),
  (650, 60, 648, 649),
  (661, 60, 659, 660),
  (669, 60, 667, 668),
  (676, 60, 674, 675),
  (680, 60, 678, 679),
  (726, 60, 724, 725),
  (730, 60, 728, 729),
  (749, 60, 747, 748),
  (757, 60, 755, 756),
  (766, 60, 764, 765),
  (770, 60, 768, 769),
  (792, 60, 790, 791),
  (796, 60, 794, 795),
  (800, 60, 798, 799),
  (826, 60, 824, 825),
  (831, 60, 829, 830),
  (838, 60, 836, 837),
  (851, 60, 849, 850),
  (860, 60, 858, 859),
  (864, 60, 862, 863),
  (871, 60, 869, 870),
  (875, 60, 873, 874),
  (895, 60, 893, 894),
  (903, 60, 901, 902),
  (908, 60, 906, 907),
  (912, 60, 910, 911),
  (916, 60, 914, 915),
  (920, 60, 918, 919),
  (942, 60, 940, 941),
  (946, 60, 944, 945),
  (954, 60, 952, 953),
  (958, 60, 956, 957),
  (972, 60, 970, 971),
  (980, 60, 978, 979),
  (993, 60, 991, 992),
  (997, 60, 995, 996),
  (430, 60, 429, 0),
  (435, 60, 434, 1),
  (654, 60, 653, 6),
  (684, 60, 683, 7),
  (606, 60, 605, 3),
  (425, 60, 424, 0),
  (672, 60, 671, 0),
  (834, 60, 833, 0),
  (867, 60, 866, 0),
  (1006, 72, 1005, 0),
  (1080, 72, 1079, 19),
  (1087, 72, 1086, 0),
  (1101, 72, 1100, 21),
  (1137, 72, 1136, 25),
  (1129, 72, 1128, 0),
  (1093, 72, 1092, 20),
  (1075, 72, 1073, 1074),
  (1084, 72, 1082, 1083),
  (1122, 72, 1121, 24),
  (1097, 72, 1095, 1096),
  (1114, 72, 1113, 23),
  (1110, 72, 1109, 22),
  (1106, 72, 1104, 1105),
  (1118, 72, 1116, 1117),
  (1126, 72, 1124, 1125),
  (1141, 72, 1140, 26),
  (1145, 72, 1144, 27),
  (1133, 72, 1131, 1132),
  (1149, 72, 1147, 1148),
  (1153, 72, 1151, 1152),
  (1161, 72, 1160, 28),
  (1157, 72, 1155, 1156),
  (1170, 72, 1169, 29),
  (1191, 72, 1190, 33),
  (1179, 72, 1178, 31),
  (1175, 72, 1174, 30),
  (1220, 72, 1219, 39),
  (1165, 72, 1163, 1164),
  (1187, 72, 1186, 32),
  (1216, 72, 1215, 38),
  (1224, 72, 1223, 40),
  (1183, 72, 1181, 1182),
  (1228, 72, 1226, 1227),
  (1232, 72, 1230, 1231),
  (1236, 72, 1234, 1235),
  (1240, 72, 1238, 1239),
  (1256, 72, 1255, 43),
  (1260, 72, 1259, 44),
  (1252, 72, 1251, 42),
  (1248, 72, 1247, 41),
  (1244, 72, 1242, 1243),
  (1264, 72, 1262, 1263),
  (1268, 72, 1266, 1267),
  (1279, 72, 1278, 45),
  (1275, 72, 1273, 1274),
  (1287, 72, 1286, 46),
  (1283, 72, 1281, 1282),
  (1291, 72, 1289, 1290),
  (1307, 72, 1306, 49),
  (1303, 72, 1302, 48),
  (1299, 72, 1298, 47),
  (1295, 72, 1293, 1294),
  (1311, 72, 1309, 1310),
  (1315, 72, 1313, 1314),
  (1334, 72, 1333, 52),
  (1338, 72, 1337, 53),
  (1330, 72, 1329, 51),
  (1326, 72, 1325, 0),
  (1323, 72, 1322, 50),
  (1319, 72, 1317, 1318),
  (1342, 72, 1340, 1341),
  (1346, 72, 1344, 1345),
  (1358, 72, 1357, 55),
  (1354, 72, 1353, 54),
  (1350, 72, 1348, 1349),
  (1363, 72, 1361, 1362),
  (1367, 72, 1365, 1366),
  (1371, 72, 1369, 1370),
  (1375, 72, 1373, 1374),
  (1379, 72, 1377, 1378),
  (1387, 72, 1386, 0),
  (1383, 72, 1381, 1382),
  (1204, 72, 1203, 36),
  (1391, 72, 1389, 1390),
  (1208, 72, 1207, 37),
  (1211, 72, 1210, 0),
  (1200, 72, 1199, 35),
  (1395, 72, 1393, 1394),
  (1399, 72, 1397, 1398),
  (1403, 72, 1401, 1402),
  (1419, 72, 1418, 58),
  (1415, 72, 1414, 57),
  (1411, 72, 1410, 56),
  (1407, 72, 1405, 1406),
  (1423, 72, 1421, 1422),
  (1427, 72, 1425, 1426),
  (1195, 72, 1194, 34),
  (1431, 72, 1429, 1430),
  (1271, 72, 1270, 0),
  (1435, 72, 1433, 1434),
  (1439, 72, 1437, 1438),
  (1443, 72, 1441, 1442),
  (1447, 72, 1445, 1446),
  (532, 75, 531, 0),
  (936, 74, 935, 0),
  (460, 74, 459, 0),
  (968, 76, 967, 0),
  (777, 76, 776, 0),
  (965, 76, 964, 0)]
def ex_rf (r : Nat) : Option FieldType := match r with
  | 0 => none
  | 1 => some .int
  | _ => some .boolean
def mk_ok (m : Nat) : Bool := match ex_mt[m]?, ex_my[m]?, ex_mp[m]? with
  | some (kd, own, n, mL, r), some (y, cc, mL', ret), some (p1, p2, p3, p4) => decide (mL = mL' ∧ ret = ex_rf r ∧ y.cls = ex_nm own ∧ plainFor y = true ∧ y.cls ≠ "java/lang/invoke/MethodHandle" ∧ y.cls ≠ "java/lang/invoke/VarHandle") &&
     (decide ((parseMethodDescriptor y.desc).map (fun d => d.parameters.length) = some (if kd = 0 then n else n - 1)) && (decide (n ≤ mL ∧ mL ≤ 20 ∧ (kd = 0 ∨ 1 ≤ n) ∧ kd ≤ 2 ∧ (kd = 2 → y.name = "<init>" ∧ r = 0)) &&
     (decide (lw_tbl[p2]? = some (.initialized y.cls)) && (decide (lw_tbl[p3]? = some (if kd = 0 then .static y else .instanceMethod y)) && decide (kd = 1 → lw_tbl[p4]? = some (.selects y.cls y y))))))
  | _, _, _ => false
set_option maxRecDepth 100000 in
theorem mk_g0 : (List.range' 0 12).all mk_ok = true := by decide +kernel
set_option maxRecDepth 100000 in
theorem mk_g1 : (List.range' 12 12).all mk_ok = true := by decide +kernel
set_option maxRecDepth 100000 in
theorem mk_g2 : (List.range' 24 12).all mk_ok = true := by decide +kernel
set_option maxRecDepth 100000 in
theorem mk_g3 : (List.range' 36 12).all mk_ok = true := by decide +kernel
set_option maxRecDepth 100000 in
theorem mk_g4 : (List.range' 48 12).all mk_ok = true := by decide +kernel
set_option maxRecDepth 100000 in
theorem mk_g5 : (List.range' 60 12).all mk_ok = true := by decide +kernel
set_option maxRecDepth 100000 in
theorem mk_g6 : (List.range' 72 12).all mk_ok = true := by decide +kernel
set_option maxRecDepth 100000 in
theorem mk_g7 : (List.range' 84 12).all mk_ok = true := by decide +kernel
set_option maxRecDepth 100000 in
theorem mk_g8 : (List.range' 96 12).all mk_ok = true := by decide +kernel
set_option maxRecDepth 100000 in
theorem mk_g9 : (List.range' 108 12).all mk_ok = true := by decide +kernel
set_option maxRecDepth 100000 in
theorem mk_g10 : (List.range' 120 12).all mk_ok = true := by decide +kernel
set_option maxRecDepth 100000 in
theorem mk_g11 : (List.range' 132 12).all mk_ok = true := by decide +kernel
set_option maxRecDepth 100000 in
theorem mk_g12 : (List.range' 144 12).all mk_ok = true := by decide +kernel
set_option maxRecDepth 100000 in
theorem mk_g13 : (List.range' 156 12).all mk_ok = true := by decide +kernel
set_option maxRecDepth 100000 in
theorem mk_g14 : (List.range' 168 12).all mk_ok = true := by decide +kernel
set_option maxRecDepth 100000 in
theorem mk_g15 : (List.range' 180 12).all mk_ok = true := by decide +kernel
set_option maxRecDepth 100000 in
theorem mk_g16 : (List.range' 192 12).all mk_ok = true := by decide +kernel
set_option maxRecDepth 100000 in
theorem mk_g17 : (List.range' 204 12).all mk_ok = true := by decide +kernel
set_option maxRecDepth 100000 in
theorem mk_g18 : (List.range' 216 12).all mk_ok = true := by decide +kernel
set_option maxRecDepth 100000 in
theorem mk_g19 : (List.range' 228 12).all mk_ok = true := by decide +kernel
set_option maxRecDepth 100000 in
theorem mk_g20 : (List.range' 240 1).all mk_ok = true := by decide +kernel
set_option maxRecDepth 100000 in
theorem mc_g0 : ((ex_my.drop 0).take 24).map (fun q => some (Cond.code q.1 q.2.1 q.2.2.1 q.2.2.2)) = ((ex_mp.drop 0).take 24).map (fun p => lw_tbl[p.1]?) := rfl
set_option maxRecDepth 100000 in
theorem mc_g1 : ((ex_my.drop 24).take 24).map (fun q => some (Cond.code q.1 q.2.1 q.2.2.1 q.2.2.2)) = ((ex_mp.drop 24).take 24).map (fun p => lw_tbl[p.1]?) := rfl
set_option maxRecDepth 100000 in
theorem mc_g2 : ((ex_my.drop 48).take 24).map (fun q => some (Cond.code q.1 q.2.1 q.2.2.1 q.2.2.2)) = ((ex_mp.drop 48).take 24).map (fun p => lw_tbl[p.1]?) := rfl
set_option maxRecDepth 100000 in
theorem mc_g3 : ((ex_my.drop 72).take 24).map (fun q => some (Cond.code q.1 q.2.1 q.2.2.1 q.2.2.2)) = ((ex_mp.drop 72).take 24).map (fun p => lw_tbl[p.1]?) := rfl
set_option maxRecDepth 100000 in
theorem mc_g4 : ((ex_my.drop 96).take 24).map (fun q => some (Cond.code q.1 q.2.1 q.2.2.1 q.2.2.2)) = ((ex_mp.drop 96).take 24).map (fun p => lw_tbl[p.1]?) := rfl
set_option maxRecDepth 100000 in
theorem mc_g5 : ((ex_my.drop 120).take 24).map (fun q => some (Cond.code q.1 q.2.1 q.2.2.1 q.2.2.2)) = ((ex_mp.drop 120).take 24).map (fun p => lw_tbl[p.1]?) := rfl
set_option maxRecDepth 100000 in
theorem mc_g6 : ((ex_my.drop 144).take 24).map (fun q => some (Cond.code q.1 q.2.1 q.2.2.1 q.2.2.2)) = ((ex_mp.drop 144).take 24).map (fun p => lw_tbl[p.1]?) := rfl
set_option maxRecDepth 100000 in
theorem mc_g7 : ((ex_my.drop 168).take 24).map (fun q => some (Cond.code q.1 q.2.1 q.2.2.1 q.2.2.2)) = ((ex_mp.drop 168).take 24).map (fun p => lw_tbl[p.1]?) := rfl
set_option maxRecDepth 100000 in
theorem mc_g8 : ((ex_my.drop 192).take 24).map (fun q => some (Cond.code q.1 q.2.1 q.2.2.1 q.2.2.2)) = ((ex_mp.drop 192).take 24).map (fun p => lw_tbl[p.1]?) := rfl
set_option maxRecDepth 100000 in
theorem mc_g9 : ((ex_my.drop 216).take 24).map (fun q => some (Cond.code q.1 q.2.1 q.2.2.1 q.2.2.2)) = ((ex_mp.drop 216).take 24).map (fun p => lw_tbl[p.1]?) := rfl
set_option maxRecDepth 100000 in
theorem mc_g10 : ((ex_my.drop 240).take 1).map (fun q => some (Cond.code q.1 q.2.1 q.2.2.1 q.2.2.2)) = ((ex_mp.drop 240).take 1).map (fun p => lw_tbl[p.1]?) := rfl
theorem mk_all (m : Nat) (h : m < 241) : mk_ok m = true := by
  by_cases h0 : m < 12
  · exact List.all_eq_true.mp mk_g0 m (by rw [List.mem_range'_1]; omega)
  by_cases h1 : m < 24
  · exact List.all_eq_true.mp mk_g1 m (by rw [List.mem_range'_1]; omega)
  by_cases h2 : m < 36
  · exact List.all_eq_true.mp mk_g2 m (by rw [List.mem_range'_1]; omega)
  by_cases h3 : m < 48
  · exact List.all_eq_true.mp mk_g3 m (by rw [List.mem_range'_1]; omega)
  by_cases h4 : m < 60
  · exact List.all_eq_true.mp mk_g4 m (by rw [List.mem_range'_1]; omega)
  by_cases h5 : m < 72
  · exact List.all_eq_true.mp mk_g5 m (by rw [List.mem_range'_1]; omega)
  by_cases h6 : m < 84
  · exact List.all_eq_true.mp mk_g6 m (by rw [List.mem_range'_1]; omega)
  by_cases h7 : m < 96
  · exact List.all_eq_true.mp mk_g7 m (by rw [List.mem_range'_1]; omega)
  by_cases h8 : m < 108
  · exact List.all_eq_true.mp mk_g8 m (by rw [List.mem_range'_1]; omega)
  by_cases h9 : m < 120
  · exact List.all_eq_true.mp mk_g9 m (by rw [List.mem_range'_1]; omega)
  by_cases h10 : m < 132
  · exact List.all_eq_true.mp mk_g10 m (by rw [List.mem_range'_1]; omega)
  by_cases h11 : m < 144
  · exact List.all_eq_true.mp mk_g11 m (by rw [List.mem_range'_1]; omega)
  by_cases h12 : m < 156
  · exact List.all_eq_true.mp mk_g12 m (by rw [List.mem_range'_1]; omega)
  by_cases h13 : m < 168
  · exact List.all_eq_true.mp mk_g13 m (by rw [List.mem_range'_1]; omega)
  by_cases h14 : m < 180
  · exact List.all_eq_true.mp mk_g14 m (by rw [List.mem_range'_1]; omega)
  by_cases h15 : m < 192
  · exact List.all_eq_true.mp mk_g15 m (by rw [List.mem_range'_1]; omega)
  by_cases h16 : m < 204
  · exact List.all_eq_true.mp mk_g16 m (by rw [List.mem_range'_1]; omega)
  by_cases h17 : m < 216
  · exact List.all_eq_true.mp mk_g17 m (by rw [List.mem_range'_1]; omega)
  by_cases h18 : m < 228
  · exact List.all_eq_true.mp mk_g18 m (by rw [List.mem_range'_1]; omega)
  by_cases h19 : m < 240
  · exact List.all_eq_true.mp mk_g19 m (by rw [List.mem_range'_1]; omega)
  by_cases h20 : m < 241
  · exact List.all_eq_true.mp mk_g20 m (by rw [List.mem_range'_1]; omega)
  omega
