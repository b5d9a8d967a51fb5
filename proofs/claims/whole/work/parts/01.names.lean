-- ===== PART A: goes FIRST, ahead of the names: the tables' words, and 'selects' of the private methods out of them =====
/-- a private method of a class that the tables say can be made, by its rows of tables_1 -/
def lw_okq (q : MethodName × Nat) : Prop := (q.1.cls ≠ "java/lang/invoke/MethodHandle" ∧ q.1.cls ≠ "java/lang/invoke/VarHandle") ∧ Cond.instantiable q.1.cls q.2 ∈ tables_1 ∧ Cond.privateMethod q.1 ∈ tables_1 ∧ Cond.instanceMethod q.1 ∈ tables_1
theorem lw_p0 : lw_okq (⟨"CellarCars", "refuse", "(I)I"⟩, 12) := ⟨⟨by decide +kernel, by decide +kernel⟩, List.mem_of_getElem? (i := 19) (by decide +kernel), List.mem_of_getElem? (i := 369) (by decide +kernel), List.mem_of_getElem? (i := 370) (by decide +kernel)⟩
theorem lw_p1 : lw_okq (⟨"CellarCars", "keepForUndo", "()V"⟩, 12) := ⟨⟨by decide +kernel, by decide +kernel⟩, List.mem_of_getElem? (i := 19) (by decide +kernel), List.mem_of_getElem? (i := 374) (by decide +kernel), List.mem_of_getElem? (i := 375) (by decide +kernel)⟩
theorem lw_p2 : lw_okq (⟨"CellarCars$Garage", "cycleOf", "(I)I"⟩, 13) := ⟨⟨by decide +kernel, by decide +kernel⟩, List.mem_of_getElem? (i := 33) (by decide +kernel), List.mem_of_getElem? (i := 523) (by decide +kernel), List.mem_of_getElem? (i := 524) (by decide +kernel)⟩
theorem lw_p3 : lw_okq (⟨"CellarCars", "isLet", "(III)Z"⟩, 12) := ⟨⟨by decide +kernel, by decide +kernel⟩, List.mem_of_getElem? (i := 19) (by decide +kernel), List.mem_of_getElem? (i := 545) (by decide +kernel), List.mem_of_getElem? (i := 546) (by decide +kernel)⟩
theorem lw_p4 : lw_okq (⟨"CellarCars$Rules", "worked", "(II)I"⟩, 2) := ⟨⟨by decide +kernel, by decide +kernel⟩, List.mem_of_getElem? (i := 282) (by decide +kernel), List.mem_of_getElem? (i := 564) (by decide +kernel), List.mem_of_getElem? (i := 565) (by decide +kernel)⟩
theorem lw_p5 : lw_okq (⟨"CellarCars$Rules", "knownBy", "(I)I"⟩, 2) := ⟨⟨by decide +kernel, by decide +kernel⟩, List.mem_of_getElem? (i := 282) (by decide +kernel), List.mem_of_getElem? (i := 568) (by decide +kernel), List.mem_of_getElem? (i := 569) (by decide +kernel)⟩
theorem lw_p6 : lw_okq (⟨"CellarCars", "inLaneFinding", "(I)I"⟩, 12) := ⟨⟨by decide +kernel, by decide +kernel⟩, List.mem_of_getElem? (i := 19) (by decide +kernel), List.mem_of_getElem? (i := 593) (by decide +kernel), List.mem_of_getElem? (i := 594) (by decide +kernel)⟩
theorem lw_p7 : lw_okq (⟨"CellarCars", "keysNow", "()I"⟩, 12) := ⟨⟨by decide +kernel, by decide +kernel⟩, List.mem_of_getElem? (i := 19) (by decide +kernel), List.mem_of_getElem? (i := 623) (by decide +kernel), List.mem_of_getElem? (i := 624) (by decide +kernel)⟩
theorem lw_p8 : lw_okq (⟨"CellarCars$Shunting", "search", "(III)Z"⟩, 3) := ⟨⟨by decide +kernel, by decide +kernel⟩, List.mem_of_getElem? (i := 212) (by decide +kernel), List.mem_of_getElem? (i := 641) (by decide +kernel), List.mem_of_getElem? (i := 642) (by decide +kernel)⟩
theorem lw_p9 : lw_okq (⟨"CellarCars$Planning", "assign", "(LCellarCars$Desk;II)V"⟩, 4) := ⟨⟨by decide +kernel, by decide +kernel⟩, List.mem_of_getElem? (i := 231) (by decide +kernel), List.mem_of_getElem? (i := 720) (by decide +kernel), List.mem_of_getElem? (i := 721) (by decide +kernel)⟩
theorem lw_p10 : lw_okq (⟨"CellarCars$Planning", "added", "(LCellarCars$Desk;I)I"⟩, 4) := ⟨⟨by decide +kernel, by decide +kernel⟩, List.mem_of_getElem? (i := 231) (by decide +kernel), List.mem_of_getElem? (i := 727) (by decide +kernel), List.mem_of_getElem? (i := 728) (by decide +kernel)⟩
theorem lw_p11 : lw_okq (⟨"CellarCars$Charge", "waitingCars", "(LCellarCars$Garage;)I"⟩, 2) := ⟨⟨by decide +kernel, by decide +kernel⟩, List.mem_of_getElem? (i := 251) (by decide +kernel), List.mem_of_getElem? (i := 747) (by decide +kernel), List.mem_of_getElem? (i := 748) (by decide +kernel)⟩
theorem lw_p12 : lw_okq (⟨"CellarCars$Charge", "neediest", "(LCellarCars$Garage;I)I"⟩, 2) := ⟨⟨by decide +kernel, by decide +kernel⟩, List.mem_of_getElem? (i := 251) (by decide +kernel), List.mem_of_getElem? (i := 757) (by decide +kernel), List.mem_of_getElem? (i := 758) (by decide +kernel)⟩
theorem lw_p13 : lw_okq (⟨"CellarCars$Charge", "chargeThose", "(LCellarCars$Garage;I)I"⟩, 2) := ⟨⟨by decide +kernel, by decide +kernel⟩, List.mem_of_getElem? (i := 251) (by decide +kernel), List.mem_of_getElem? (i := 761) (by decide +kernel), List.mem_of_getElem? (i := 762) (by decide +kernel)⟩
theorem lw_p14 : lw_okq (⟨"CellarCars$Renting", "give", "([IIIII)V"⟩, 3) := ⟨⟨by decide +kernel, by decide +kernel⟩, List.mem_of_getElem? (i := 265) (by decide +kernel), List.mem_of_getElem? (i := 785) (by decide +kernel), List.mem_of_getElem? (i := 786) (by decide +kernel)⟩
theorem lw_p15 : lw_okq (⟨"CellarCars$Led", "latestUnharmed", "(I)I"⟩, 3) := ⟨⟨by decide +kernel, by decide +kernel⟩, List.mem_of_getElem? (i := 100) (by decide +kernel), List.mem_of_getElem? (i := 822) (by decide +kernel), List.mem_of_getElem? (i := 823) (by decide +kernel)⟩
def lw_privs_1 : List (MethodName × Nat) := [(⟨"CellarCars", "refuse", "(I)I"⟩, 12), (⟨"CellarCars", "keepForUndo", "()V"⟩, 12), (⟨"CellarCars$Garage", "cycleOf", "(I)I"⟩, 13), (⟨"CellarCars", "isLet", "(III)Z"⟩, 12), (⟨"CellarCars$Rules", "worked", "(II)I"⟩, 2), (⟨"CellarCars$Rules", "knownBy", "(I)I"⟩, 2), (⟨"CellarCars", "inLaneFinding", "(I)I"⟩, 12), (⟨"CellarCars", "keysNow", "()I"⟩, 12), (⟨"CellarCars$Shunting", "search", "(III)Z"⟩, 3), (⟨"CellarCars$Planning", "assign", "(LCellarCars$Desk;II)V"⟩, 4), (⟨"CellarCars$Planning", "added", "(LCellarCars$Desk;I)I"⟩, 4), (⟨"CellarCars$Charge", "waitingCars", "(LCellarCars$Garage;)I"⟩, 2), (⟨"CellarCars$Charge", "neediest", "(LCellarCars$Garage;I)I"⟩, 2), (⟨"CellarCars$Charge", "chargeThose", "(LCellarCars$Garage;I)I"⟩, 2), (⟨"CellarCars$Renting", "give", "([IIIII)V"⟩, 3), (⟨"CellarCars$Led", "latestUnharmed", "(I)I"⟩, 3)]
theorem lw_r1 : ∀ q ∈ lw_privs_1, lw_okq q := List.forall_mem_cons.mpr ⟨lw_p0, List.forall_mem_cons.mpr ⟨lw_p1, List.forall_mem_cons.mpr ⟨lw_p2, List.forall_mem_cons.mpr ⟨lw_p3, List.forall_mem_cons.mpr ⟨lw_p4, List.forall_mem_cons.mpr ⟨lw_p5, List.forall_mem_cons.mpr ⟨lw_p6, List.forall_mem_cons.mpr ⟨lw_p7, List.forall_mem_cons.mpr ⟨lw_p8, List.forall_mem_cons.mpr ⟨lw_p9, List.forall_mem_cons.mpr ⟨lw_p10, List.forall_mem_cons.mpr ⟨lw_p11, List.forall_mem_cons.mpr ⟨lw_p12, List.forall_mem_cons.mpr ⟨lw_p13, List.forall_mem_cons.mpr ⟨lw_p14, List.forall_mem_cons.mpr ⟨lw_p15, fun _ h => absurd h List.not_mem_nil⟩⟩⟩⟩⟩⟩⟩⟩⟩⟩⟩⟩⟩⟩⟩⟩
theorem lw_p16 : lw_okq (⟨"CellarCars$Led", "firstHarmed", "(II)I"⟩, 3) := ⟨⟨by decide +kernel, by decide +kernel⟩, List.mem_of_getElem? (i := 100) (by decide +kernel), List.mem_of_getElem? (i := 826) (by decide +kernel), List.mem_of_getElem? (i := 827) (by decide +kernel)⟩
theorem lw_p17 : lw_okq (⟨"CellarCars$Led", "shuntsBy", "(IIII)I"⟩, 3) := ⟨⟨by decide +kernel, by decide +kernel⟩, List.mem_of_getElem? (i := 100) (by decide +kernel), List.mem_of_getElem? (i := 830) (by decide +kernel), List.mem_of_getElem? (i := 831) (by decide +kernel)⟩
theorem lw_p18 : lw_okq (⟨"CellarCars$Rescuing", "takeMore", "(LCellarCars$Garage;III)V"⟩, 5) := ⟨⟨by decide +kernel, by decide +kernel⟩, List.mem_of_getElem? (i := 295) (by decide +kernel), List.mem_of_getElem? (i := 867) (by decide +kernel), List.mem_of_getElem? (i := 868) (by decide +kernel)⟩
theorem lw_p19 : lw_okq (⟨"CellarCarsModel", "finding", "(I)I"⟩, 21) := ⟨⟨by decide +kernel, by decide +kernel⟩, List.mem_of_getElem? (i := 944) (by decide +kernel), List.mem_of_getElem? (i := 1019) (by decide +kernel), List.mem_of_getElem? (i := 1020) (by decide +kernel)⟩
theorem lw_p20 : lw_okq (⟨"CellarCarsModel", "keep", "()V"⟩, 21) := ⟨⟨by decide +kernel, by decide +kernel⟩, List.mem_of_getElem? (i := 944) (by decide +kernel), List.mem_of_getElem? (i := 1032) (by decide +kernel), List.mem_of_getElem? (i := 1033) (by decide +kernel)⟩
theorem lw_p21 : lw_okq (⟨"CellarCarsModel", "isLane", "(I)Z"⟩, 21) := ⟨⟨by decide +kernel, by decide +kernel⟩, List.mem_of_getElem? (i := 944) (by decide +kernel), List.mem_of_getElem? (i := 1040) (by decide +kernel), List.mem_of_getElem? (i := 1041) (by decide +kernel)⟩
theorem lw_p22 : lw_okq (⟨"CellarCarsModel", "leftOf", "(I)I"⟩, 21) := ⟨⟨by decide +kernel, by decide +kernel⟩, List.mem_of_getElem? (i := 944) (by decide +kernel), List.mem_of_getElem? (i := 1049) (by decide +kernel), List.mem_of_getElem? (i := 1050) (by decide +kernel)⟩
theorem lw_p23 : lw_okq (⟨"CellarCarsModel", "carAt", "(II)I"⟩, 21) := ⟨⟨by decide +kernel, by decide +kernel⟩, List.mem_of_getElem? (i := 944) (by decide +kernel), List.mem_of_getElem? (i := 1053) (by decide +kernel), List.mem_of_getElem? (i := 1054) (by decide +kernel)⟩
theorem lw_p24 : lw_okq (⟨"CellarCarsModel", "isLift", "(I)Z"⟩, 21) := ⟨⟨by decide +kernel, by decide +kernel⟩, List.mem_of_getElem? (i := 944) (by decide +kernel), List.mem_of_getElem? (i := 1061) (by decide +kernel), List.mem_of_getElem? (i := 1062) (by decide +kernel)⟩
theorem lw_p25 : lw_okq (⟨"CellarCarsModel", "isCar", "(I)Z"⟩, 21) := ⟨⟨by decide +kernel, by decide +kernel⟩, List.mem_of_getElem? (i := 944) (by decide +kernel), List.mem_of_getElem? (i := 1076) (by decide +kernel), List.mem_of_getElem? (i := 1077) (by decide +kernel)⟩
theorem lw_p26 : lw_okq (⟨"CellarCarsModel", "standOf", "(I)I"⟩, 21) := ⟨⟨by decide +kernel, by decide +kernel⟩, List.mem_of_getElem? (i := 944) (by decide +kernel), List.mem_of_getElem? (i := 1080) (by decide +kernel), List.mem_of_getElem? (i := 1081) (by decide +kernel)⟩
theorem lw_p27 : lw_okq (⟨"CellarCarsModel", "manyAhead", "(I)I"⟩, 21) := ⟨⟨by decide +kernel, by decide +kernel⟩, List.mem_of_getElem? (i := 944) (by decide +kernel), List.mem_of_getElem? (i := 1084) (by decide +kernel), List.mem_of_getElem? (i := 1085) (by decide +kernel)⟩
theorem lw_p28 : lw_okq (⟨"CellarCarsModel", "canFit", "(II)Z"⟩, 21) := ⟨⟨by decide +kernel, by decide +kernel⟩, List.mem_of_getElem? (i := 944) (by decide +kernel), List.mem_of_getElem? (i := 1100) (by decide +kernel), List.mem_of_getElem? (i := 1101) (by decide +kernel)⟩
theorem lw_p29 : lw_okq (⟨"CellarCarsModel", "isStuck", "(I)Z"⟩, 21) := ⟨⟨by decide +kernel, by decide +kernel⟩, List.mem_of_getElem? (i := 944) (by decide +kernel), List.mem_of_getElem? (i := 1109) (by decide +kernel), List.mem_of_getElem? (i := 1110) (by decide +kernel)⟩
theorem lw_p30 : lw_okq (⟨"CellarCarsModel", "comes", "(II)V"⟩, 21) := ⟨⟨by decide +kernel, by decide +kernel⟩, List.mem_of_getElem? (i := 944) (by decide +kernel), List.mem_of_getElem? (i := 1114) (by decide +kernel), List.mem_of_getElem? (i := 1115) (by decide +kernel)⟩
theorem lw_p31 : lw_okq (⟨"CellarCarsModel", "turns", "(I)V"⟩, 21) := ⟨⟨by decide +kernel, by decide +kernel⟩, List.mem_of_getElem? (i := 944) (by decide +kernel), List.mem_of_getElem? (i := 1118) (by decide +kernel), List.mem_of_getElem? (i := 1119) (by decide +kernel)⟩
def lw_privs_2 : List (MethodName × Nat) := [(⟨"CellarCars$Led", "firstHarmed", "(II)I"⟩, 3), (⟨"CellarCars$Led", "shuntsBy", "(IIII)I"⟩, 3), (⟨"CellarCars$Rescuing", "takeMore", "(LCellarCars$Garage;III)V"⟩, 5), (⟨"CellarCarsModel", "finding", "(I)I"⟩, 21), (⟨"CellarCarsModel", "keep", "()V"⟩, 21), (⟨"CellarCarsModel", "isLane", "(I)Z"⟩, 21), (⟨"CellarCarsModel", "leftOf", "(I)I"⟩, 21), (⟨"CellarCarsModel", "carAt", "(II)I"⟩, 21), (⟨"CellarCarsModel", "isLift", "(I)Z"⟩, 21), (⟨"CellarCarsModel", "isCar", "(I)Z"⟩, 21), (⟨"CellarCarsModel", "standOf", "(I)I"⟩, 21), (⟨"CellarCarsModel", "manyAhead", "(I)I"⟩, 21), (⟨"CellarCarsModel", "canFit", "(II)Z"⟩, 21), (⟨"CellarCarsModel", "isStuck", "(I)Z"⟩, 21), (⟨"CellarCarsModel", "comes", "(II)V"⟩, 21), (⟨"CellarCarsModel", "turns", "(I)V"⟩, 21)]
theorem lw_r2 : ∀ q ∈ lw_privs_2, lw_okq q := List.forall_mem_cons.mpr ⟨lw_p16, List.forall_mem_cons.mpr ⟨lw_p17, List.forall_mem_cons.mpr ⟨lw_p18, List.forall_mem_cons.mpr ⟨lw_p19, List.forall_mem_cons.mpr ⟨lw_p20, List.forall_mem_cons.mpr ⟨lw_p21, List.forall_mem_cons.mpr ⟨lw_p22, List.forall_mem_cons.mpr ⟨lw_p23, List.forall_mem_cons.mpr ⟨lw_p24, List.forall_mem_cons.mpr ⟨lw_p25, List.forall_mem_cons.mpr ⟨lw_p26, List.forall_mem_cons.mpr ⟨lw_p27, List.forall_mem_cons.mpr ⟨lw_p28, List.forall_mem_cons.mpr ⟨lw_p29, List.forall_mem_cons.mpr ⟨lw_p30, List.forall_mem_cons.mpr ⟨lw_p31, fun _ h => absurd h List.not_mem_nil⟩⟩⟩⟩⟩⟩⟩⟩⟩⟩⟩⟩⟩⟩⟩⟩
theorem lw_p32 : lw_okq (⟨"CellarCarsModel", "hinders", "(II)I"⟩, 21) := ⟨⟨by decide +kernel, by decide +kernel⟩, List.mem_of_getElem? (i := 944) (by decide +kernel), List.mem_of_getElem? (i := 1126) (by decide +kernel), List.mem_of_getElem? (i := 1127) (by decide +kernel)⟩
theorem lw_p33 : lw_okq (⟨"CellarCarsModel", "isFree", "(I)Z"⟩, 21) := ⟨⟨by decide +kernel, by decide +kernel⟩, List.mem_of_getElem? (i := 944) (by decide +kernel), List.mem_of_getElem? (i := 1130) (by decide +kernel), List.mem_of_getElem? (i := 1131) (by decide +kernel)⟩
theorem lw_p34 : lw_okq (⟨"CellarCarsModel", "hasKey", "(III)Z"⟩, 21) := ⟨⟨by decide +kernel, by decide +kernel⟩, List.mem_of_getElem? (i := 944) (by decide +kernel), List.mem_of_getElem? (i := 1134) (by decide +kernel), List.mem_of_getElem? (i := 1135) (by decide +kernel)⟩
theorem lw_p35 : lw_okq (⟨"CellarCarsModel", "isLet", "(III)Z"⟩, 21) := ⟨⟨by decide +kernel, by decide +kernel⟩, List.mem_of_getElem? (i := 944) (by decide +kernel), List.mem_of_getElem? (i := 1139) (by decide +kernel), List.mem_of_getElem? (i := 1140) (by decide +kernel)⟩
theorem lw_p36 : lw_okq (⟨"CellarCarsModel", "wrongAt", "()I"⟩, 21) := ⟨⟨by decide +kernel, by decide +kernel⟩, List.mem_of_getElem? (i := 944) (by decide +kernel), List.mem_of_getElem? (i := 1143) (by decide +kernel), List.mem_of_getElem? (i := 1144) (by decide +kernel)⟩
theorem lw_p37 : lw_okq (⟨"CellarCarsModel", "readBy", "(IIII)I"⟩, 21) := ⟨⟨by decide +kernel, by decide +kernel⟩, List.mem_of_getElem? (i := 944) (by decide +kernel), List.mem_of_getElem? (i := 1147) (by decide +kernel), List.mem_of_getElem? (i := 1148) (by decide +kernel)⟩
theorem lw_p38 : lw_okq (⟨"CellarCarsModel", "does", "(II)V"⟩, 21) := ⟨⟨by decide +kernel, by decide +kernel⟩, List.mem_of_getElem? (i := 944) (by decide +kernel), List.mem_of_getElem? (i := 1155) (by decide +kernel), List.mem_of_getElem? (i := 1156) (by decide +kernel)⟩
theorem lw_p39 : lw_okq (⟨"CellarCarsModel", "goes", "(I)V"⟩, 21) := ⟨⟨by decide +kernel, by decide +kernel⟩, List.mem_of_getElem? (i := 944) (by decide +kernel), List.mem_of_getElem? (i := 1159) (by decide +kernel), List.mem_of_getElem? (i := 1160) (by decide +kernel)⟩
theorem lw_p40 : lw_okq (⟨"CellarCarsModel", "led", "(I)V"⟩, 21) := ⟨⟨by decide +kernel, by decide +kernel⟩, List.mem_of_getElem? (i := 944) (by decide +kernel), List.mem_of_getElem? (i := 1163) (by decide +kernel), List.mem_of_getElem? (i := 1164) (by decide +kernel)⟩
theorem lw_p41 : lw_okq (⟨"CellarCarsModel", "findFewest", "(I)I"⟩, 21) := ⟨⟨by decide +kernel, by decide +kernel⟩, List.mem_of_getElem? (i := 944) (by decide +kernel), List.mem_of_getElem? (i := 1187) (by decide +kernel), List.mem_of_getElem? (i := 1188) (by decide +kernel)⟩
theorem lw_p42 : lw_okq (⟨"CellarCarsModel", "frees", "(III)Z"⟩, 21) := ⟨⟨by decide +kernel, by decide +kernel⟩, List.mem_of_getElem? (i := 944) (by decide +kernel), List.mem_of_getElem? (i := 1191) (by decide +kernel), List.mem_of_getElem? (i := 1192) (by decide +kernel)⟩
theorem lw_p43 : lw_okq (⟨"CellarCarsModel", "lay", "(I)V"⟩, 21) := ⟨⟨by decide +kernel, by decide +kernel⟩, List.mem_of_getElem? (i := 944) (by decide +kernel), List.mem_of_getElem? (i := 1195) (by decide +kernel), List.mem_of_getElem? (i := 1196) (by decide +kernel)⟩
theorem lw_p44 : lw_okq (⟨"CellarCarsModel", "bring", "(I)V"⟩, 21) := ⟨⟨by decide +kernel, by decide +kernel⟩, List.mem_of_getElem? (i := 944) (by decide +kernel), List.mem_of_getElem? (i := 1199) (by decide +kernel), List.mem_of_getElem? (i := 1200) (by decide +kernel)⟩
theorem lw_p45 : lw_okq (⟨"CellarCarsModel", "morningOf", "(I)I"⟩, 21) := ⟨⟨by decide +kernel, by decide +kernel⟩, List.mem_of_getElem? (i := 944) (by decide +kernel), List.mem_of_getElem? (i := 1218) (by decide +kernel), List.mem_of_getElem? (i := 1219) (by decide +kernel)⟩
theorem lw_p46 : lw_okq (⟨"CellarCarsModel", "arrivalOf", "(I)I"⟩, 21) := ⟨⟨by decide +kernel, by decide +kernel⟩, List.mem_of_getElem? (i := 944) (by decide +kernel), List.mem_of_getElem? (i := 1226) (by decide +kernel), List.mem_of_getElem? (i := 1227) (by decide +kernel)⟩
theorem lw_p47 : lw_okq (⟨"CellarCarsModel", "findPlan", "()V"⟩, 21) := ⟨⟨by decide +kernel, by decide +kernel⟩, List.mem_of_getElem? (i := 944) (by decide +kernel), List.mem_of_getElem? (i := 1238) (by decide +kernel), List.mem_of_getElem? (i := 1239) (by decide +kernel)⟩
def lw_privs_3 : List (MethodName × Nat) := [(⟨"CellarCarsModel", "hinders", "(II)I"⟩, 21), (⟨"CellarCarsModel", "isFree", "(I)Z"⟩, 21), (⟨"CellarCarsModel", "hasKey", "(III)Z"⟩, 21), (⟨"CellarCarsModel", "isLet", "(III)Z"⟩, 21), (⟨"CellarCarsModel", "wrongAt", "()I"⟩, 21), (⟨"CellarCarsModel", "readBy", "(IIII)I"⟩, 21), (⟨"CellarCarsModel", "does", "(II)V"⟩, 21), (⟨"CellarCarsModel", "goes", "(I)V"⟩, 21), (⟨"CellarCarsModel", "led", "(I)V"⟩, 21), (⟨"CellarCarsModel", "findFewest", "(I)I"⟩, 21), (⟨"CellarCarsModel", "frees", "(III)Z"⟩, 21), (⟨"CellarCarsModel", "lay", "(I)V"⟩, 21), (⟨"CellarCarsModel", "bring", "(I)V"⟩, 21), (⟨"CellarCarsModel", "morningOf", "(I)I"⟩, 21), (⟨"CellarCarsModel", "arrivalOf", "(I)I"⟩, 21), (⟨"CellarCarsModel", "findPlan", "()V"⟩, 21)]
theorem lw_r3 : ∀ q ∈ lw_privs_3, lw_okq q := List.forall_mem_cons.mpr ⟨lw_p32, List.forall_mem_cons.mpr ⟨lw_p33, List.forall_mem_cons.mpr ⟨lw_p34, List.forall_mem_cons.mpr ⟨lw_p35, List.forall_mem_cons.mpr ⟨lw_p36, List.forall_mem_cons.mpr ⟨lw_p37, List.forall_mem_cons.mpr ⟨lw_p38, List.forall_mem_cons.mpr ⟨lw_p39, List.forall_mem_cons.mpr ⟨lw_p40, List.forall_mem_cons.mpr ⟨lw_p41, List.forall_mem_cons.mpr ⟨lw_p42, List.forall_mem_cons.mpr ⟨lw_p43, List.forall_mem_cons.mpr ⟨lw_p44, List.forall_mem_cons.mpr ⟨lw_p45, List.forall_mem_cons.mpr ⟨lw_p46, List.forall_mem_cons.mpr ⟨lw_p47, fun _ h => absurd h List.not_mem_nil⟩⟩⟩⟩⟩⟩⟩⟩⟩⟩⟩⟩⟩⟩⟩⟩
theorem lw_p48 : lw_okq (⟨"CellarCarsModel", "plans", "(II)V"⟩, 21) := ⟨⟨by decide +kernel, by decide +kernel⟩, List.mem_of_getElem? (i := 944) (by decide +kernel), List.mem_of_getElem? (i := 1242) (by decide +kernel), List.mem_of_getElem? (i := 1243) (by decide +kernel)⟩
theorem lw_p49 : lw_okq (⟨"CellarCarsModel", "moreBy", "(II)I"⟩, 21) := ⟨⟨by decide +kernel, by decide +kernel⟩, List.mem_of_getElem? (i := 944) (by decide +kernel), List.mem_of_getElem? (i := 1246) (by decide +kernel), List.mem_of_getElem? (i := 1247) (by decide +kernel)⟩
theorem lw_p50 : lw_okq (⟨"CellarCarsModel", "findCharged", "()I"⟩, 21) := ⟨⟨by decide +kernel, by decide +kernel⟩, List.mem_of_getElem? (i := 944) (by decide +kernel), List.mem_of_getElem? (i := 1262) (by decide +kernel), List.mem_of_getElem? (i := 1263) (by decide +kernel)⟩
theorem lw_p51 : lw_okq (⟨"CellarCarsModel", "canAll", "(I)Z"⟩, 21) := ⟨⟨by decide +kernel, by decide +kernel⟩, List.mem_of_getElem? (i := 944) (by decide +kernel), List.mem_of_getElem? (i := 1269) (by decide +kernel), List.mem_of_getElem? (i := 1270) (by decide +kernel)⟩
theorem lw_p52 : lw_okq (⟨"CellarCarsModel", "begin", "(I)V"⟩, 21) := ⟨⟨by decide +kernel, by decide +kernel⟩, List.mem_of_getElem? (i := 944) (by decide +kernel), List.mem_of_getElem? (i := 1273) (by decide +kernel), List.mem_of_getElem? (i := 1274) (by decide +kernel)⟩
theorem lw_p53 : lw_okq (⟨"CellarCarsModel", "charge", "(I)I"⟩, 21) := ⟨⟨by decide +kernel, by decide +kernel⟩, List.mem_of_getElem? (i := 944) (by decide +kernel), List.mem_of_getElem? (i := 1277) (by decide +kernel), List.mem_of_getElem? (i := 1278) (by decide +kernel)⟩
theorem lw_p54 : lw_okq (⟨"CellarCarsModel", "findGiving", "()I"⟩, 21) := ⟨⟨by decide +kernel, by decide +kernel⟩, List.mem_of_getElem? (i := 944) (by decide +kernel), List.mem_of_getElem? (i := 1293) (by decide +kernel), List.mem_of_getElem? (i := 1294) (by decide +kernel)⟩
theorem lw_p55 : lw_okq (⟨"CellarCarsModel", "mostFrom", "(III)I"⟩, 21) := ⟨⟨by decide +kernel, by decide +kernel⟩, List.mem_of_getElem? (i := 944) (by decide +kernel), List.mem_of_getElem? (i := 1297) (by decide +kernel), List.mem_of_getElem? (i := 1298) (by decide +kernel)⟩
theorem lw_p56 : lw_okq (⟨"CellarCarsModel", "findRescue", "()V"⟩, 21) := ⟨⟨by decide +kernel, by decide +kernel⟩, List.mem_of_getElem? (i := 944) (by decide +kernel), List.mem_of_getElem? (i := 1350) (by decide +kernel), List.mem_of_getElem? (i := 1351) (by decide +kernel)⟩
theorem lw_p57 : lw_okq (⟨"CellarCarsModel", "rescues", "(II)V"⟩, 21) := ⟨⟨by decide +kernel, by decide +kernel⟩, List.mem_of_getElem? (i := 944) (by decide +kernel), List.mem_of_getElem? (i := 1354) (by decide +kernel), List.mem_of_getElem? (i := 1355) (by decide +kernel)⟩
theorem lw_p58 : lw_okq (⟨"CellarCarsModel", "minuteOf", "(I)I"⟩, 21) := ⟨⟨by decide +kernel, by decide +kernel⟩, List.mem_of_getElem? (i := 944) (by decide +kernel), List.mem_of_getElem? (i := 1358) (by decide +kernel), List.mem_of_getElem? (i := 1359) (by decide +kernel)⟩
def lw_privs_4 : List (MethodName × Nat) := [(⟨"CellarCarsModel", "plans", "(II)V"⟩, 21), (⟨"CellarCarsModel", "moreBy", "(II)I"⟩, 21), (⟨"CellarCarsModel", "findCharged", "()I"⟩, 21), (⟨"CellarCarsModel", "canAll", "(I)Z"⟩, 21), (⟨"CellarCarsModel", "begin", "(I)V"⟩, 21), (⟨"CellarCarsModel", "charge", "(I)I"⟩, 21), (⟨"CellarCarsModel", "findGiving", "()I"⟩, 21), (⟨"CellarCarsModel", "mostFrom", "(III)I"⟩, 21), (⟨"CellarCarsModel", "findRescue", "()V"⟩, 21), (⟨"CellarCarsModel", "rescues", "(II)V"⟩, 21), (⟨"CellarCarsModel", "minuteOf", "(I)I"⟩, 21)]
theorem lw_r4 : ∀ q ∈ lw_privs_4, lw_okq q := List.forall_mem_cons.mpr ⟨lw_p48, List.forall_mem_cons.mpr ⟨lw_p49, List.forall_mem_cons.mpr ⟨lw_p50, List.forall_mem_cons.mpr ⟨lw_p51, List.forall_mem_cons.mpr ⟨lw_p52, List.forall_mem_cons.mpr ⟨lw_p53, List.forall_mem_cons.mpr ⟨lw_p54, List.forall_mem_cons.mpr ⟨lw_p55, List.forall_mem_cons.mpr ⟨lw_p56, List.forall_mem_cons.mpr ⟨lw_p57, List.forall_mem_cons.mpr ⟨lw_p58, fun _ h => absurd h List.not_mem_nil⟩⟩⟩⟩⟩⟩⟩⟩⟩⟩⟩
def lw_privs : List (MethodName × Nat) := lw_privs_1 ++ (lw_privs_2 ++ (lw_privs_3 ++ (lw_privs_4)))
def lw_tbl : List Cond := k2_sels lw_privs ++ tables_1
theorem lw_privs_ok : ∀ q ∈ lw_privs, lw_okq q := by
  show ∀ q ∈ lw_privs_1 ++ (lw_privs_2 ++ (lw_privs_3 ++ (lw_privs_4))), lw_okq q
  exact List.forall_mem_append.mpr ⟨lw_r1, List.forall_mem_append.mpr ⟨lw_r2, List.forall_mem_append.mpr ⟨lw_r3, lw_r4⟩⟩⟩

def RX0 : String := "CellarCars$Charge"
def TX0 : u_T := fun k => match k with
  | 0 => ("CellarCars$Charge", "inHour", "[I", true)
  | _ => ("CellarCars$Charge", "still", "[I", true)
def tyX0 : Nat → FieldType := fun k => match k with
  | 0 => .array .int
  | _ => .array .int
abbrev wsX00 : List Cond := u_ws RX0 TX0 2
theorem nmX0 : ∀ a, a < 2 → ∀ b, b < 2 → a ≠ b → (TX0 a).2.1 ≠ (TX0 b).2.1 := by decide +kernel
theorem tyX0_ok : ∀ k, k < 2 → parseFieldDescriptor (TX0 k).2.2.1 = some (tyX0 k) := by decide +kernel
abbrev cX0_init : ByteArray := prog_2_method_1_code
def yX0_init : MethodName := ⟨RX0, "<init>", "()V"⟩
abbrev cX0_mostCars : ByteArray := prog_2_method_2_code
def yX0_mostCars : MethodName := ⟨RX0, "mostCars", "(LCellarCars$Garage;I)I"⟩
abbrev cX0_waitingCars : ByteArray := prog_2_method_3_code
def yX0_waitingCars : MethodName := ⟨RX0, "waitingCars", "(LCellarCars$Garage;)I"⟩
abbrev cX0_shareHours : ByteArray := prog_2_method_4_code
def yX0_shareHours : MethodName := ⟨RX0, "shareHours", "(LCellarCars$Garage;II)Z"⟩
abbrev cX0_neediest : ByteArray := prog_2_method_5_code
def yX0_neediest : MethodName := ⟨RX0, "neediest", "(LCellarCars$Garage;I)I"⟩
abbrev cX0_chargeThose : ByteArray := prog_2_method_6_code
def yX0_chargeThose : MethodName := ⟨RX0, "chargeThose", "(LCellarCars$Garage;I)I"⟩
def RX1 : String := "CellarCars$Desk"
def TX1 : u_T := fun k => match k with
  | 0 => ("CellarCars$Desk", "garage", "LCellarCars$Garage;", true)
  | 1 => ("CellarCars$Desk", "led", "LCellarCars$Led;", true)
  | 2 => ("CellarCars$Desk", "keys", "LCellarCars$Keys;", true)
  | 3 => ("CellarCars$Desk", "bids", "[I", true)
  | 4 => ("CellarCars$Desk", "text", "[I", true)
  | 5 => ("CellarCars$Desk", "evening", "[I", true)
  | 6 => ("CellarCars$Desk", "signs", "I", false)
  | 7 => ("CellarCars$Desk", "arriving", "I", false)
  | 8 => ("CellarCars$Desk", "hour", "I", false)
  | 9 => ("CellarCars$Desk", "chargers", "I", false)
  | 10 => ("CellarCars$Desk", "porter", "I", false)
  | 11 => ("CellarCars$Desk", "pace", "I", false)
  | _ => ("CellarCars$Desk", "shunts", "I", false)
def tyX1 : Nat → FieldType := fun k => match k with
  | 0 => .object "CellarCars$Garage"
  | 1 => .object "CellarCars$Led"
  | 2 => .object "CellarCars$Keys"
  | 3 => .array .int
  | 4 => .array .int
  | 5 => .array .int
  | 6 => .int
  | 7 => .int
  | 8 => .int
  | 9 => .int
  | 10 => .int
  | 11 => .int
  | _ => .int
abbrev wsX10 : List Cond := u_ws RX1 TX1 13
theorem nmX1 : ∀ a, a < 13 → ∀ b, b < 13 → a ≠ b → (TX1 a).2.1 ≠ (TX1 b).2.1 := by decide +kernel
theorem tyX1_ok : ∀ k, k < 13 → parseFieldDescriptor (TX1 k).2.2.1 = some (tyX1 k) := by decide +kernel
abbrev cX1_init : ByteArray := prog_3_method_1_code
def yX1_init : MethodName := ⟨RX1, "<init>", "()V"⟩
abbrev cX1_become : ByteArray := prog_3_method_2_code
def yX1_become : MethodName := ⟨RX1, "become", "(LCellarCars$Desk;)V"⟩
abbrev cX1_placeInEvening : ByteArray := prog_3_method_3_code
def yX1_placeInEvening : MethodName := ⟨RX1, "placeInEvening", "(I)I"⟩
def RX2 : String := "CellarCars$Garage"
def TX2 : u_T := fun k => match k with
  | 0 => ("CellarCars$Garage", "lanes", "I", false)
  | 1 => ("CellarCars$Garage", "cars", "I", false)
  | 2 => ("CellarCars$Garage", "laneKind", "[I", true)
  | 3 => ("CellarCars$Garage", "laneLength", "[I", true)
  | 4 => ("CellarCars$Garage", "laneHeight", "[I", true)
  | 5 => ("CellarCars$Garage", "laneLoad", "[I", true)
  | 6 => ("CellarCars$Garage", "minute", "[I", true)
  | 7 => ("CellarCars$Garage", "cycles", "[I", true)
  | 8 => ("CellarCars$Garage", "broken", "[I", true)
  | 9 => ("CellarCars$Garage", "standing", "[I", true)
  | 10 => ("CellarCars$Garage", "places", "[I", true)
  | 11 => ("CellarCars$Garage", "facts", "[I", true)
  | _ => ("CellarCars$Garage", "where", "[I", true)
def tyX2 : Nat → FieldType := fun k => match k with
  | 0 => .int
  | 1 => .int
  | 2 => .array .int
  | 3 => .array .int
  | 4 => .array .int
  | 5 => .array .int
  | 6 => .array .int
  | 7 => .array .int
  | 8 => .array .int
  | 9 => .array .int
  | 10 => .array .int
  | 11 => .array .int
  | _ => .array .int
abbrev wsX20 : List Cond := u_ws RX2 TX2 13
theorem nmX2 : ∀ a, a < 13 → ∀ b, b < 13 → a ≠ b → (TX2 a).2.1 ≠ (TX2 b).2.1 := by decide +kernel
theorem tyX2_ok : ∀ k, k < 13 → parseFieldDescriptor (TX2 k).2.2.1 = some (tyX2 k) := by decide +kernel
abbrev cX2_init : ByteArray := prog_4_method_1_code
def yX2_init : MethodName := ⟨RX2, "<init>", "()V"⟩
abbrev cX2_become : ByteArray := prog_4_method_2_code
def yX2_become : MethodName := ⟨RX2, "become", "(LCellarCars$Garage;)V"⟩
abbrev cX2_isKind : ByteArray := prog_4_method_3_code
def yX2_isKind : MethodName := ⟨RX2, "isKind", "(I)Z"⟩
abbrev cX2_isFact : ByteArray := prog_4_method_4_code
def yX2_isFact : MethodName := ⟨RX2, "isFact", "(II)Z"⟩
abbrev cX2_hasLane : ByteArray := prog_4_method_5_code
def yX2_hasLane : MethodName := ⟨RX2, "hasLane", "(I)Z"⟩
abbrev cX2_hasCar : ByteArray := prog_4_method_6_code
def yX2_hasCar : MethodName := ⟨RX2, "hasCar", "(I)Z"⟩
abbrev cX2_addLane : ByteArray := prog_4_method_7_code
def yX2_addLane : MethodName := ⟨RX2, "addLane", "(IIII)I"⟩
abbrev cX2_addCar : ByteArray := prog_4_method_8_code
def yX2_addCar : MethodName := ⟨RX2, "addCar", "(IIIIII)I"⟩
abbrev cX2_fact : ByteArray := prog_4_method_9_code
def yX2_fact : MethodName := ⟨RX2, "fact", "(II)I"⟩
abbrev cX2_changeFact : ByteArray := prog_4_method_10_code
def yX2_changeFact : MethodName := ⟨RX2, "changeFact", "(III)I"⟩
abbrev cX2_isOfKind : ByteArray := prog_4_method_11_code
def yX2_isOfKind : MethodName := ⟨RX2, "isOfKind", "(II)Z"⟩
abbrev cX2_cycleOf : ByteArray := prog_4_method_12_code
def yX2_cycleOf : MethodName := ⟨RX2, "cycleOf", "(I)I"⟩
abbrev cX2_bears : ByteArray := prog_4_method_13_code
def yX2_bears : MethodName := ⟨RX2, "bears", "(I)I"⟩
abbrev cX2_suits : ByteArray := prog_4_method_14_code
def yX2_suits : MethodName := ⟨RX2, "suits", "(II)Z"⟩
abbrev cX2_carAt : ByteArray := prog_4_method_15_code
def yX2_carAt : MethodName := ⟨RX2, "carAt", "(II)I"⟩
abbrev cX2_lengthLeft : ByteArray := prog_4_method_16_code
def yX2_lengthLeft : MethodName := ⟨RX2, "lengthLeft", "(I)I"⟩
abbrev cX2_isShut : ByteArray := prog_4_method_17_code
def yX2_isShut : MethodName := ⟨RX2, "isShut", "(I)Z"⟩
abbrev cX2_isFree : ByteArray := prog_4_method_18_code
def yX2_isFree : MethodName := ⟨RX2, "isFree", "(I)Z"⟩
abbrev cX2_parkFinding : ByteArray := prog_4_method_19_code
def yX2_parkFinding : MethodName := ⟨RX2, "parkFinding", "(II)I"⟩
abbrev cX2_shuntFinding : ByteArray := prog_4_method_20_code
def yX2_shuntFinding : MethodName := ⟨RX2, "shuntFinding", "(II)I"⟩
abbrev cX2_bring : ByteArray := prog_4_method_21_code
def yX2_bring : MethodName := ⟨RX2, "bring", "(II)V"⟩
abbrev cX2_take : ByteArray := prog_4_method_22_code
def yX2_take : MethodName := ⟨RX2, "take", "(I)V"⟩
abbrev cX2_move : ByteArray := prog_4_method_23_code
def yX2_move : MethodName := ⟨RX2, "move", "(II)V"⟩
abbrev cX2_moveBack : ByteArray := prog_4_method_24_code
def yX2_moveBack : MethodName := ⟨RX2, "moveBack", "(II)V"⟩
abbrev cX2_forgetCycles : ByteArray := prog_4_method_25_code
def yX2_forgetCycles : MethodName := ⟨RX2, "forgetCycles", "()I"⟩
abbrev cX2_carsAhead : ByteArray := prog_4_method_26_code
def yX2_carsAhead : MethodName := ⟨RX2, "carsAhead", "(I)I"⟩
abbrev cX2_carsInLanes : ByteArray := prog_4_method_27_code
def yX2_carsInLanes : MethodName := ⟨RX2, "carsInLanes", "()I"⟩
abbrev cX2_morningOf : ByteArray := prog_4_method_28_code
def yX2_morningOf : MethodName := ⟨RX2, "morningOf", "(I)I"⟩
abbrev cX2_floodMinute : ByteArray := prog_4_method_29_code
def yX2_floodMinute : MethodName := ⟨RX2, "floodMinute", "(I)I"⟩
def RX3 : String := "CellarCars$Keys"
def TX3 : u_T := fun k => match k with
  | 0 => ("CellarCars$Keys", "count", "I", false)
  | 1 => ("CellarCars$Keys", "cars", "[I", true)
  | 2 => ("CellarCars$Keys", "hours", "[I", true)
  | _ => ("CellarCars$Keys", "has", "[I", true)
def tyX3 : Nat → FieldType := fun k => match k with
  | 0 => .int
  | 1 => .array .int
  | 2 => .array .int
  | _ => .array .int
abbrev wsX30 : List Cond := u_ws RX3 TX3 4
theorem nmX3 : ∀ a, a < 4 → ∀ b, b < 4 → a ≠ b → (TX3 a).2.1 ≠ (TX3 b).2.1 := by decide +kernel
theorem tyX3_ok : ∀ k, k < 4 → parseFieldDescriptor (TX3 k).2.2.1 = some (tyX3 k) := by decide +kernel
abbrev cX3_init : ByteArray := prog_5_method_1_code
def yX3_init : MethodName := ⟨RX3, "<init>", "()V"⟩
abbrev cX3_become : ByteArray := prog_5_method_2_code
def yX3_become : MethodName := ⟨RX3, "become", "(LCellarCars$Keys;)V"⟩
abbrev cX3_add : ByteArray := prog_5_method_3_code
def yX3_add : MethodName := ⟨RX3, "add", "(IIZ)V"⟩
abbrev cX3_isThere : ByteArray := prog_5_method_4_code
def yX3_isThere : MethodName := ⟨RX3, "isThere", "(III)Z"⟩
abbrev cX3_carsWithKey : ByteArray := prog_5_method_5_code
def yX3_carsWithKey : MethodName := ⟨RX3, "carsWithKey", "(II)I"⟩
def RX4 : String := "CellarCars$Led"
def TX4 : u_T := fun k => match k with
  | 0 => ("CellarCars$Led", "count", "I", false)
  | 1 => ("CellarCars$Led", "cars", "[I", true)
  | _ => ("CellarCars$Led", "events", "[I", true)
def tyX4 : Nat → FieldType := fun k => match k with
  | 0 => .int
  | 1 => .array .int
  | _ => .array .int
abbrev wsX40 : List Cond := u_ws RX4 TX4 3
theorem nmX4 : ∀ a, a < 3 → ∀ b, b < 3 → a ≠ b → (TX4 a).2.1 ≠ (TX4 b).2.1 := by decide +kernel
theorem tyX4_ok : ∀ k, k < 3 → parseFieldDescriptor (TX4 k).2.2.1 = some (tyX4 k) := by decide +kernel
abbrev cX4_init : ByteArray := prog_6_method_1_code
def yX4_init : MethodName := ⟨RX4, "<init>", "()V"⟩
abbrev cX4_become : ByteArray := prog_6_method_2_code
def yX4_become : MethodName := ⟨RX4, "become", "(LCellarCars$Led;)V"⟩
abbrev cX4_add : ByteArray := prog_6_method_3_code
def yX4_add : MethodName := ⟨RX4, "add", "(II)V"⟩
abbrev cX4_shareOf : ByteArray := prog_6_method_4_code
def yX4_shareOf : MethodName := ⟨RX4, "shareOf", "(III)I"⟩
abbrev cX4_latestUnharmed : ByteArray := prog_6_method_5_code
def yX4_latestUnharmed : MethodName := ⟨RX4, "latestUnharmed", "(I)I"⟩
abbrev cX4_firstHarmed : ByteArray := prog_6_method_6_code
def yX4_firstHarmed : MethodName := ⟨RX4, "firstHarmed", "(II)I"⟩
abbrev cX4_shuntsBy : ByteArray := prog_6_method_7_code
def yX4_shuntsBy : MethodName := ⟨RX4, "shuntsBy", "(IIII)I"⟩
def RX5 : String := "CellarCars$Planning"
def TX5 : u_T := fun k => match k with
  | 0 => ("CellarCars$Planning", "best", "[I", true)
  | 1 => ("CellarCars$Planning", "chosen", "[I", true)
  | 2 => ("CellarCars$Planning", "filled", "[I", true)
  | _ => ("CellarCars$Planning", "least", "I", false)
def tyX5 : Nat → FieldType := fun k => match k with
  | 0 => .array .int
  | 1 => .array .int
  | 2 => .array .int
  | _ => .int
abbrev wsX50 : List Cond := u_ws RX5 TX5 4
theorem nmX5 : ∀ a, a < 4 → ∀ b, b < 4 → a ≠ b → (TX5 a).2.1 ≠ (TX5 b).2.1 := by decide +kernel
theorem tyX5_ok : ∀ k, k < 4 → parseFieldDescriptor (TX5 k).2.2.1 = some (tyX5 k) := by decide +kernel
abbrev cX5_init : ByteArray := prog_7_method_1_code
def yX5_init : MethodName := ⟨RX5, "<init>", "()V"⟩
abbrev cX5_leastMornings : ByteArray := prog_7_method_2_code
def yX5_leastMornings : MethodName := ⟨RX5, "leastMornings", "(LCellarCars$Desk;)I"⟩
abbrev cX5_assign : ByteArray := prog_7_method_3_code
def yX5_assign : MethodName := ⟨RX5, "assign", "(LCellarCars$Desk;II)V"⟩
abbrev cX5_added : ByteArray := prog_7_method_4_code
def yX5_added : MethodName := ⟨RX5, "added", "(LCellarCars$Desk;I)I"⟩
def RX6 : String := "CellarCars$Renting"
def TX6 : u_T := fun k => match k with
  | 0 => ("CellarCars$Renting", "best", "[I", true)
  | 1 => ("CellarCars$Renting", "chosen", "[I", true)
  | _ => ("CellarCars$Renting", "most", "I", false)
def tyX6 : Nat → FieldType := fun k => match k with
  | 0 => .array .int
  | 1 => .array .int
  | _ => .int
abbrev wsX60 : List Cond := u_ws RX6 TX6 3
theorem nmX6 : ∀ a, a < 3 → ∀ b, b < 3 → a ≠ b → (TX6 a).2.1 ≠ (TX6 b).2.1 := by decide +kernel
theorem tyX6_ok : ∀ k, k < 3 → parseFieldDescriptor (TX6 k).2.2.1 = some (tyX6 k) := by decide +kernel
abbrev cX6_init : ByteArray := prog_8_method_1_code
def yX6_init : MethodName := ⟨RX6, "<init>", "()V"⟩
abbrev cX6_mostBids : ByteArray := prog_8_method_2_code
def yX6_mostBids : MethodName := ⟨RX6, "mostBids", "([II)I"⟩
abbrev cX6_give : ByteArray := prog_8_method_3_code
def yX6_give : MethodName := ⟨RX6, "give", "([IIIII)V"⟩
abbrev cX6_rentOf : ByteArray := prog_8_method_4_code
def yX6_rentOf : MethodName := ⟨RX6, "rentOf", "([II)I"⟩
def RX7 : String := "CellarCars$Rescuing"
def TX7 : u_T := fun k => match k with
  | 0 => ("CellarCars$Rescuing", "best", "[I", true)
  | 1 => ("CellarCars$Rescuing", "bestCount", "I", false)
  | 2 => ("CellarCars$Rescuing", "taken", "[I", true)
  | 3 => ("CellarCars$Rescuing", "left", "[I", true)
  | _ => ("CellarCars$Rescuing", "bestWorth", "I", false)
def tyX7 : Nat → FieldType := fun k => match k with
  | 0 => .array .int
  | 1 => .int
  | 2 => .array .int
  | 3 => .array .int
  | _ => .int
abbrev wsX70 : List Cond := u_ws RX7 TX7 5
theorem nmX7 : ∀ a, a < 5 → ∀ b, b < 5 → a ≠ b → (TX7 a).2.1 ≠ (TX7 b).2.1 := by decide +kernel
theorem tyX7_ok : ∀ k, k < 5 → parseFieldDescriptor (TX7 k).2.2.1 = some (tyX7 k) := by decide +kernel
abbrev cX7_init : ByteArray := prog_9_method_1_code
def yX7_init : MethodName := ⟨RX7, "<init>", "()V"⟩
abbrev cX7_mostWorth : ByteArray := prog_9_method_2_code
def yX7_mostWorth : MethodName := ⟨RX7, "mostWorth", "(LCellarCars$Garage;I)I"⟩
abbrev cX7_takeMore : ByteArray := prog_9_method_3_code
def yX7_takeMore : MethodName := ⟨RX7, "takeMore", "(LCellarCars$Garage;III)V"⟩
def RX8 : String := "CellarCars$Rules"
def TX8 : u_T := fun k => match k with
  | 0 => ("CellarCars$Rules", "row", "[I", true)
  | _ => ("CellarCars$Rules", "known", "[I", true)
def tyX8 : Nat → FieldType := fun k => match k with
  | 0 => .array .int
  | _ => .array .int
abbrev wsX80 : List Cond := u_ws RX8 TX8 2
theorem nmX8 : ∀ a, a < 2 → ∀ b, b < 2 → a ≠ b → (TX8 a).2.1 ≠ (TX8 b).2.1 := by decide +kernel
theorem tyX8_ok : ∀ k, k < 2 → parseFieldDescriptor (TX8 k).2.2.1 = some (tyX8 k) := by decide +kernel
abbrev cX8_init : ByteArray := prog_10_method_1_code
def yX8_init : MethodName := ⟨RX8, "<init>", "()V"⟩
abbrev cX8_isSign : ByteArray := prog_10_method_2_code
def yX8_isSign : MethodName := ⟨RX8, "isSign", "(I)Z"⟩
abbrev cX8_suppose : ByteArray := prog_10_method_3_code
def yX8_suppose : MethodName := ⟨RX8, "suppose", "(IIIIII)V"⟩
abbrev cX8_let : ByteArray := prog_10_method_4_code
def yX8_let : MethodName := ⟨RX8, "let", "([II)Z"⟩
abbrev cX8_firstFault : ByteArray := prog_10_method_5_code
def yX8_firstFault : MethodName := ⟨RX8, "firstFault", "([II)I"⟩
abbrev cX8_asked : ByteArray := prog_10_method_6_code
def yX8_asked : MethodName := ⟨RX8, "asked", "(I)I"⟩
abbrev cX8_worked : ByteArray := prog_10_method_7_code
def yX8_worked : MethodName := ⟨RX8, "worked", "(II)I"⟩
abbrev cX8_knownBy : ByteArray := prog_10_method_8_code
def yX8_knownBy : MethodName := ⟨RX8, "knownBy", "(I)I"⟩
abbrev cX8_joins : ByteArray := prog_10_method_9_code
def yX8_joins : MethodName := ⟨RX8, "joins", "(III)Z"⟩
def RX9 : String := "CellarCars$Sheets"
def TX9 : u_T := fun k => match k with
  | 0 => ("CellarCars$Sheets", "bits", "[I", true)
  | 1 => ("CellarCars$Sheets", "size", "[I", true)
  | _ => ("CellarCars$Sheets", "numbers", "[I", true)
def tyX9 : Nat → FieldType := fun k => match k with
  | 0 => .array .int
  | 1 => .array .int
  | _ => .array .int
abbrev wsX90 : List Cond := u_ws RX9 TX9 3
theorem nmX9 : ∀ a, a < 3 → ∀ b, b < 3 → a ≠ b → (TX9 a).2.1 ≠ (TX9 b).2.1 := by decide +kernel
theorem tyX9_ok : ∀ k, k < 3 → parseFieldDescriptor (TX9 k).2.2.1 = some (tyX9 k) := by decide +kernel
abbrev cX9_init : ByteArray := prog_11_method_1_code
def yX9_init : MethodName := ⟨RX9, "<init>", "()V"⟩
abbrev cX9_isSheet : ByteArray := prog_11_method_2_code
def yX9_isSheet : MethodName := ⟨RX9, "isSheet", "(I)Z"⟩
abbrev cX9_isMissing : ByteArray := prog_11_method_3_code
def yX9_isMissing : MethodName := ⟨RX9, "isMissing", "(I)Z"⟩
abbrev cX9_begin : ByteArray := prog_11_method_4_code
def yX9_begin : MethodName := ⟨RX9, "begin", "(III)V"⟩
abbrev cX9_number : ByteArray := prog_11_method_5_code
def yX9_number : MethodName := ⟨RX9, "number", "(II)I"⟩
abbrev cX9_write : ByteArray := prog_11_method_6_code
def yX9_write : MethodName := ⟨RX9, "write", "(III)V"⟩
abbrev cX9_hasSpan : ByteArray := prog_11_method_7_code
def yX9_hasSpan : MethodName := ⟨RX9, "hasSpan", "(III)Z"⟩
abbrev cX9_carryOver : ByteArray := prog_11_method_8_code
def yX9_carryOver : MethodName := ⟨RX9, "carryOver", "(IIIII)V"⟩
def RX10 : String := "CellarCars$Shunting"
def TX10 : u_T := fun k => match k with
  | 0 => ("CellarCars$Shunting", "row", "[I", true)
  | 1 => ("CellarCars$Shunting", "tried", "LCellarCars$Garage;", true)
  | _ => ("CellarCars$Shunting", "keys", "I", false)
def tyX10 : Nat → FieldType := fun k => match k with
  | 0 => .array .int
  | 1 => .object "CellarCars$Garage"
  | _ => .int
abbrev wsX100 : List Cond := u_ws RX10 TX10 3
theorem nmX10 : ∀ a, a < 3 → ∀ b, b < 3 → a ≠ b → (TX10 a).2.1 ≠ (TX10 b).2.1 := by decide +kernel
theorem tyX10_ok : ∀ k, k < 3 → parseFieldDescriptor (TX10 k).2.2.1 = some (tyX10 k) := by decide +kernel
abbrev cX10_init : ByteArray := prog_12_method_1_code
def yX10_init : MethodName := ⟨RX10, "<init>", "()V"⟩
abbrev cX10_begin : ByteArray := prog_12_method_2_code
def yX10_begin : MethodName := ⟨RX10, "begin", "(LCellarCars$Garage;I)V"⟩
abbrev cX10_frees : ByteArray := prog_12_method_3_code
def yX10_frees : MethodName := ⟨RX10, "frees", "(I)Z"⟩
abbrev cX10_shortest : ByteArray := prog_12_method_4_code
def yX10_shortest : MethodName := ⟨RX10, "shortest", "(LCellarCars$Garage;II)I"⟩
abbrev cX10_search : ByteArray := prog_12_method_5_code
def yX10_search : MethodName := ⟨RX10, "search", "(III)Z"⟩
abbrev cX10_carryOut : ByteArray := prog_12_method_6_code
def yX10_carryOut : MethodName := ⟨RX10, "carryOut", "(II)Z"⟩
def RX11 : String := "CellarCars"
def TX11 : u_T := fun k => match k with
  | 0 => ("CellarCars", "desk", "LCellarCars$Desk;", true)
  | 1 => ("CellarCars", "past", "[LCellarCars$Desk;", true)
  | 2 => ("CellarCars", "sheets", "LCellarCars$Sheets;", true)
  | 3 => ("CellarCars", "shunting", "LCellarCars$Shunting;", true)
  | 4 => ("CellarCars", "planning", "LCellarCars$Planning;", true)
  | 5 => ("CellarCars", "charge", "LCellarCars$Charge;", true)
  | 6 => ("CellarCars", "renting", "LCellarCars$Renting;", true)
  | 7 => ("CellarCars", "rules", "LCellarCars$Rules;", true)
  | 8 => ("CellarCars", "rescuing", "LCellarCars$Rescuing;", true)
  | 9 => ("CellarCars", "pastNext", "I", false)
  | 10 => ("CellarCars", "pastCount", "I", false)
  | _ => ("CellarCars", "findings", "I", false)
def tyX11 : Nat → FieldType := fun k => match k with
  | 0 => .object "CellarCars$Desk"
  | 1 => .array (.object "CellarCars$Desk")
  | 2 => .object "CellarCars$Sheets"
  | 3 => .object "CellarCars$Shunting"
  | 4 => .object "CellarCars$Planning"
  | 5 => .object "CellarCars$Charge"
  | 6 => .object "CellarCars$Renting"
  | 7 => .object "CellarCars$Rules"
  | 8 => .object "CellarCars$Rescuing"
  | 9 => .int
  | 10 => .int
  | _ => .int
abbrev wsX110 : List Cond := u_ws RX11 TX11 12
theorem nmX11 : ∀ a, a < 12 → ∀ b, b < 12 → a ≠ b → (TX11 a).2.1 ≠ (TX11 b).2.1 := by decide +kernel
theorem tyX11_ok : ∀ k, k < 12 → parseFieldDescriptor (TX11 k).2.2.1 = some (tyX11 k) := by decide +kernel
abbrev cX11_init : ByteArray := prog_1_method_1_code
def yX11_init : MethodName := ⟨RX11, "<init>", "()V"⟩
abbrev cX11_lane : ByteArray := prog_1_method_2_code
def yX11_lane : MethodName := ⟨RX11, "lane", "(IIII)I"⟩
abbrev cX11_as : ByteArray := prog_1_method_3_code
def yX11_as : MethodName := ⟨RX11, "as", "(II)I"⟩
abbrev cX11_laneIs : ByteArray := prog_1_method_4_code
def yX11_laneIs : MethodName := ⟨RX11, "laneIs", "(II)I"⟩
abbrev cX11_breaks : ByteArray := prog_1_method_5_code
def yX11_breaks : MethodName := ⟨RX11, "breaks", "(IZ)I"⟩
abbrev cX11_car : ByteArray := prog_1_method_6_code
def yX11_car : MethodName := ⟨RX11, "car", "(IIIIII)I"⟩
abbrev cX11_carIs : ByteArray := prog_1_method_7_code
def yX11_carIs : MethodName := ⟨RX11, "carIs", "(II)I"⟩
abbrev cX11_tell : ByteArray := prog_1_method_8_code
def yX11_tell : MethodName := ⟨RX11, "tell", "(III)I"⟩
abbrev cX11_at : ByteArray := prog_1_method_9_code
def yX11_at : MethodName := ⟨RX11, "at", "(II)I"⟩
abbrev cX11_fits : ByteArray := prog_1_method_10_code
def yX11_fits : MethodName := ⟨RX11, "fits", "(II)I"⟩
abbrev cX11_park : ByteArray := prog_1_method_11_code
def yX11_park : MethodName := ⟨RX11, "park", "(II)I"⟩
abbrev cX11_shunt : ByteArray := prog_1_method_12_code
def yX11_shunt : MethodName := ⟨RX11, "shunt", "(II)I"⟩
abbrev cX11_leave : ByteArray := prog_1_method_13_code
def yX11_leave : MethodName := ⟨RX11, "leave", "(I)I"⟩
abbrev cX11_night : ByteArray := prog_1_method_14_code
def yX11_night : MethodName := ⟨RX11, "night", "()I"⟩
abbrev cX11_hour : ByteArray := prog_1_method_15_code
def yX11_hour : MethodName := ⟨RX11, "hour", "(I)I"⟩
abbrev cX11_ahead : ByteArray := prog_1_method_16_code
def yX11_ahead : MethodName := ⟨RX11, "ahead", "(I)I"⟩
abbrev cX11_fewest : ByteArray := prog_1_method_17_code
def yX11_fewest : MethodName := ⟨RX11, "fewest", "(I)I"⟩
abbrev cX11_step : ByteArray := prog_1_method_18_code
def yX11_step : MethodName := ⟨RX11, "step", "(II)I"⟩
abbrev cX11_proves : ByteArray := prog_1_method_19_code
def yX11_proves : MethodName := ⟨RX11, "proves", "(II)I"⟩
abbrev cX11_morning : ByteArray := prog_1_method_20_code
def yX11_morning : MethodName := ⟨RX11, "morning", "(I)I"⟩
abbrev cX11_arrive : ByteArray := prog_1_method_21_code
def yX11_arrive : MethodName := ⟨RX11, "arrive", "(I)I"⟩
abbrev cX11_clear : ByteArray := prog_1_method_22_code
def yX11_clear : MethodName := ⟨RX11, "clear", "()I"⟩
abbrev cX11_plan : ByteArray := prog_1_method_23_code
def yX11_plan : MethodName := ⟨RX11, "plan", "()I"⟩
abbrev cX11_planned : ByteArray := prog_1_method_24_code
def yX11_planned : MethodName := ⟨RX11, "planned", "(I)I"⟩
abbrev cX11_chargers : ByteArray := prog_1_method_25_code
def yX11_chargers : MethodName := ⟨RX11, "chargers", "(I)I"⟩
abbrev cX11_charged : ByteArray := prog_1_method_26_code
def yX11_charged : MethodName := ⟨RX11, "charged", "()I"⟩
abbrev cX11_charging : ByteArray := prog_1_method_27_code
def yX11_charging : MethodName := ⟨RX11, "charging", "(I)I"⟩
abbrev cX11_bid : ByteArray := prog_1_method_28_code
def yX11_bid : MethodName := ⟨RX11, "bid", "(III)I"⟩
abbrev cX11_given : ByteArray := prog_1_method_29_code
def yX11_given : MethodName := ⟨RX11, "given", "(I)I"⟩
abbrev cX11_rent : ByteArray := prog_1_method_30_code
def yX11_rent : MethodName := ⟨RX11, "rent", "(I)I"⟩
abbrev cX11_giving : ByteArray := prog_1_method_31_code
def yX11_giving : MethodName := ⟨RX11, "giving", "()I"⟩
abbrev cX11_porter : ByteArray := prog_1_method_32_code
def yX11_porter : MethodName := ⟨RX11, "porter", "(I)I"⟩
abbrev cX11_look : ByteArray := prog_1_method_33_code
def yX11_look : MethodName := ⟨RX11, "look", "(IZ)I"⟩
abbrev cX11_harm : ByteArray := prog_1_method_34_code
def yX11_harm : MethodName := ⟨RX11, "harm", "(III)I"⟩
abbrev cX11_text : ByteArray := prog_1_method_35_code
def yX11_text : MethodName := ⟨RX11, "text", "(I)I"⟩
abbrev cX11_wrong : ByteArray := prog_1_method_36_code
def yX11_wrong : MethodName := ⟨RX11, "wrong", "()I"⟩
abbrev cX11_lets : ByteArray := prog_1_method_37_code
def yX11_lets : MethodName := ⟨RX11, "lets", "(III)I"⟩
abbrev cX11_flood : ByteArray := prog_1_method_38_code
def yX11_flood : MethodName := ⟨RX11, "flood", "(II)I"⟩
abbrev cX11_pace : ByteArray := prog_1_method_39_code
def yX11_pace : MethodName := ⟨RX11, "pace", "(I)I"⟩
abbrev cX11_rescue : ByteArray := prog_1_method_40_code
def yX11_rescue : MethodName := ⟨RX11, "rescue", "()I"⟩
abbrev cX11_rescued : ByteArray := prog_1_method_41_code
def yX11_rescued : MethodName := ⟨RX11, "rescued", "(I)I"⟩
abbrev cX11_note : ByteArray := prog_1_method_42_code
def yX11_note : MethodName := ⟨RX11, "note", "(IIZ)I"⟩
abbrev cX11_key : ByteArray := prog_1_method_43_code
def yX11_key : MethodName := ⟨RX11, "key", "(III)I"⟩
abbrev cX11_sheet : ByteArray := prog_1_method_44_code
def yX11_sheet : MethodName := ⟨RX11, "sheet", "(III)I"⟩
abbrev cX11_put : ByteArray := prog_1_method_45_code
def yX11_put : MethodName := ⟨RX11, "put", "(III)I"⟩
abbrev cX11_copy : ByteArray := prog_1_method_46_code
def yX11_copy : MethodName := ⟨RX11, "copy", "(IIIII)I"⟩
abbrev cX11_undo : ByteArray := prog_1_method_47_code
def yX11_undo : MethodName := ⟨RX11, "undo", "()I"⟩
abbrev cX11_all : ByteArray := prog_1_method_48_code
def yX11_all : MethodName := ⟨RX11, "all", "(I)I"⟩
abbrev cX11_refuse : ByteArray := prog_1_method_49_code
def yX11_refuse : MethodName := ⟨RX11, "refuse", "(I)I"⟩
abbrev cX11_keepForUndo : ByteArray := prog_1_method_50_code
def yX11_keepForUndo : MethodName := ⟨RX11, "keepForUndo", "()V"⟩
abbrev cX11_inLaneFinding : ByteArray := prog_1_method_51_code
def yX11_inLaneFinding : MethodName := ⟨RX11, "inLaneFinding", "(I)I"⟩
abbrev cX11_keysNow : ByteArray := prog_1_method_52_code
def yX11_keysNow : MethodName := ⟨RX11, "keysNow", "()I"⟩
abbrev cX11_isLet : ByteArray := prog_1_method_53_code
def yX11_isLet : MethodName := ⟨RX11, "isLet", "(III)Z"⟩
abbrev cX11_isWithin : ByteArray := prog_1_method_54_code
def yX11_isWithin : MethodName := ⟨RX11, "isWithin", "(III)Z"⟩
abbrev cX11_isHour : ByteArray := prog_1_method_55_code
def yX11_isHour : MethodName := ⟨RX11, "isHour", "(I)Z"⟩
abbrev cX11_isTenant : ByteArray := prog_1_method_56_code
def yX11_isTenant : MethodName := ⟨RX11, "isTenant", "(I)Z"⟩
abbrev cX11_isPorter : ByteArray := prog_1_method_57_code
def yX11_isPorter : MethodName := ⟨RX11, "isPorter", "(I)Z"⟩
def RX12 : String := "CellarCarsModel"
def TX12 : u_T := fun k => match k with
  | 0 => ("CellarCarsModel", "now", "[I", true)
  | 1 => ("CellarCarsModel", "past", "[I", true)
  | 2 => ("CellarCarsModel", "kept", "I", false)
  | 3 => ("CellarCarsModel", "findings", "I", false)
  | 4 => ("CellarCarsModel", "bits", "[I", true)
  | 5 => ("CellarCarsModel", "sizes", "[I", true)
  | 6 => ("CellarCarsModel", "sheets", "[I", true)
  | 7 => ("CellarCarsModel", "aside", "[I", true)
  | 8 => ("CellarCarsModel", "tried", "[I", true)
  | 9 => ("CellarCarsModel", "laneOf", "[I", true)
  | 10 => ("CellarCarsModel", "planned", "[I", true)
  | 11 => ("CellarCarsModel", "least", "I", false)
  | 12 => ("CellarCarsModel", "needs", "[I", true)
  | 13 => ("CellarCarsModel", "givenTo", "[I", true)
  | 14 => ("CellarCarsModel", "row", "[I", true)
  | 15 => ("CellarCarsModel", "bestWorth", "I", false)
  | 16 => ("CellarCarsModel", "bestMany", "I", false)
  | 17 => ("CellarCarsModel", "bestCars", "[I", true)
  | 18 => ("CellarCarsModel", "takenCars", "[I", true)
  | 19 => ("CellarCarsModel", "takenOf", "[I", true)
  | _ => ("CellarCarsModel", "carried", "[I", true)
def tyX12 : Nat → FieldType := fun k => match k with
  | 0 => .array .int
  | 1 => .array .int
  | 2 => .int
  | 3 => .int
  | 4 => .array .int
  | 5 => .array .int
  | 6 => .array .int
  | 7 => .array .int
  | 8 => .array .int
  | 9 => .array .int
  | 10 => .array .int
  | 11 => .int
  | 12 => .array .int
  | 13 => .array .int
  | 14 => .array .int
  | 15 => .int
  | 16 => .int
  | 17 => .array .int
  | 18 => .array .int
  | 19 => .array .int
  | _ => .array .int
abbrev wsX120 : List Cond := u_ws RX12 TX12 21
theorem nmX12 : ∀ a, a < 21 → ∀ b, b < 21 → a ≠ b → (TX12 a).2.1 ≠ (TX12 b).2.1 := by decide +kernel
theorem tyX12_ok : ∀ k, k < 21 → parseFieldDescriptor (TX12 k).2.2.1 = some (tyX12 k) := by decide +kernel
abbrev cX12_init : ByteArray := prog_14_method_1_code
def yX12_init : MethodName := ⟨RX12, "<init>", "()V"⟩
abbrev cX12_finding : ByteArray := prog_14_method_2_code
def yX12_finding : MethodName := ⟨RX12, "finding", "(I)I"⟩
abbrev cX12_within : ByteArray := prog_14_method_3_code
def yX12_within : MethodName := ⟨RX12, "within", "(III)Z"⟩
abbrev cX12_isLane : ByteArray := prog_14_method_4_code
def yX12_isLane : MethodName := ⟨RX12, "isLane", "(I)Z"⟩
abbrev cX12_isCar : ByteArray := prog_14_method_5_code
def yX12_isCar : MethodName := ⟨RX12, "isCar", "(I)Z"⟩
abbrev cX12_isHour : ByteArray := prog_14_method_6_code
def yX12_isHour : MethodName := ⟨RX12, "isHour", "(I)Z"⟩
abbrev cX12_keep : ByteArray := prog_14_method_7_code
def yX12_keep : MethodName := ⟨RX12, "keep", "()V"⟩
abbrev cX12_undo : ByteArray := prog_14_method_8_code
def yX12_undo : MethodName := ⟨RX12, "undo", "()I"⟩
abbrev cX12_lane : ByteArray := prog_14_method_9_code
def yX12_lane : MethodName := ⟨RX12, "lane", "(IIII)I"⟩
abbrev cX12_isLift : ByteArray := prog_14_method_10_code
def yX12_isLift : MethodName := ⟨RX12, "isLift", "(I)Z"⟩
abbrev cX12_as : ByteArray := prog_14_method_11_code
def yX12_as : MethodName := ⟨RX12, "as", "(II)I"⟩
abbrev cX12_carAt : ByteArray := prog_14_method_12_code
def yX12_carAt : MethodName := ⟨RX12, "carAt", "(II)I"⟩
abbrev cX12_leftOf : ByteArray := prog_14_method_13_code
def yX12_leftOf : MethodName := ⟨RX12, "leftOf", "(I)I"⟩
abbrev cX12_laneIs : ByteArray := prog_14_method_14_code
def yX12_laneIs : MethodName := ⟨RX12, "laneIs", "(II)I"⟩
abbrev cX12_breaks : ByteArray := prog_14_method_15_code
def yX12_breaks : MethodName := ⟨RX12, "breaks", "(IZ)I"⟩
abbrev cX12_car : ByteArray := prog_14_method_16_code
def yX12_car : MethodName := ⟨RX12, "car", "(IIIIII)I"⟩
abbrev cX12_standOf : ByteArray := prog_14_method_17_code
def yX12_standOf : MethodName := ⟨RX12, "standOf", "(I)I"⟩
abbrev cX12_manyAhead : ByteArray := prog_14_method_18_code
def yX12_manyAhead : MethodName := ⟨RX12, "manyAhead", "(I)I"⟩
abbrev cX12_carIs : ByteArray := prog_14_method_19_code
def yX12_carIs : MethodName := ⟨RX12, "carIs", "(II)I"⟩
abbrev cX12_tell : ByteArray := prog_14_method_20_code
def yX12_tell : MethodName := ⟨RX12, "tell", "(III)I"⟩
abbrev cX12_at : ByteArray := prog_14_method_21_code
def yX12_at : MethodName := ⟨RX12, "at", "(II)I"⟩
abbrev cX12_canFit : ByteArray := prog_14_method_22_code
def yX12_canFit : MethodName := ⟨RX12, "canFit", "(II)Z"⟩
abbrev cX12_fits : ByteArray := prog_14_method_23_code
def yX12_fits : MethodName := ⟨RX12, "fits", "(II)I"⟩
abbrev cX12_isStuck : ByteArray := prog_14_method_24_code
def yX12_isStuck : MethodName := ⟨RX12, "isStuck", "(I)Z"⟩
abbrev cX12_isFree : ByteArray := prog_14_method_25_code
def yX12_isFree : MethodName := ⟨RX12, "isFree", "(I)Z"⟩
abbrev cX12_turns : ByteArray := prog_14_method_26_code
def yX12_turns : MethodName := ⟨RX12, "turns", "(I)V"⟩
abbrev cX12_comes : ByteArray := prog_14_method_27_code
def yX12_comes : MethodName := ⟨RX12, "comes", "(II)V"⟩
abbrev cX12_goes : ByteArray := prog_14_method_28_code
def yX12_goes : MethodName := ⟨RX12, "goes", "(I)V"⟩
abbrev cX12_park : ByteArray := prog_14_method_29_code
def yX12_park : MethodName := ⟨RX12, "park", "(II)I"⟩
abbrev cX12_hinders : ByteArray := prog_14_method_30_code
def yX12_hinders : MethodName := ⟨RX12, "hinders", "(II)I"⟩
abbrev cX12_does : ByteArray := prog_14_method_31_code
def yX12_does : MethodName := ⟨RX12, "does", "(II)V"⟩
abbrev cX12_led : ByteArray := prog_14_method_32_code
def yX12_led : MethodName := ⟨RX12, "led", "(I)V"⟩
abbrev cX12_shunt : ByteArray := prog_14_method_33_code
def yX12_shunt : MethodName := ⟨RX12, "shunt", "(II)I"⟩
abbrev cX12_leave : ByteArray := prog_14_method_34_code
def yX12_leave : MethodName := ⟨RX12, "leave", "(I)I"⟩
abbrev cX12_night : ByteArray := prog_14_method_35_code
def yX12_night : MethodName := ⟨RX12, "night", "()I"⟩
abbrev cX12_hour : ByteArray := prog_14_method_36_code
def yX12_hour : MethodName := ⟨RX12, "hour", "(I)I"⟩
abbrev cX12_ahead : ByteArray := prog_14_method_37_code
def yX12_ahead : MethodName := ⟨RX12, "ahead", "(I)I"⟩
abbrev cX12_lay : ByteArray := prog_14_method_38_code
def yX12_lay : MethodName := ⟨RX12, "lay", "(I)V"⟩
abbrev cX12_bring : ByteArray := prog_14_method_39_code
def yX12_bring : MethodName := ⟨RX12, "bring", "(I)V"⟩
abbrev cX12_frees : ByteArray := prog_14_method_40_code
def yX12_frees : MethodName := ⟨RX12, "frees", "(III)Z"⟩
abbrev cX12_findFewest : ByteArray := prog_14_method_41_code
def yX12_findFewest : MethodName := ⟨RX12, "findFewest", "(I)I"⟩
abbrev cX12_fewest : ByteArray := prog_14_method_42_code
def yX12_fewest : MethodName := ⟨RX12, "fewest", "(I)I"⟩
abbrev cX12_step : ByteArray := prog_14_method_43_code
def yX12_step : MethodName := ⟨RX12, "step", "(II)I"⟩
abbrev cX12_proves : ByteArray := prog_14_method_44_code
def yX12_proves : MethodName := ⟨RX12, "proves", "(II)I"⟩
abbrev cX12_morningOf : ByteArray := prog_14_method_45_code
def yX12_morningOf : MethodName := ⟨RX12, "morningOf", "(I)I"⟩
abbrev cX12_morning : ByteArray := prog_14_method_46_code
def yX12_morning : MethodName := ⟨RX12, "morning", "(I)I"⟩
abbrev cX12_arrivalOf : ByteArray := prog_14_method_47_code
def yX12_arrivalOf : MethodName := ⟨RX12, "arrivalOf", "(I)I"⟩
abbrev cX12_arrive : ByteArray := prog_14_method_48_code
def yX12_arrive : MethodName := ⟨RX12, "arrive", "(I)I"⟩
abbrev cX12_clear : ByteArray := prog_14_method_49_code
def yX12_clear : MethodName := ⟨RX12, "clear", "()I"⟩
abbrev cX12_moreBy : ByteArray := prog_14_method_50_code
def yX12_moreBy : MethodName := ⟨RX12, "moreBy", "(II)I"⟩
abbrev cX12_plans : ByteArray := prog_14_method_51_code
def yX12_plans : MethodName := ⟨RX12, "plans", "(II)V"⟩
abbrev cX12_findPlan : ByteArray := prog_14_method_52_code
def yX12_findPlan : MethodName := ⟨RX12, "findPlan", "()V"⟩
abbrev cX12_plan : ByteArray := prog_14_method_53_code
def yX12_plan : MethodName := ⟨RX12, "plan", "()I"⟩
abbrev cX12_planned : ByteArray := prog_14_method_54_code
def yX12_planned : MethodName := ⟨RX12, "planned", "(I)I"⟩
abbrev cX12_chargers : ByteArray := prog_14_method_55_code
def yX12_chargers : MethodName := ⟨RX12, "chargers", "(I)I"⟩
abbrev cX12_begin : ByteArray := prog_14_method_56_code
def yX12_begin : MethodName := ⟨RX12, "begin", "(I)V"⟩
abbrev cX12_charge : ByteArray := prog_14_method_57_code
def yX12_charge : MethodName := ⟨RX12, "charge", "(I)I"⟩
abbrev cX12_canAll : ByteArray := prog_14_method_58_code
def yX12_canAll : MethodName := ⟨RX12, "canAll", "(I)Z"⟩
abbrev cX12_many : ByteArray := prog_14_method_59_code
def yX12_many : MethodName := ⟨RX12, "many", "(I)I"⟩
abbrev cX12_findCharged : ByteArray := prog_14_method_60_code
def yX12_findCharged : MethodName := ⟨RX12, "findCharged", "()I"⟩
abbrev cX12_charged : ByteArray := prog_14_method_61_code
def yX12_charged : MethodName := ⟨RX12, "charged", "()I"⟩
abbrev cX12_charging : ByteArray := prog_14_method_62_code
def yX12_charging : MethodName := ⟨RX12, "charging", "(I)I"⟩
abbrev cX12_bid : ByteArray := prog_14_method_63_code
def yX12_bid : MethodName := ⟨RX12, "bid", "(III)I"⟩
abbrev cX12_mostFrom : ByteArray := prog_14_method_64_code
def yX12_mostFrom : MethodName := ⟨RX12, "mostFrom", "(III)I"⟩
abbrev cX12_findGiving : ByteArray := prog_14_method_65_code
def yX12_findGiving : MethodName := ⟨RX12, "findGiving", "()I"⟩
abbrev cX12_given : ByteArray := prog_14_method_66_code
def yX12_given : MethodName := ⟨RX12, "given", "(I)I"⟩
abbrev cX12_rent : ByteArray := prog_14_method_67_code
def yX12_rent : MethodName := ⟨RX12, "rent", "(I)I"⟩
abbrev cX12_giving : ByteArray := prog_14_method_68_code
def yX12_giving : MethodName := ⟨RX12, "giving", "()I"⟩
abbrev cX12_porter : ByteArray := prog_14_method_69_code
def yX12_porter : MethodName := ⟨RX12, "porter", "(I)I"⟩
abbrev cX12_look : ByteArray := prog_14_method_70_code
def yX12_look : MethodName := ⟨RX12, "look", "(IZ)I"⟩
abbrev cX12_harm : ByteArray := prog_14_method_71_code
def yX12_harm : MethodName := ⟨RX12, "harm", "(III)I"⟩
abbrev cX12_isSign : ByteArray := prog_14_method_72_code
def yX12_isSign : MethodName := ⟨RX12, "isSign", "(I)Z"⟩
abbrev cX12_text : ByteArray := prog_14_method_73_code
def yX12_text : MethodName := ⟨RX12, "text", "(I)I"⟩
abbrev cX12_wrongAt : ByteArray := prog_14_method_74_code
def yX12_wrongAt : MethodName := ⟨RX12, "wrongAt", "()I"⟩
abbrev cX12_wrong : ByteArray := prog_14_method_75_code
def yX12_wrong : MethodName := ⟨RX12, "wrong", "()I"⟩
abbrev cX12_readBy : ByteArray := prog_14_method_76_code
def yX12_readBy : MethodName := ⟨RX12, "readBy", "(IIII)I"⟩
abbrev cX12_joined : ByteArray := prog_14_method_77_code
def yX12_joined : MethodName := ⟨RX12, "joined", "(III)Z"⟩
abbrev cX12_isLet : ByteArray := prog_14_method_78_code
def yX12_isLet : MethodName := ⟨RX12, "isLet", "(III)Z"⟩
abbrev cX12_lets : ByteArray := prog_14_method_79_code
def yX12_lets : MethodName := ⟨RX12, "lets", "(III)I"⟩
abbrev cX12_flood : ByteArray := prog_14_method_80_code
def yX12_flood : MethodName := ⟨RX12, "flood", "(II)I"⟩
abbrev cX12_pace : ByteArray := prog_14_method_81_code
def yX12_pace : MethodName := ⟨RX12, "pace", "(I)I"⟩
abbrev cX12_minuteOf : ByteArray := prog_14_method_82_code
def yX12_minuteOf : MethodName := ⟨RX12, "minuteOf", "(I)I"⟩
abbrev cX12_rescues : ByteArray := prog_14_method_83_code
def yX12_rescues : MethodName := ⟨RX12, "rescues", "(II)V"⟩
abbrev cX12_findRescue : ByteArray := prog_14_method_84_code
def yX12_findRescue : MethodName := ⟨RX12, "findRescue", "()V"⟩
abbrev cX12_rescue : ByteArray := prog_14_method_85_code
def yX12_rescue : MethodName := ⟨RX12, "rescue", "()I"⟩
abbrev cX12_rescued : ByteArray := prog_14_method_86_code
def yX12_rescued : MethodName := ⟨RX12, "rescued", "(I)I"⟩
abbrev cX12_note : ByteArray := prog_14_method_87_code
def yX12_note : MethodName := ⟨RX12, "note", "(IIZ)I"⟩
abbrev cX12_hasKey : ByteArray := prog_14_method_88_code
def yX12_hasKey : MethodName := ⟨RX12, "hasKey", "(III)Z"⟩
abbrev cX12_key : ByteArray := prog_14_method_89_code
def yX12_key : MethodName := ⟨RX12, "key", "(III)I"⟩
abbrev cX12_isSheet : ByteArray := prog_14_method_90_code
def yX12_isSheet : MethodName := ⟨RX12, "isSheet", "(I)Z"⟩
abbrev cX12_sheet : ByteArray := prog_14_method_91_code
def yX12_sheet : MethodName := ⟨RX12, "sheet", "(III)I"⟩
abbrev cX12_put : ByteArray := prog_14_method_92_code
def yX12_put : MethodName := ⟨RX12, "put", "(III)I"⟩
abbrev cX12_copy : ByteArray := prog_14_method_93_code
def yX12_copy : MethodName := ⟨RX12, "copy", "(IIIII)I"⟩
abbrev cX12_all : ByteArray := prog_14_method_94_code
def yX12_all : MethodName := ⟨RX12, "all", "(I)I"⟩
def RJ6 : String := "java/lang/Integer"
def TJ6 : u_T := fun k => match k with
  | _ => ("", "", "", false)
def tyJ6 : Nat → FieldType := fun k => match k with
  | _ => .int
abbrev cJ6_bitCount_0f7a4 : ByteArray := prog_15_method_49_code
def yJ6_bitCount_0f7a4 : MethodName := ⟨RJ6, "bitCount", "(I)I"⟩
def RJ9 : String := "java/lang/Math"
def TJ9 : u_T := fun k => match k with
  | _ => ("", "", "", false)
def tyJ9 : Nat → FieldType := fun k => match k with
  | _ => .int
abbrev cJ9_max_7cf53 : ByteArray := prog_16_method_65_code
def yJ9_max_7cf53 : MethodName := ⟨RJ9, "max", "(II)I"⟩
abbrev cJ9_min_7cf53 : ByteArray := prog_16_method_69_code
def yJ9_min_7cf53 : MethodName := ⟨RJ9, "min", "(II)I"⟩
def RJ10 : String := "java/lang/System"
def TJ10 : u_T := fun k => match k with
  | _ => ("", "", "", false)
def tyJ10 : Nat → FieldType := fun k => match k with
  | _ => .int
def RJ7 : String := "java/util/Arrays"
def TJ7 : u_T := fun k => match k with
  | _ => ("", "", "", false)
def tyJ7 : Nat → FieldType := fun k => match k with
  | _ => .int
abbrev cJ7_rangeCheck_23922 : ByteArray := prog_18_method_30_code
def yJ7_rangeCheck_23922 : MethodName := ⟨RJ7, "rangeCheck", "(III)V"⟩
abbrev cJ7_fill_53178 : ByteArray := prog_18_method_103_code
def yJ7_fill_53178 : MethodName := ⟨RJ7, "fill", "([II)V"⟩
abbrev cJ7_fill_fda19 : ByteArray := prog_18_method_104_code
def yJ7_fill_fda19 : MethodName := ⟨RJ7, "fill", "([IIII)V"⟩
def RL : String := "CellarCarsLaw"
abbrev cL_law : ByteArray := code
def yL_law : MethodName := ⟨RL, "law", "([I)Z"⟩
abbrev vwCl : List vw_C := [(RX0, TX0, 2), (RX1, TX1, 13), (RX2, TX2, 13), (RX3, TX3, 4), (RX4, TX4, 3), (RX5, TX5, 4), (RX6, TX6, 3), (RX7, TX7, 5), (RX8, TX8, 2), (RX9, TX9, 3), (RX10, TX10, 3), (RX11, TX11, 12), (RX12, TX12, 21)]
