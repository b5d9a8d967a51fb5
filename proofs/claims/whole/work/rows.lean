section
-- ===== PART A: goes FIRST, ahead of the names: the tables' words, and 'selects' of the private methods out of them =====
/-- a private method of a class that the tables say can be made, by its rows of tables_1 -/
def lw_okq (q : MethodName × Nat) : Prop := (q.1.cls ≠ "java/lang/invoke/MethodHandle" ∧ q.1.cls ≠ "java/lang/invoke/VarHandle") ∧ Cond.instantiable q.1.cls q.2 ∈ tables_1 ∧ Cond.privateMethod q.1 ∈ tables_1 ∧ Cond.instanceMethod q.1 ∈ tables_1
theorem lw_p0 : lw_okq (⟨"CellarCars", "refuse", "(I)I"⟩, 12) := ⟨⟨by decide +kernel, by decide +kernel⟩, List.mem_of_getElem? (i := 19) (by decide +kernel), List.mem_of_getElem? (i := 369) (by decide +kernel), List.mem_of_getElem? (i := 370) (by decide +kernel)⟩
theorem lw_p1 : lw_okq (⟨"CellarCars", "keepForUndo", "()V"⟩, 12) := ⟨⟨by decide +kernel, by decide +kernel⟩, List.mem_of_getElem? (i := 19) (by decide +kernel), List.mem_of_getElem? (i := 374) (by decide +kernel), List.mem_of_getElem? (i := 375) (by decide +kernel)⟩
theorem lw_p2 : lw_okq (⟨"CellarCars$Garage", "cycleOf", "(I)I"⟩, 13) := ⟨⟨by decide +kernel, by decide +kernel⟩, List.mem_of_getElem? (i := 33) (by decide +kernel), List.mem_of_getElem? (i := 523) (by decide +kernel), List.mem_of_getElem? (i := 524) (by decide +kernel)⟩
theorem lw_p3 : lw_okq (⟨"CellarCars", "isLet", "(III)Z"⟩, 12) := ⟨⟨by decide +kernel, by decide +kernel⟩, List.mem_of_getElem? (i := 19) (by decide +kernel), List.mem_of_getElem? (i := 545) (by decide +kernel), List.mem_of_getElem? (i := 546) (by decide +kernel)⟩
theorem lw_p4 : lw_okq (⟨"CellarCars$Rules", "worked", "(II)I"⟩, 2) := ⟨⟨by decide +kernel, by decide +kernel⟩, List.mem_of_getElem? (i := 282) (by decide +kernel), List.mem_of_getElem? (i := 564) (by decide +kernel), List.mem_of_getElem? (i := 565) (by decide +kernel)⟩
theorem lw_p5 : lw_okq (⟨"CellarCars$Rules", "knownBy", "(I)I"⟩, 2) := ⟨⟨by decide +kernel, by decide +kernel⟩, List.mem_of_getElem? (i := 282) (by decide +kernel), List.mem_of_getElem? (i := 568) (by decide +kernel), List.mem_of_getElem? (i := 569) (by decide +kernel)⟩
theorem lw_p6 : lw_okq (⟨"CellarCars", "inLaneFinding", "(I)I"⟩, 12) := ⟨⟨by decide +kernel, by decide +kernel⟩, List.mem_of_getElem? (i := 19) (by decide +kernel), List.mem_of_getElem? (i := 593) (by decide +kernel), List.mem_of_getElem? (i := 594) (by decide +kernel)⟩
theorem lw_p7 : lw_okq (⟨"CellarCars", "keysNow", "()I"⟩, 12) := ⟨⟨by decide +kernel, by decide +kernel⟩, List.mem_of_getElem? (i := 19) (by decide +kernel), List.mem_of_getElem? (i := 623) (by decide +kernel), List.mem_of_getElem? (i := 624) (by decide +kernel)⟩
theorem lw_p8 : lw_okq (⟨"CellarCars$Shunting", "search", "(III)Z"⟩, 3) := ⟨⟨by decide +kernel, by decide +kernel⟩, List.mem_of_getElem? (i := 212) (by decide +kernel), List.mem_of_getElem? (i := 641) (by decide +kernel), List.mem_of_getElem? (i := 642) (by decide +kernel)⟩
theorem lw_p9 : lw_okq (⟨"CellarCars$Planning", "assign", "(LCellarCars$Desk;II)V"⟩, 4) := ⟨⟨by decide +kernel, by decide +kernel⟩, List.mem_of_getElem? (i := 231) (by decide +kernel), List.mem_of_getElem? (i := 720) (by decide +kernel), List.mem_of_getElem? (i := 721) (by decide +kernel)⟩
theorem lw_p10 : lw_okq (⟨"CellarCars$Planning", "added", "(LCellarCars$Desk;I)I"⟩, 4) := ⟨⟨by decide +kernel, by decide +kernel⟩, List.mem_of_getElem? (i := 231) (by decide +kernel), List.mem_of_getElem? (i := 727) (by decide +kernel), List.mem_of_getElem? (i := 728) (by decide +kernel)⟩
theorem lw_p11 : lw_okq (⟨"CellarCars$Charge", "waitingCars", "(LCellarCars$Garage;)I"⟩, 2) := ⟨⟨by decide +kernel, by decide +kernel⟩, List.mem_of_getElem? (i := 251) (by decide +kernel), List.mem_of_getElem? (i := 747) (by decide +kernel), List.mem_of_getElem? (i := 748) (by decide +kernel)⟩
theorem lw_p12 : lw_okq (⟨"CellarCars$Charge", "neediest", "(LCellarCars$Garage;I)I"⟩, 2) := ⟨⟨by decide +kernel, by decide +kernel⟩, List.mem_of_getElem? (i := 251) (by decide +kernel), List.mem_of_getElem? (i := 757) (by decide +kernel), List.mem_of_getElem? (i := 758) (by decide +kernel)⟩
theorem lw_p13 : lw_okq (⟨"CellarCars$Charge", "chargeThose", "(LCellarCars$Garage;I)I"⟩, 2) := ⟨⟨by decide +kernel, by decide +kernel⟩, List.mem_of_getElem? (i := 251) (by decide +kernel), List.mem_of_getElem? (i := 761) (by decide +kernel), List.mem_of_getElem? (i := 762) (by decide +kernel)⟩
theorem lw_p14 : lw_okq (⟨"CellarCars$Renting", "give", "([IIIII)V"⟩, 3) := ⟨⟨by decide +kernel, by decide +kernel⟩, List.mem_of_getElem? (i := 265) (by decide +kernel), List.mem_of_getElem? (i := 785) (by decide +kernel), List.mem_of_getElem? (i := 786) (by decide +kernel)⟩
theorem lw_p15 : lw_okq (⟨"CellarCars$Led", "latestUnharmed", "(I)I"⟩, 3) := ⟨⟨by decide +kernel, by decide +kernel⟩, List.mem_of_getElem? (i := 100) (by decide +kernel), List.mem_of_getElem? (i := 822) (by decide +kernel), List.mem_of_getElem? (i := 823) (by decide +kernel)⟩
def lw_privs_1 : List (MethodName × Nat) := [(⟨"CellarCars", "refuse", "(I)I"⟩, 12), (⟨"CellarCars", "keepForUndo", "()V"⟩, 12), (⟨"CellarCars$Garage", "cycleOf", "(I)I"⟩, 13), (⟨"CellarCars", "isLet", "(III)Z"⟩, 12), (⟨"CellarCars$Rules", "worked", "(II)I"⟩, 2), (⟨"CellarCars$Rules", "knownBy", "(I)I"⟩, 2), (⟨"CellarCars", "inLaneFinding", "(I)I"⟩, 12), (⟨"CellarCars", "keysNow", "()I"⟩, 12), (⟨"CellarCars$Shunting", "search", "(III)Z"⟩, 3), (⟨"CellarCars$Planning", "assign", "(LCellarCars$Desk;II)V"⟩, 4), (⟨"CellarCars$Planning", "added", "(LCellarCars$Desk;I)I"⟩, 4), (⟨"CellarCars$Charge", "waitingCars", "(LCellarCars$Garage;)I"⟩, 2), (⟨"CellarCars$Charge", "neediest", "(LCellarCars$Garage;I)I"⟩, 2), (⟨"CellarCars$Charge", "chargeThose", "(LCellarCars$Garage;I)I"⟩, 2), (⟨"CellarCars$Renting", "give", "([IIIII)V"⟩, 3), (⟨"CellarCars$Led", "latestUnharmed", "(I)I"⟩, 3)]
theorem lw_r1 : ∀ q ∈ lw_privs_1, lw_okq q := List.forall_mem_cons.mpr ⟨lw_p0, List.forall_mem_cons.mpr ⟨lw_p1, List.forall_mem_cons.mpr ⟨lw_p2, List.forall_mem_cons.mpr ⟨lw_p3, List.forall_mem_cons.mpr ⟨lw_p4, List.forall_mem_cons.mpr ⟨lw_p5, List.forall_mem_cons.mpr ⟨lw_p6, List.forall_mem_cons.mpr ⟨lw_p7, List.forall_mem_cons.mpr ⟨lw_p8, List.forall_mem_cons.mpr ⟨lw_p9, List.forall_mem_cons.mpr ⟨lw_p10, List.forall_mem_cons.mpr ⟨lw_p11, List.forall_mem_cons.mpr ⟨lw_p12, List.forall_mem_cons.mpr ⟨lw_p13, List.forall_mem_cons.mpr ⟨lw_p14, List.forall_mem_cons.mpr ⟨lw_p15, fun _ h => absurd h List.not_mem_nil⟩⟩⟩⟩⟩⟩⟩⟩⟩⟩⟩⟩⟩⟩⟩⟩
theorem lw_p16 : lw_okq (⟨"CellarCars$Led", "firstHarmed", "(II)I"⟩, 3) := ⟨⟨by decide +kernel, by decide +kernel⟩, List.mem_of_getElem? (i := 100) (by decide +kernel), List.mem_of_getElem? (i := 826) (by decide +kernel), List.mem_of_getElem? (i := 827) (by decide +kernel)⟩
theorem lw_p17 : lw_okq (⟨"CellarCars$Led", "shuntsBy", "(IIII)I"⟩, 3) := ⟨⟨by decide +kernel, by decide +kernel⟩, List.mem_of_getElem? (i := 100) (by decide +kernel), List.mem_of_getElem? (i := 830) (by decide +kernel), List.mem_of_getElem? (i := 831) (by decide +kernel)⟩
theorem lw_p18 : lw_okq (⟨"CellarCars$Rescuing", "takeMore", "(LCellarCars$Garage;III)V"⟩, 5) := ⟨⟨by decide +kernel, by decide +kernel⟩, List.mem_of_getElem? (i := 295) (by decide +kernel), List.mem_of_getElem? (i := 867) (by decide +kernel), List.mem_of_getElem? (i := 868) (by decide +kernel)⟩
theorem lw_p19 : lw_okq (⟨"CellarCarsModel", "finding", "(I)I"⟩, 21) := ⟨⟨by decide +kernel, by decide +kernel⟩, List.mem_of_getElem? (i := 944) (by decide +kernel), List.mem_of_getElem? (i := 1019) (by decide +kernel), List.mem_of_getElem? (i := 1020) (by decide +kernel)⟩
theorem lw_p20 : lw_okq (⟨"CellarCarsModel", "keep", "()V"⟩, 21) := ⟨⟨by decide +kernel, by decide +kernel⟩, List.mem_of_getElem? (i := 944) (by decide +kernel), List.mem_of_getElem? (i := 1032) (by decide +kernel), List.mem_of_getElem? (i := 1033) (by decide +kernel)⟩
theorem lw_p21 : lw_okq (⟨"CellarCarsModel", "isLane", "(I)Z"⟩, 21) := ⟨⟨by decide +kernel, by decide +kernel⟩, List.mem_of_getElem? (i := 944) (by decide +kernel), List.mem_of_getElem? (i := 1040) (by decide +kernel), List.mem_of_getElem? (i := 1041) (by decide +kernel)⟩
theorem lw_p22 : lw_okq (⟨"CellarCarsModel", "leftOf", "(I)I"⟩, 21) := ⟨⟨by decide +kernel, by decide +kernel⟩, List.mem_of_getElem? (i := 944) (by decide +kernel), List.mem_of_getElem? (i := 1049) (by decide +kernel), List.mem_of_getElem? (i := 1050) (by decide +kernel)⟩
theorem lw_p23 : lw_okq (⟨"CellarCarsModel", "carAt", "(II)I"⟩, 21) := ⟨⟨by decide +kernel, by decide +kernel⟩, List.mem_of_getElem? (i := 944) (by decide +kernel), List.mem_of_getElem? (i := 1053) (by decide +kernel), List.mem_of_getElem? (i := 1054) (by decide +kernel)⟩
theorem lw_p24 : lw_okq (⟨"CellarCarsModel", "isLift", "(I)Z"⟩, 21) := ⟨⟨by decide +kernel, by decide +kernel⟩, List.mem_of_getElem? (i := 944) (by decide +kernel), List.mem_of_getElem? (i := 1061) (by decide +kernel), List.mem_of_getElem? (i := 1062) (by decide +kernel)⟩
theorem lw_p25 : lw_okq (⟨"CellarCarsModel", "isCar", "(I)Z"⟩, 21) := ⟨⟨by decide +kernel, by decide +kernel⟩, List.mem_of_getElem? (i := 944) (by decide +kernel), List.mem_of_getElem? (i := 1076) (by decide +kernel), List.mem_of_getElem? (i := 1077) (by decide +kernel)⟩
theorem lw_p26 : lw_okq (⟨"CellarCarsModel", "standOf", "(I)I"⟩, 21) := ⟨⟨by decide +kernel, by decide +kernel⟩, List.mem_of_getElem? (i := 944) (by decide +kernel), List.mem_of_getElem? (i := 1080) (by decide +kernel), List.mem_of_getElem? (i := 1081) (by decide +kernel)⟩
theorem lw_p27 : lw_okq (⟨"CellarCarsModel", "manyAhead", "(I)I"⟩, 21) := ⟨⟨by decide +kernel, by decide +kernel⟩, List.mem_of_getElem? (i := 944) (by decide +kernel), List.mem_of_getElem? (i := 1084) (by decide +kernel), List.mem_of_getElem? (i := 1085) (by decide +kernel)⟩
theorem lw_p28 : lw_okq (⟨"CellarCarsModel", "canFit", "(II)Z"⟩, 21) := ⟨⟨by decide +kernel, by decide +kernel⟩, List.mem_of_getElem? (i := 944) (by decide +kernel), List.mem_of_getElem? (i := 1100) (by decide +kernel), List.mem_of_getElem? (i := 1101) (by decide +kernel)⟩
theorem lw_p29 : lw_okq (⟨"CellarCarsModel", "isStuck", "(I)Z"⟩, 21) := ⟨⟨by decide +kernel, by decide +kernel⟩, List.mem_of_getElem? (i := 944) (by decide +kernel), List.mem_of_getElem? (i := 1109) (by decide +kernel), List.mem_of_getElem? (i := 1110) (by decide +kernel)⟩
theorem lw_p30 : lw_okq (⟨"CellarCarsModel", "comes", "(II)V"⟩, 21) := ⟨⟨by decide +kernel, by decide +kernel⟩, List.mem_of_getElem? (i := 944) (by decide +kernel), List.mem_of_getElem? (i := 1114) (by decide +kernel), List.mem_of_getElem? (i := 1115) (by decide +kernel)⟩
theorem lw_p31 : lw_okq (⟨"CellarCarsModel", "turns", "(I)V"⟩, 21) := ⟨⟨by decide +kernel, by decide +kernel⟩, List.mem_of_getElem? (i := 944) (by decide +kernel), List.mem_of_getElem? (i := 1118) (by decide +kernel), List.mem_of_getElem? (i := 1119) (by decide +kernel)⟩
def lw_privs_2 : List (MethodName × Nat) := [(⟨"CellarCars$Led", "firstHarmed", "(II)I"⟩, 3), (⟨"CellarCars$Led", "shuntsBy", "(IIII)I"⟩, 3), (⟨"CellarCars$Rescuing", "takeMore", "(LCellarCars$Garage;III)V"⟩, 5), (⟨"CellarCarsModel", "finding", "(I)I"⟩, 21), (⟨"CellarCarsModel", "keep", "()V"⟩, 21), (⟨"CellarCarsModel", "isLane", "(I)Z"⟩, 21), (⟨"CellarCarsModel", "leftOf", "(I)I"⟩, 21), (⟨"CellarCarsModel", "carAt", "(II)I"⟩, 21), (⟨"CellarCarsModel", "isLift", "(I)Z"⟩, 21), (⟨"CellarCarsModel", "isCar", "(I)Z"⟩, 21), (⟨"CellarCarsModel", "standOf", "(I)I"⟩, 21), (⟨"CellarCarsModel", "manyAhead", "(I)I"⟩, 21), (⟨"CellarCarsModel", "canFit", "(II)Z"⟩, 21), (⟨"CellarCarsModel", "isStuck", "(I)Z"⟩, 21), (⟨"CellarCarsModel", "comes", "(II)V"⟩, 21), (⟨"CellarCarsModel", "turns", "(I)V"⟩, 21)]
theorem lw_r2 : ∀ q ∈ lw_privs_2, lw_okq q := List.forall_mem_cons.mpr ⟨lw_p16, List.forall_mem_cons.mpr ⟨lw_p17, List.forall_mem_cons.mpr ⟨lw_p18, List.forall_mem_cons.mpr ⟨lw_p19, List.forall_mem_cons.mpr ⟨lw_p20, List.forall_mem_cons.mpr ⟨lw_p21, List.forall_mem_cons.mpr ⟨lw_p22, List.forall_mem_cons.mpr ⟨lw_p23, List.forall_mem_cons.mpr ⟨lw_p24, List.forall_mem_cons.mpr ⟨lw_p25, List.forall_mem_cons.mpr ⟨lw_p26, List.forall_mem_cons.mpr ⟨lw_p27, List.forall_mem_cons.mpr ⟨lw_p28, List.forall_mem_cons.mpr ⟨lw_p29, List.forall_mem_cons.mpr ⟨lw_p30, List.forall_mem_cons.mpr ⟨lw_p31, fun _ h => absurd h List.not_mem_nil⟩⟩⟩⟩⟩⟩⟩⟩⟩⟩⟩⟩⟩⟩⟩⟩
theorem lw_p32 : lw_okq (⟨"CellarCarsModel", "hinders", "(II)I"⟩, 21) := ⟨⟨by decide +kernel, by decide +kernel⟩, List.mem_of_getElem? (i := 944) (by decide +kernel), List.mem_of_getElem? (i := 1126) (by decide +kernel), List.mem_of_getElem? (i := 1127) (by decide +kernel)⟩
theorem lw_p33 : lw_okq (⟨"CellarCarsModel", "isFree", "(I)Z"⟩, 21) := ⟨⟨by decide +kernel, by decide +kernel⟩, List.mem_of_getElem? (i := 944) (by decide +kernel), List.mem_of_getElem? (i := 1130) (by decide +kernel), List.mem_of_getElem? (i := 1131) (by decide +kernel)⟩
theorem lw_p34 : lw_okq (⟨"CellarCarsModel", "hasKey", "(III)Z"⟩, 21) := ⟨⟨by decide +kernel, by decide +kernel⟩, List.mem_of_getElem? (i := 944) (by decide +kernel), List.mem_of_getElem? (i := 1134) (by decide +kernel), List.mem_of_getElem? (i := 1135) (by decide +kernel)⟩
theorem lw_p35 : lw_okq (⟨"CellarCarsModel", "isLet", "(III)Z"⟩, 21) := ⟨⟨by decide +kernel, by decide +kernel⟩, List.mem_of_getElem? (i := 944) (by decide +kernel), List.mem_of_getElem? (i := 1139) (by decide +kernel), List.mem_of_getElem? (i := 1140) (by decide +kernel)⟩
theorem lw_p36 : lw_okq (⟨"CellarCarsModel", "wrongAt", "()I"⟩, 21) := ⟨⟨by decide +kernel, by decide +kernel⟩, List.mem_of_getElem? (i := 944) (by decide +kernel), List.mem_of_getElem? (i := 1143) (by decide +kernel), List.mem_of_getElem? (i := 1144) (by decide +kernel)⟩
theorem lw_p37 : lw_okq (⟨"CellarCarsModel", "readBy", "(IIII)I"⟩, 21) := ⟨⟨by decide +kernel, by decide +kernel⟩, List.mem_of_getElem? (i := 944) (by decide +kernel), List.mem_of_getElem? (i := 1147) (by decide +kernel), List.mem_of_getElem? (i := 1148) (by decide +kernel)⟩
theorem lw_p38 : lw_okq (⟨"CellarCarsModel", "does", "(II)V"⟩, 21) := ⟨⟨by decide +kernel, by decide +kernel⟩, List.mem_of_getElem? (i := 944) (by decide +kernel), List.mem_of_getElem? (i := 1155) (by decide +kernel), List.mem_of_getElem? (i := 1156) (by decide +kernel)⟩
theorem lw_p39 : lw_okq (⟨"CellarCarsModel", "goes", "(I)V"⟩, 21) := ⟨⟨by decide +kernel, by decide +kernel⟩, List.mem_of_getElem? (i := 944) (by decide +kernel), List.mem_of_getElem? (i := 1159) (by decide +kernel), List.mem_of_getElem? (i := 1160) (by decide +kernel)⟩
theorem lw_p40 : lw_okq (⟨"CellarCarsModel", "led", "(I)V"⟩, 21) := ⟨⟨by decide +kernel, by decide +kernel⟩, List.mem_of_getElem? (i := 944) (by decide +kernel), List.mem_of_getElem? (i := 1163) (by decide +kernel), List.mem_of_getElem? (i := 1164) (by decide +kernel)⟩
theorem lw_p41 : lw_okq (⟨"CellarCarsModel", "findFewest", "(I)I"⟩, 21) := ⟨⟨by decide +kernel, by decide +kernel⟩, List.mem_of_getElem? (i := 944) (by decide +kernel), List.mem_of_getElem? (i := 1187) (by decide +kernel), List.mem_of_getElem? (i := 1188) (by decide +kernel)⟩
theorem lw_p42 : lw_okq (⟨"CellarCarsModel", "frees", "(III)Z"⟩, 21) := ⟨⟨by decide +kernel, by decide +kernel⟩, List.mem_of_getElem? (i := 944) (by decide +kernel), List.mem_of_getElem? (i := 1191) (by decide +kernel), List.mem_of_getElem? (i := 1192) (by decide +kernel)⟩
theorem lw_p43 : lw_okq (⟨"CellarCarsModel", "lay", "(I)V"⟩, 21) := ⟨⟨by decide +kernel, by decide +kernel⟩, List.mem_of_getElem? (i := 944) (by decide +kernel), List.mem_of_getElem? (i := 1195) (by decide +kernel), List.mem_of_getElem? (i := 1196) (by decide +kernel)⟩
theorem lw_p44 : lw_okq (⟨"CellarCarsModel", "bring", "(I)V"⟩, 21) := ⟨⟨by decide +kernel, by decide +kernel⟩, List.mem_of_getElem? (i := 944) (by decide +kernel), List.mem_of_getElem? (i := 1199) (by decide +kernel), List.mem_of_getElem? (i := 1200) (by decide +kernel)⟩
theorem lw_p45 : lw_okq (⟨"CellarCarsModel", "morningOf", "(I)I"⟩, 21) := ⟨⟨by decide +kernel, by decide +kernel⟩, List.mem_of_getElem? (i := 944) (by decide +kernel), List.mem_of_getElem? (i := 1218) (by decide +kernel), List.mem_of_getElem? (i := 1219) (by decide +kernel)⟩
theorem lw_p46 : lw_okq (⟨"CellarCarsModel", "arrivalOf", "(I)I"⟩, 21) := ⟨⟨by decide +kernel, by decide +kernel⟩, List.mem_of_getElem? (i := 944) (by decide +kernel), List.mem_of_getElem? (i := 1226) (by decide +kernel), List.mem_of_getElem? (i := 1227) (by decide +kernel)⟩
theorem lw_p47 : lw_okq (⟨"CellarCarsModel", "findPlan", "()V"⟩, 21) := ⟨⟨by decide +kernel, by decide +kernel⟩, List.mem_of_getElem? (i := 944) (by decide +kernel), List.mem_of_getElem? (i := 1238) (by decide +kernel), List.mem_of_getElem? (i := 1239) (by decide +kernel)⟩
def lw_privs_3 : List (MethodName × Nat) := [(⟨"CellarCarsModel", "hinders", "(II)I"⟩, 21), (⟨"CellarCarsModel", "isFree", "(I)Z"⟩, 21), (⟨"CellarCarsModel", "hasKey", "(III)Z"⟩, 21), (⟨"CellarCarsModel", "isLet", "(III)Z"⟩, 21), (⟨"CellarCarsModel", "wrongAt", "()I"⟩, 21), (⟨"CellarCarsModel", "readBy", "(IIII)I"⟩, 21), (⟨"CellarCarsModel", "does", "(II)V"⟩, 21), (⟨"CellarCarsModel", "goes", "(I)V"⟩, 21), (⟨"CellarCarsModel", "led", "(I)V"⟩, 21), (⟨"CellarCarsModel", "findFewest", "(I)I"⟩, 21), (⟨"CellarCarsModel", "frees", "(III)Z"⟩, 21), (⟨"CellarCarsModel", "lay", "(I)V"⟩, 21), (⟨"CellarCarsModel", "bring", "(I)V"⟩, 21), (⟨"CellarCarsModel", "morningOf", "(I)I"⟩, 21), (⟨"CellarCarsModel", "arrivalOf", "(I)I"⟩, 21), (⟨"CellarCarsModel", "findPlan", "()V"⟩, 21)]
theorem lw_r3 : ∀ q ∈ lw_privs_3, lw_okq q := List.forall_mem_cons.mpr ⟨lw_p32, List.forall_mem_cons.mpr ⟨lw_p33, List.forall_mem_cons.mpr ⟨lw_p34, List.forall_mem_cons.mpr ⟨lw_p35, List.forall_mem_cons.mpr ⟨lw_p36, List.forall_mem_cons.mpr ⟨lw_p37, List.forall_mem_cons.mpr ⟨lw_p38, List.forall_mem_cons.mpr ⟨lw_p39, List.forall_mem_cons.mpr ⟨lw_p40, List.forall_mem_cons.mpr ⟨lw_p41, List.forall_mem_cons.mpr ⟨lw_p42, List.forall_mem_cons.mpr ⟨lw_p43, List.forall_mem_cons.mpr ⟨lw_p44, List.forall_mem_cons.mpr ⟨lw_p45, List.forall_mem_cons.mpr ⟨lw_p46, List.forall_mem_cons.mpr ⟨lw_p47, fun _ h => absurd h List.not_mem_nil⟩⟩⟩⟩⟩⟩⟩⟩⟩⟩⟩⟩⟩⟩⟩⟩
theorem lw_p48 : lw_okq (⟨"CellarCarsModel", "plans", "(II)V"⟩, 21) := ⟨⟨by decide +kernel, by decide +kernel⟩, List.mem_of_getElem? (i := 944) (by decide +kernel), List.mem_of_getElem? (i := 1242) (by decide +kernel), List.mem_of_getElem? (i := 1243) (by decide +kernel)⟩
theorem lw_p49 : lw_okq (⟨"CellarCarsModel", "moreBy", "(II)I"⟩, 21) := ⟨⟨by decide +kernel, by decide +kernel⟩, List.mem_of_getElem? (i := 944) (by decide +kernel), List.mem_of_getElem? (i := 1246) (by decide +kernel), List.mem_of_getElem? (i := 1247) (by decide +kernel)⟩
theorem lw_p50 : lw_okq (⟨"CellarCarsModel", "findCharged", "()I"⟩, 21) := ⟨⟨by decide +kernel, by decide +kernel⟩, List.mem_of_getElem? (i := 944) (by decide +kernel), List.mem_of_getElem? (i := 1262) (by decide +kernel), List.mem_of_getElem? (i := 1263) (by decide +kernel)⟩
theorem lw_p51 : lw_okq (⟨"CellarCarsModel", "canAll", "(I)Z"⟩, 21) := ⟨⟨by decide +kernel, by decide +kernel⟩, List.mem_of_getElem? (i := 944) (by decide +kernel), List.mem_of_getElem? (i := 1269) (by decide +kernel), List.mem_of_getElem? (i := 1270) (by decide +kernel)⟩
theorem lw_p52 : lw_okq (⟨"CellarCarsModel", "begin", "(I)V"⟩, 21) := ⟨⟨by decide +kernel, by decide +kernel⟩, List.mem_of_getElem? (i := 944) (by decide +kernel), List.mem_of_getElem? (i := 1273) (by decide +kernel), List.mem_of_getElem? (i := 1274) (by decide +kernel)⟩
theorem lw_p53 : lw_okq (⟨"CellarCarsModel", "charge", "(I)I"⟩, 21) := ⟨⟨by decide +kernel, by decide +kernel⟩, List.mem_of_getElem? (i := 944) (by decide +kernel), List.mem_of_getElem? (i := 1277) (by decide +kernel), List.mem_of_getElem? (i := 1278) (by decide +kernel)⟩
theorem lw_p54 : lw_okq (⟨"CellarCarsModel", "findGiving", "()I"⟩, 21) := ⟨⟨by decide +kernel, by decide +kernel⟩, List.mem_of_getElem? (i := 944) (by decide +kernel), List.mem_of_getElem? (i := 1293) (by decide +kernel), List.mem_of_getElem? (i := 1294) (by decide +kernel)⟩
theorem lw_p55 : lw_okq (⟨"CellarCarsModel", "mostFrom", "(III)I"⟩, 21) := ⟨⟨by decide +kernel, by decide +kernel⟩, List.mem_of_getElem? (i := 944) (by decide +kernel), List.mem_of_getElem? (i := 1297) (by decide +kernel), List.mem_of_getElem? (i := 1298) (by decide +kernel)⟩
theorem lw_p56 : lw_okq (⟨"CellarCarsModel", "findRescue", "()V"⟩, 21) := ⟨⟨by decide +kernel, by decide +kernel⟩, List.mem_of_getElem? (i := 944) (by decide +kernel), List.mem_of_getElem? (i := 1350) (by decide +kernel), List.mem_of_getElem? (i := 1351) (by decide +kernel)⟩
theorem lw_p57 : lw_okq (⟨"CellarCarsModel", "rescues", "(II)V"⟩, 21) := ⟨⟨by decide +kernel, by decide +kernel⟩, List.mem_of_getElem? (i := 944) (by decide +kernel), List.mem_of_getElem? (i := 1354) (by decide +kernel), List.mem_of_getElem? (i := 1355) (by decide +kernel)⟩
theorem lw_p58 : lw_okq (⟨"CellarCarsModel", "minuteOf", "(I)I"⟩, 21) := ⟨⟨by decide +kernel, by decide +kernel⟩, List.mem_of_getElem? (i := 944) (by decide +kernel), List.mem_of_getElem? (i := 1358) (by decide +kernel), List.mem_of_getElem? (i := 1359) (by decide +kernel)⟩
def lw_privs_4 : List (MethodName × Nat) := [(⟨"CellarCarsModel", "plans", "(II)V"⟩, 21), (⟨"CellarCarsModel", "moreBy", "(II)I"⟩, 21), (⟨"CellarCarsModel", "findCharged", "()I"⟩, 21), (⟨"CellarCarsModel", "canAll", "(I)Z"⟩, 21), (⟨"CellarCarsModel", "begin", "(I)V"⟩, 21), (⟨"CellarCarsModel", "charge", "(I)I"⟩, 21), (⟨"CellarCarsModel", "findGiving", "()I"⟩, 21), (⟨"CellarCarsModel", "mostFrom", "(III)I"⟩, 21), (⟨"CellarCarsModel", "findRescue", "()V"⟩, 21), (⟨"CellarCarsModel", "rescues", "(II)V"⟩, 21), (⟨"CellarCarsModel", "minuteOf", "(I)I"⟩, 21)]
theorem lw_r4 : ∀ q ∈ lw_privs_4, lw_okq q := List.forall_mem_cons.mpr ⟨lw_p48, List.forall_mem_cons.mpr ⟨lw_p49, List.forall_mem_cons.mpr ⟨lw_p50, List.forall_mem_cons.mpr ⟨lw_p51, List.forall_mem_cons.mpr ⟨lw_p52, List.forall_mem_cons.mpr ⟨lw_p53, List.forall_mem_cons.mpr ⟨lw_p54, List.forall_mem_cons.mpr ⟨lw_p55, List.forall_mem_cons.mpr ⟨lw_p56, List.forall_mem_cons.mpr ⟨lw_p57, List.forall_mem_cons.mpr ⟨lw_p58, fun _ h => absurd h List.not_mem_nil⟩⟩⟩⟩⟩⟩⟩⟩⟩⟩⟩
def lw_privs : List (MethodName × Nat) := lw_privs_1 ++ (lw_privs_2 ++ (lw_privs_3 ++ (lw_privs_4)))
def lw_tbl : List Cond := k2_sels lw_privs ++ tables_1
theorem lw_privs_ok : ∀ q ∈ lw_privs, lw_okq q := by
  show ∀ q ∈ lw_privs_1 ++ (lw_privs_2 ++ (lw_privs_3 ++ (lw_privs_4))), lw_okq q
  exact List.forall_mem_append.mpr ⟨lw_r1, List.forall_mem_append.mpr ⟨lw_r2, List.forall_mem_append.mpr ⟨lw_r3, lw_r4⟩⟩⟩

def RX0 : String := "CellarCars$Charge"
def TX0 : u_T := fun k => match k with
  | 0 => ("CellarCars$Charge", "inHour", "[I", true)
  | _ => ("CellarCars$Charge", "still", "[I", true)
def tyX0 : Nat → FieldType := fun k => match k with
  | 0 => .array .int
  | _ => .array .int
abbrev wsX00 : List Cond := u_ws RX0 TX0 2
theorem nmX0 : ∀ a, a < 2 → ∀ b, b < 2 → a ≠ b → (TX0 a).2.1 ≠ (TX0 b).2.1 := by decide +kernel
theorem tyX0_ok : ∀ k, k < 2 → parseFieldDescriptor (TX0 k).2.2.1 = some (tyX0 k) := by decide +kernel
abbrev cX0_init : ByteArray := prog_2_method_1_code
def yX0_init : MethodName := ⟨RX0, "<init>", "()V"⟩
abbrev cX0_mostCars : ByteArray := prog_2_method_2_code
def yX0_mostCars : MethodName := ⟨RX0, "mostCars", "(LCellarCars$Garage;I)I"⟩
abbrev cX0_waitingCars : ByteArray := prog_2_method_3_code
def yX0_waitingCars : MethodName := ⟨RX0, "waitingCars", "(LCellarCars$Garage;)I"⟩
abbrev cX0_shareHours : ByteArray := prog_2_method_4_code
def yX0_shareHours : MethodName := ⟨RX0, "shareHours", "(LCellarCars$Garage;II)Z"⟩
abbrev cX0_neediest : ByteArray := prog_2_method_5_code
def yX0_neediest : MethodName := ⟨RX0, "neediest", "(LCellarCars$Garage;I)I"⟩
abbrev cX0_chargeThose : ByteArray := prog_2_method_6_code
def yX0_chargeThose : MethodName := ⟨RX0, "chargeThose", "(LCellarCars$Garage;I)I"⟩
def RX1 : String := "CellarCars$Desk"
def TX1 : u_T := fun k => match k with
  | 0 => ("CellarCars$Desk", "garage", "LCellarCars$Garage;", true)
  | 1 => ("CellarCars$Desk", "led", "LCellarCars$Led;", true)
  | 2 => ("CellarCars$Desk", "keys", "LCellarCars$Keys;", true)
  | 3 => ("CellarCars$Desk", "bids", "[I", true)
  | 4 => ("CellarCars$Desk", "text", "[I", true)
  | 5 => ("CellarCars$Desk", "evening", "[I", true)
  | 6 => ("CellarCars$Desk", "signs", "I", false)
  | 7 => ("CellarCars$Desk", "arriving", "I", false)
  | 8 => ("CellarCars$Desk", "hour", "I", false)
  | 9 => ("CellarCars$Desk", "chargers", "I", false)
  | 10 => ("CellarCars$Desk", "porter", "I", false)
  | 11 => ("CellarCars$Desk", "pace", "I", false)
  | _ => ("CellarCars$Desk", "shunts", "I", false)
def tyX1 : Nat → FieldType := fun k => match k with
  | 0 => .object "CellarCars$Garage"
  | 1 => .object "CellarCars$Led"
  | 2 => .object "CellarCars$Keys"
  | 3 => .array .int
  | 4 => .array .int
  | 5 => .array .int
  | 6 => .int
  | 7 => .int
  | 8 => .int
  | 9 => .int
  | 10 => .int
  | 11 => .int
  | _ => .int
abbrev wsX10 : List Cond := u_ws RX1 TX1 13
theorem nmX1 : ∀ a, a < 13 → ∀ b, b < 13 → a ≠ b → (TX1 a).2.1 ≠ (TX1 b).2.1 := by decide +kernel
theorem tyX1_ok : ∀ k, k < 13 → parseFieldDescriptor (TX1 k).2.2.1 = some (tyX1 k) := by decide +kernel
abbrev cX1_init : ByteArray := prog_3_method_1_code
def yX1_init : MethodName := ⟨RX1, "<init>", "()V"⟩
abbrev cX1_become : ByteArray := prog_3_method_2_code
def yX1_become : MethodName := ⟨RX1, "become", "(LCellarCars$Desk;)V"⟩
abbrev cX1_placeInEvening : ByteArray := prog_3_method_3_code
def yX1_placeInEvening : MethodName := ⟨RX1, "placeInEvening", "(I)I"⟩
def RX2 : String := "CellarCars$Garage"
def TX2 : u_T := fun k => match k with
  | 0 => ("CellarCars$Garage", "lanes", "I", false)
  | 1 => ("CellarCars$Garage", "cars", "I", false)
  | 2 => ("CellarCars$Garage", "laneKind", "[I", true)
  | 3 => ("CellarCars$Garage", "laneLength", "[I", true)
  | 4 => ("CellarCars$Garage", "laneHeight", "[I", true)
  | 5 => ("CellarCars$Garage", "laneLoad", "[I", true)
  | 6 => ("CellarCars$Garage", "minute", "[I", true)
  | 7 => ("CellarCars$Garage", "cycles", "[I", true)
  | 8 => ("CellarCars$Garage", "broken", "[I", true)
  | 9 => ("CellarCars$Garage", "standing", "[I", true)
  | 10 => ("CellarCars$Garage", "places", "[I", true)
  | 11 => ("CellarCars$Garage", "facts", "[I", true)
  | _ => ("CellarCars$Garage", "where", "[I", true)
def tyX2 : Nat → FieldType := fun k => match k with
  | 0 => .int
  | 1 => .int
  | 2 => .array .int
  | 3 => .array .int
  | 4 => .array .int
  | 5 => .array .int
  | 6 => .array .int
  | 7 => .array .int
  | 8 => .array .int
  | 9 => .array .int
  | 10 => .array .int
  | 11 => .array .int
  | _ => .array .int
abbrev wsX20 : List Cond := u_ws RX2 TX2 13
theorem nmX2 : ∀ a, a < 13 → ∀ b, b < 13 → a ≠ b → (TX2 a).2.1 ≠ (TX2 b).2.1 := by decide +kernel
theorem tyX2_ok : ∀ k, k < 13 → parseFieldDescriptor (TX2 k).2.2.1 = some (tyX2 k) := by decide +kernel
abbrev cX2_init : ByteArray := prog_4_method_1_code
def yX2_init : MethodName := ⟨RX2, "<init>", "()V"⟩
abbrev cX2_become : ByteArray := prog_4_method_2_code
def yX2_become : MethodName := ⟨RX2, "become", "(LCellarCars$Garage;)V"⟩
abbrev cX2_isKind : ByteArray := prog_4_method_3_code
def yX2_isKind : MethodName := ⟨RX2, "isKind", "(I)Z"⟩
abbrev cX2_isFact : ByteArray := prog_4_method_4_code
def yX2_isFact : MethodName := ⟨RX2, "isFact", "(II)Z"⟩
abbrev cX2_hasLane : ByteArray := prog_4_method_5_code
def yX2_hasLane : MethodName := ⟨RX2, "hasLane", "(I)Z"⟩
abbrev cX2_hasCar : ByteArray := prog_4_method_6_code
def yX2_hasCar : MethodName := ⟨RX2, "hasCar", "(I)Z"⟩
abbrev cX2_addLane : ByteArray := prog_4_method_7_code
def yX2_addLane : MethodName := ⟨RX2, "addLane", "(IIII)I"⟩
abbrev cX2_addCar : ByteArray := prog_4_method_8_code
def yX2_addCar : MethodName := ⟨RX2, "addCar", "(IIIIII)I"⟩
abbrev cX2_fact : ByteArray := prog_4_method_9_code
def yX2_fact : MethodName := ⟨RX2, "fact", "(II)I"⟩
abbrev cX2_changeFact : ByteArray := prog_4_method_10_code
def yX2_changeFact : MethodName := ⟨RX2, "changeFact", "(III)I"⟩
abbrev cX2_isOfKind : ByteArray := prog_4_method_11_code
def yX2_isOfKind : MethodName := ⟨RX2, "isOfKind", "(II)Z"⟩
abbrev cX2_cycleOf : ByteArray := prog_4_method_12_code
def yX2_cycleOf : MethodName := ⟨RX2, "cycleOf", "(I)I"⟩
abbrev cX2_bears : ByteArray := prog_4_method_13_code
def yX2_bears : MethodName := ⟨RX2, "bears", "(I)I"⟩
abbrev cX2_suits : ByteArray := prog_4_method_14_code
def yX2_suits : MethodName := ⟨RX2, "suits", "(II)Z"⟩
abbrev cX2_carAt : ByteArray := prog_4_method_15_code
def yX2_carAt : MethodName := ⟨RX2, "carAt", "(II)I"⟩
abbrev cX2_lengthLeft : ByteArray := prog_4_method_16_code
def yX2_lengthLeft : MethodName := ⟨RX2, "lengthLeft", "(I)I"⟩
abbrev cX2_isShut : ByteArray := prog_4_method_17_code
def yX2_isShut : MethodName := ⟨RX2, "isShut", "(I)Z"⟩
abbrev cX2_isFree : ByteArray := prog_4_method_18_code
def yX2_isFree : MethodName := ⟨RX2, "isFree", "(I)Z"⟩
abbrev cX2_parkFinding : ByteArray := prog_4_method_19_code
def yX2_parkFinding : MethodName := ⟨RX2, "parkFinding", "(II)I"⟩
abbrev cX2_shuntFinding : ByteArray := prog_4_method_20_code
def yX2_shuntFinding : MethodName := ⟨RX2, "shuntFinding", "(II)I"⟩
abbrev cX2_bring : ByteArray := prog_4_method_21_code
def yX2_bring : MethodName := ⟨RX2, "bring", "(II)V"⟩
abbrev cX2_take : ByteArray := prog_4_method_22_code
def yX2_take : MethodName := ⟨RX2, "take", "(I)V"⟩
abbrev cX2_move : ByteArray := prog_4_method_23_code
def yX2_move : MethodName := ⟨RX2, "move", "(II)V"⟩
abbrev cX2_moveBack : ByteArray := prog_4_method_24_code
def yX2_moveBack : MethodName := ⟨RX2, "moveBack", "(II)V"⟩
abbrev cX2_forgetCycles : ByteArray := prog_4_method_25_code
def yX2_forgetCycles : MethodName := ⟨RX2, "forgetCycles", "()I"⟩
abbrev cX2_carsAhead : ByteArray := prog_4_method_26_code
def yX2_carsAhead : MethodName := ⟨RX2, "carsAhead", "(I)I"⟩
abbrev cX2_carsInLanes : ByteArray := prog_4_method_27_code
def yX2_carsInLanes : MethodName := ⟨RX2, "carsInLanes", "()I"⟩
abbrev cX2_morningOf : ByteArray := prog_4_method_28_code
def yX2_morningOf : MethodName := ⟨RX2, "morningOf", "(I)I"⟩
abbrev cX2_floodMinute : ByteArray := prog_4_method_29_code
def yX2_floodMinute : MethodName := ⟨RX2, "floodMinute", "(I)I"⟩
def RX3 : String := "CellarCars$Keys"
def TX3 : u_T := fun k => match k with
  | 0 => ("CellarCars$Keys", "count", "I", false)
  | 1 => ("CellarCars$Keys", "cars", "[I", true)
  | 2 => ("CellarCars$Keys", "hours", "[I", true)
  | _ => ("CellarCars$Keys", "has", "[I", true)
def tyX3 : Nat → FieldType := fun k => match k with
  | 0 => .int
  | 1 => .array .int
  | 2 => .array .int
  | _ => .array .int
abbrev wsX30 : List Cond := u_ws RX3 TX3 4
theorem nmX3 : ∀ a, a < 4 → ∀ b, b < 4 → a ≠ b → (TX3 a).2.1 ≠ (TX3 b).2.1 := by decide +kernel
theorem tyX3_ok : ∀ k, k < 4 → parseFieldDescriptor (TX3 k).2.2.1 = some (tyX3 k) := by decide +kernel
abbrev cX3_init : ByteArray := prog_5_method_1_code
def yX3_init : MethodName := ⟨RX3, "<init>", "()V"⟩
abbrev cX3_become : ByteArray := prog_5_method_2_code
def yX3_become : MethodName := ⟨RX3, "become", "(LCellarCars$Keys;)V"⟩
abbrev cX3_add : ByteArray := prog_5_method_3_code
def yX3_add : MethodName := ⟨RX3, "add", "(IIZ)V"⟩
abbrev cX3_isThere : ByteArray := prog_5_method_4_code
def yX3_isThere : MethodName := ⟨RX3, "isThere", "(III)Z"⟩
abbrev cX3_carsWithKey : ByteArray := prog_5_method_5_code
def yX3_carsWithKey : MethodName := ⟨RX3, "carsWithKey", "(II)I"⟩
def RX4 : String := "CellarCars$Led"
def TX4 : u_T := fun k => match k with
  | 0 => ("CellarCars$Led", "count", "I", false)
  | 1 => ("CellarCars$Led", "cars", "[I", true)
  | _ => ("CellarCars$Led", "events", "[I", true)
def tyX4 : Nat → FieldType := fun k => match k with
  | 0 => .int
  | 1 => .array .int
  | _ => .array .int
abbrev wsX40 : List Cond := u_ws RX4 TX4 3
theorem nmX4 : ∀ a, a < 3 → ∀ b, b < 3 → a ≠ b → (TX4 a).2.1 ≠ (TX4 b).2.1 := by decide +kernel
theorem tyX4_ok : ∀ k, k < 3 → parseFieldDescriptor (TX4 k).2.2.1 = some (tyX4 k) := by decide +kernel
abbrev cX4_init : ByteArray := prog_6_method_1_code
def yX4_init : MethodName := ⟨RX4, "<init>", "()V"⟩
abbrev cX4_become : ByteArray := prog_6_method_2_code
def yX4_become : MethodName := ⟨RX4, "become", "(LCellarCars$Led;)V"⟩
abbrev cX4_add : ByteArray := prog_6_method_3_code
def yX4_add : MethodName := ⟨RX4, "add", "(II)V"⟩
abbrev cX4_shareOf : ByteArray := prog_6_method_4_code
def yX4_shareOf : MethodName := ⟨RX4, "shareOf", "(III)I"⟩
abbrev cX4_latestUnharmed : ByteArray := prog_6_method_5_code
def yX4_latestUnharmed : MethodName := ⟨RX4, "latestUnharmed", "(I)I"⟩
abbrev cX4_firstHarmed : ByteArray := prog_6_method_6_code
def yX4_firstHarmed : MethodName := ⟨RX4, "firstHarmed", "(II)I"⟩
abbrev cX4_shuntsBy : ByteArray := prog_6_method_7_code
def yX4_shuntsBy : MethodName := ⟨RX4, "shuntsBy", "(IIII)I"⟩
def RX5 : String := "CellarCars$Planning"
def TX5 : u_T := fun k => match k with
  | 0 => ("CellarCars$Planning", "best", "[I", true)
  | 1 => ("CellarCars$Planning", "chosen", "[I", true)
  | 2 => ("CellarCars$Planning", "filled", "[I", true)
  | _ => ("CellarCars$Planning", "least", "I", false)
def tyX5 : Nat → FieldType := fun k => match k with
  | 0 => .array .int
  | 1 => .array .int
  | 2 => .array .int
  | _ => .int
abbrev wsX50 : List Cond := u_ws RX5 TX5 4
theorem nmX5 : ∀ a, a < 4 → ∀ b, b < 4 → a ≠ b → (TX5 a).2.1 ≠ (TX5 b).2.1 := by decide +kernel
theorem tyX5_ok : ∀ k, k < 4 → parseFieldDescriptor (TX5 k).2.2.1 = some (tyX5 k) := by decide +kernel
abbrev cX5_init : ByteArray := prog_7_method_1_code
def yX5_init : MethodName := ⟨RX5, "<init>", "()V"⟩
abbrev cX5_leastMornings : ByteArray := prog_7_method_2_code
def yX5_leastMornings : MethodName := ⟨RX5, "leastMornings", "(LCellarCars$Desk;)I"⟩
abbrev cX5_assign : ByteArray := prog_7_method_3_code
def yX5_assign : MethodName := ⟨RX5, "assign", "(LCellarCars$Desk;II)V"⟩
abbrev cX5_added : ByteArray := prog_7_method_4_code
def yX5_added : MethodName := ⟨RX5, "added", "(LCellarCars$Desk;I)I"⟩
def RX6 : String := "CellarCars$Renting"
def TX6 : u_T := fun k => match k with
  | 0 => ("CellarCars$Renting", "best", "[I", true)
  | 1 => ("CellarCars$Renting", "chosen", "[I", true)
  | _ => ("CellarCars$Renting", "most", "I", false)
def tyX6 : Nat → FieldType := fun k => match k with
  | 0 => .array .int
  | 1 => .array .int
  | _ => .int
abbrev wsX60 : List Cond := u_ws RX6 TX6 3
theorem nmX6 : ∀ a, a < 3 → ∀ b, b < 3 → a ≠ b → (TX6 a).2.1 ≠ (TX6 b).2.1 := by decide +kernel
theorem tyX6_ok : ∀ k, k < 3 → parseFieldDescriptor (TX6 k).2.2.1 = some (tyX6 k) := by decide +kernel
abbrev cX6_init : ByteArray := prog_8_method_1_code
def yX6_init : MethodName := ⟨RX6, "<init>", "()V"⟩
abbrev cX6_mostBids : ByteArray := prog_8_method_2_code
def yX6_mostBids : MethodName := ⟨RX6, "mostBids", "([II)I"⟩
abbrev cX6_give : ByteArray := prog_8_method_3_code
def yX6_give : MethodName := ⟨RX6, "give", "([IIIII)V"⟩
abbrev cX6_rentOf : ByteArray := prog_8_method_4_code
def yX6_rentOf : MethodName := ⟨RX6, "rentOf", "([II)I"⟩
def RX7 : String := "CellarCars$Rescuing"
def TX7 : u_T := fun k => match k with
  | 0 => ("CellarCars$Rescuing", "best", "[I", true)
  | 1 => ("CellarCars$Rescuing", "bestCount", "I", false)
  | 2 => ("CellarCars$Rescuing", "taken", "[I", true)
  | 3 => ("CellarCars$Rescuing", "left", "[I", true)
  | _ => ("CellarCars$Rescuing", "bestWorth", "I", false)
def tyX7 : Nat → FieldType := fun k => match k with
  | 0 => .array .int
  | 1 => .int
  | 2 => .array .int
  | 3 => .array .int
  | _ => .int
abbrev wsX70 : List Cond := u_ws RX7 TX7 5
theorem nmX7 : ∀ a, a < 5 → ∀ b, b < 5 → a ≠ b → (TX7 a).2.1 ≠ (TX7 b).2.1 := by decide +kernel
theorem tyX7_ok : ∀ k, k < 5 → parseFieldDescriptor (TX7 k).2.2.1 = some (tyX7 k) := by decide +kernel
abbrev cX7_init : ByteArray := prog_9_method_1_code
def yX7_init : MethodName := ⟨RX7, "<init>", "()V"⟩
abbrev cX7_mostWorth : ByteArray := prog_9_method_2_code
def yX7_mostWorth : MethodName := ⟨RX7, "mostWorth", "(LCellarCars$Garage;I)I"⟩
abbrev cX7_takeMore : ByteArray := prog_9_method_3_code
def yX7_takeMore : MethodName := ⟨RX7, "takeMore", "(LCellarCars$Garage;III)V"⟩
def RX8 : String := "CellarCars$Rules"
def TX8 : u_T := fun k => match k with
  | 0 => ("CellarCars$Rules", "row", "[I", true)
  | _ => ("CellarCars$Rules", "known", "[I", true)
def tyX8 : Nat → FieldType := fun k => match k with
  | 0 => .array .int
  | _ => .array .int
abbrev wsX80 : List Cond := u_ws RX8 TX8 2
theorem nmX8 : ∀ a, a < 2 → ∀ b, b < 2 → a ≠ b → (TX8 a).2.1 ≠ (TX8 b).2.1 := by decide +kernel
theorem tyX8_ok : ∀ k, k < 2 → parseFieldDescriptor (TX8 k).2.2.1 = some (tyX8 k) := by decide +kernel
abbrev cX8_init : ByteArray := prog_10_method_1_code
def yX8_init : MethodName := ⟨RX8, "<init>", "()V"⟩
abbrev cX8_isSign : ByteArray := prog_10_method_2_code
def yX8_isSign : MethodName := ⟨RX8, "isSign", "(I)Z"⟩
abbrev cX8_suppose : ByteArray := prog_10_method_3_code
def yX8_suppose : MethodName := ⟨RX8, "suppose", "(IIIIII)V"⟩
abbrev cX8_let : ByteArray := prog_10_method_4_code
def yX8_let : MethodName := ⟨RX8, "let", "([II)Z"⟩
abbrev cX8_firstFault : ByteArray := prog_10_method_5_code
def yX8_firstFault : MethodName := ⟨RX8, "firstFault", "([II)I"⟩
abbrev cX8_asked : ByteArray := prog_10_method_6_code
def yX8_asked : MethodName := ⟨RX8, "asked", "(I)I"⟩
abbrev cX8_worked : ByteArray := prog_10_method_7_code
def yX8_worked : MethodName := ⟨RX8, "worked", "(II)I"⟩
abbrev cX8_knownBy : ByteArray := prog_10_method_8_code
def yX8_knownBy : MethodName := ⟨RX8, "knownBy", "(I)I"⟩
abbrev cX8_joins : ByteArray := prog_10_method_9_code
def yX8_joins : MethodName := ⟨RX8, "joins", "(III)Z"⟩
def RX9 : String := "CellarCars$Sheets"
def TX9 : u_T := fun k => match k with
  | 0 => ("CellarCars$Sheets", "bits", "[I", true)
  | 1 => ("CellarCars$Sheets", "size", "[I", true)
  | _ => ("CellarCars$Sheets", "numbers", "[I", true)
def tyX9 : Nat → FieldType := fun k => match k with
  | 0 => .array .int
  | 1 => .array .int
  | _ => .array .int
abbrev wsX90 : List Cond := u_ws RX9 TX9 3
theorem nmX9 : ∀ a, a < 3 → ∀ b, b < 3 → a ≠ b → (TX9 a).2.1 ≠ (TX9 b).2.1 := by decide +kernel
theorem tyX9_ok : ∀ k, k < 3 → parseFieldDescriptor (TX9 k).2.2.1 = some (tyX9 k) := by decide +kernel
abbrev cX9_init : ByteArray := prog_11_method_1_code
def yX9_init : MethodName := ⟨RX9, "<init>", "()V"⟩
abbrev cX9_isSheet : ByteArray := prog_11_method_2_code
def yX9_isSheet : MethodName := ⟨RX9, "isSheet", "(I)Z"⟩
abbrev cX9_isMissing : ByteArray := prog_11_method_3_code
def yX9_isMissing : MethodName := ⟨RX9, "isMissing", "(I)Z"⟩
abbrev cX9_begin : ByteArray := prog_11_method_4_code
def yX9_begin : MethodName := ⟨RX9, "begin", "(III)V"⟩
abbrev cX9_number : ByteArray := prog_11_method_5_code
def yX9_number : MethodName := ⟨RX9, "number", "(II)I"⟩
abbrev cX9_write : ByteArray := prog_11_method_6_code
def yX9_write : MethodName := ⟨RX9, "write", "(III)V"⟩
abbrev cX9_hasSpan : ByteArray := prog_11_method_7_code
def yX9_hasSpan : MethodName := ⟨RX9, "hasSpan", "(III)Z"⟩
abbrev cX9_carryOver : ByteArray := prog_11_method_8_code
def yX9_carryOver : MethodName := ⟨RX9, "carryOver", "(IIIII)V"⟩
def RX10 : String := "CellarCars$Shunting"
def TX10 : u_T := fun k => match k with
  | 0 => ("CellarCars$Shunting", "row", "[I", true)
  | 1 => ("CellarCars$Shunting", "tried", "LCellarCars$Garage;", true)
  | _ => ("CellarCars$Shunting", "keys", "I", false)
def tyX10 : Nat → FieldType := fun k => match k with
  | 0 => .array .int
  | 1 => .object "CellarCars$Garage"
  | _ => .int
abbrev wsX100 : List Cond := u_ws RX10 TX10 3
theorem nmX10 : ∀ a, a < 3 → ∀ b, b < 3 → a ≠ b → (TX10 a).2.1 ≠ (TX10 b).2.1 := by decide +kernel
theorem tyX10_ok : ∀ k, k < 3 → parseFieldDescriptor (TX10 k).2.2.1 = some (tyX10 k) := by decide +kernel
abbrev cX10_init : ByteArray := prog_12_method_1_code
def yX10_init : MethodName := ⟨RX10, "<init>", "()V"⟩
abbrev cX10_begin : ByteArray := prog_12_method_2_code
def yX10_begin : MethodName := ⟨RX10, "begin", "(LCellarCars$Garage;I)V"⟩
abbrev cX10_frees : ByteArray := prog_12_method_3_code
def yX10_frees : MethodName := ⟨RX10, "frees", "(I)Z"⟩
abbrev cX10_shortest : ByteArray := prog_12_method_4_code
def yX10_shortest : MethodName := ⟨RX10, "shortest", "(LCellarCars$Garage;II)I"⟩
abbrev cX10_search : ByteArray := prog_12_method_5_code
def yX10_search : MethodName := ⟨RX10, "search", "(III)Z"⟩
abbrev cX10_carryOut : ByteArray := prog_12_method_6_code
def yX10_carryOut : MethodName := ⟨RX10, "carryOut", "(II)Z"⟩
def RX11 : String := "CellarCars"
def TX11 : u_T := fun k => match k with
  | 0 => ("CellarCars", "desk", "LCellarCars$Desk;", true)
  | 1 => ("CellarCars", "past", "[LCellarCars$Desk;", true)
  | 2 => ("CellarCars", "sheets", "LCellarCars$Sheets;", true)
  | 3 => ("CellarCars", "shunting", "LCellarCars$Shunting;", true)
  | 4 => ("CellarCars", "planning", "LCellarCars$Planning;", true)
  | 5 => ("CellarCars", "charge", "LCellarCars$Charge;", true)
  | 6 => ("CellarCars", "renting", "LCellarCars$Renting;", true)
  | 7 => ("CellarCars", "rules", "LCellarCars$Rules;", true)
  | 8 => ("CellarCars", "rescuing", "LCellarCars$Rescuing;", true)
  | 9 => ("CellarCars", "pastNext", "I", false)
  | 10 => ("CellarCars", "pastCount", "I", false)
  | _ => ("CellarCars", "findings", "I", false)
def tyX11 : Nat → FieldType := fun k => match k with
  | 0 => .object "CellarCars$Desk"
  | 1 => .array (.object "CellarCars$Desk")
  | 2 => .object "CellarCars$Sheets"
  | 3 => .object "CellarCars$Shunting"
  | 4 => .object "CellarCars$Planning"
  | 5 => .object "CellarCars$Charge"
  | 6 => .object "CellarCars$Renting"
  | 7 => .object "CellarCars$Rules"
  | 8 => .object "CellarCars$Rescuing"
  | 9 => .int
  | 10 => .int
  | _ => .int
abbrev wsX110 : List Cond := u_ws RX11 TX11 12
theorem nmX11 : ∀ a, a < 12 → ∀ b, b < 12 → a ≠ b → (TX11 a).2.1 ≠ (TX11 b).2.1 := by decide +kernel
theorem tyX11_ok : ∀ k, k < 12 → parseFieldDescriptor (TX11 k).2.2.1 = some (tyX11 k) := by decide +kernel
abbrev cX11_init : ByteArray := prog_1_method_1_code
def yX11_init : MethodName := ⟨RX11, "<init>", "()V"⟩
abbrev cX11_lane : ByteArray := prog_1_method_2_code
def yX11_lane : MethodName := ⟨RX11, "lane", "(IIII)I"⟩
abbrev cX11_as : ByteArray := prog_1_method_3_code
def yX11_as : MethodName := ⟨RX11, "as", "(II)I"⟩
abbrev cX11_laneIs : ByteArray := prog_1_method_4_code
def yX11_laneIs : MethodName := ⟨RX11, "laneIs", "(II)I"⟩
abbrev cX11_breaks : ByteArray := prog_1_method_5_code
def yX11_breaks : MethodName := ⟨RX11, "breaks", "(IZ)I"⟩
abbrev cX11_car : ByteArray := prog_1_method_6_code
def yX11_car : MethodName := ⟨RX11, "car", "(IIIIII)I"⟩
abbrev cX11_carIs : ByteArray := prog_1_method_7_code
def yX11_carIs : MethodName := ⟨RX11, "carIs", "(II)I"⟩
abbrev cX11_tell : ByteArray := prog_1_method_8_code
def yX11_tell : MethodName := ⟨RX11, "tell", "(III)I"⟩
abbrev cX11_at : ByteArray := prog_1_method_9_code
def yX11_at : MethodName := ⟨RX11, "at", "(II)I"⟩
abbrev cX11_fits : ByteArray := prog_1_method_10_code
def yX11_fits : MethodName := ⟨RX11, "fits", "(II)I"⟩
abbrev cX11_park : ByteArray := prog_1_method_11_code
def yX11_park : MethodName := ⟨RX11, "park", "(II)I"⟩
abbrev cX11_shunt : ByteArray := prog_1_method_12_code
def yX11_shunt : MethodName := ⟨RX11, "shunt", "(II)I"⟩
abbrev cX11_leave : ByteArray := prog_1_method_13_code
def yX11_leave : MethodName := ⟨RX11, "leave", "(I)I"⟩
abbrev cX11_night : ByteArray := prog_1_method_14_code
def yX11_night : MethodName := ⟨RX11, "night", "()I"⟩
abbrev cX11_hour : ByteArray := prog_1_method_15_code
def yX11_hour : MethodName := ⟨RX11, "hour", "(I)I"⟩
abbrev cX11_ahead : ByteArray := prog_1_method_16_code
def yX11_ahead : MethodName := ⟨RX11, "ahead", "(I)I"⟩
abbrev cX11_fewest : ByteArray := prog_1_method_17_code
def yX11_fewest : MethodName := ⟨RX11, "fewest", "(I)I"⟩
abbrev cX11_step : ByteArray := prog_1_method_18_code
def yX11_step : MethodName := ⟨RX11, "step", "(II)I"⟩
abbrev cX11_proves : ByteArray := prog_1_method_19_code
def yX11_proves : MethodName := ⟨RX11, "proves", "(II)I"⟩
abbrev cX11_morning : ByteArray := prog_1_method_20_code
def yX11_morning : MethodName := ⟨RX11, "morning", "(I)I"⟩
abbrev cX11_arrive : ByteArray := prog_1_method_21_code
def yX11_arrive : MethodName := ⟨RX11, "arrive", "(I)I"⟩
abbrev cX11_clear : ByteArray := prog_1_method_22_code
def yX11_clear : MethodName := ⟨RX11, "clear", "()I"⟩
abbrev cX11_plan : ByteArray := prog_1_method_23_code
def yX11_plan : MethodName := ⟨RX11, "plan", "()I"⟩
abbrev cX11_planned : ByteArray := prog_1_method_24_code
def yX11_planned : MethodName := ⟨RX11, "planned", "(I)I"⟩
abbrev cX11_chargers : ByteArray := prog_1_method_25_code
def yX11_chargers : MethodName := ⟨RX11, "chargers", "(I)I"⟩
abbrev cX11_charged : ByteArray := prog_1_method_26_code
def yX11_charged : MethodName := ⟨RX11, "charged", "()I"⟩
abbrev cX11_charging : ByteArray := prog_1_method_27_code
def yX11_charging : MethodName := ⟨RX11, "charging", "(I)I"⟩
abbrev cX11_bid : ByteArray := prog_1_method_28_code
def yX11_bid : MethodName := ⟨RX11, "bid", "(III)I"⟩
abbrev cX11_given : ByteArray := prog_1_method_29_code
def yX11_given : MethodName := ⟨RX11, "given", "(I)I"⟩
abbrev cX11_rent : ByteArray := prog_1_method_30_code
def yX11_rent : MethodName := ⟨RX11, "rent", "(I)I"⟩
abbrev cX11_giving : ByteArray := prog_1_method_31_code
def yX11_giving : MethodName := ⟨RX11, "giving", "()I"⟩
abbrev cX11_porter : ByteArray := prog_1_method_32_code
def yX11_porter : MethodName := ⟨RX11, "porter", "(I)I"⟩
abbrev cX11_look : ByteArray := prog_1_method_33_code
def yX11_look : MethodName := ⟨RX11, "look", "(IZ)I"⟩
abbrev cX11_harm : ByteArray := prog_1_method_34_code
def yX11_harm : MethodName := ⟨RX11, "harm", "(III)I"⟩
abbrev cX11_text : ByteArray := prog_1_method_35_code
def yX11_text : MethodName := ⟨RX11, "text", "(I)I"⟩
abbrev cX11_wrong : ByteArray := prog_1_method_36_code
def yX11_wrong : MethodName := ⟨RX11, "wrong", "()I"⟩
abbrev cX11_lets : ByteArray := prog_1_method_37_code
def yX11_lets : MethodName := ⟨RX11, "lets", "(III)I"⟩
abbrev cX11_flood : ByteArray := prog_1_method_38_code
def yX11_flood : MethodName := ⟨RX11, "flood", "(II)I"⟩
abbrev cX11_pace : ByteArray := prog_1_method_39_code
def yX11_pace : MethodName := ⟨RX11, "pace", "(I)I"⟩
abbrev cX11_rescue : ByteArray := prog_1_method_40_code
def yX11_rescue : MethodName := ⟨RX11, "rescue", "()I"⟩
abbrev cX11_rescued : ByteArray := prog_1_method_41_code
def yX11_rescued : MethodName := ⟨RX11, "rescued", "(I)I"⟩
abbrev cX11_note : ByteArray := prog_1_method_42_code
def yX11_note : MethodName := ⟨RX11, "note", "(IIZ)I"⟩
abbrev cX11_key : ByteArray := prog_1_method_43_code
def yX11_key : MethodName := ⟨RX11, "key", "(III)I"⟩
abbrev cX11_sheet : ByteArray := prog_1_method_44_code
def yX11_sheet : MethodName := ⟨RX11, "sheet", "(III)I"⟩
abbrev cX11_put : ByteArray := prog_1_method_45_code
def yX11_put : MethodName := ⟨RX11, "put", "(III)I"⟩
abbrev cX11_copy : ByteArray := prog_1_method_46_code
def yX11_copy : MethodName := ⟨RX11, "copy", "(IIIII)I"⟩
abbrev cX11_undo : ByteArray := prog_1_method_47_code
def yX11_undo : MethodName := ⟨RX11, "undo", "()I"⟩
abbrev cX11_all : ByteArray := prog_1_method_48_code
def yX11_all : MethodName := ⟨RX11, "all", "(I)I"⟩
abbrev cX11_refuse : ByteArray := prog_1_method_49_code
def yX11_refuse : MethodName := ⟨RX11, "refuse", "(I)I"⟩
abbrev cX11_keepForUndo : ByteArray := prog_1_method_50_code
def yX11_keepForUndo : MethodName := ⟨RX11, "keepForUndo", "()V"⟩
abbrev cX11_inLaneFinding : ByteArray := prog_1_method_51_code
def yX11_inLaneFinding : MethodName := ⟨RX11, "inLaneFinding", "(I)I"⟩
abbrev cX11_keysNow : ByteArray := prog_1_method_52_code
def yX11_keysNow : MethodName := ⟨RX11, "keysNow", "()I"⟩
abbrev cX11_isLet : ByteArray := prog_1_method_53_code
def yX11_isLet : MethodName := ⟨RX11, "isLet", "(III)Z"⟩
abbrev cX11_isWithin : ByteArray := prog_1_method_54_code
def yX11_isWithin : MethodName := ⟨RX11, "isWithin", "(III)Z"⟩
abbrev cX11_isHour : ByteArray := prog_1_method_55_code
def yX11_isHour : MethodName := ⟨RX11, "isHour", "(I)Z"⟩
abbrev cX11_isTenant : ByteArray := prog_1_method_56_code
def yX11_isTenant : MethodName := ⟨RX11, "isTenant", "(I)Z"⟩
abbrev cX11_isPorter : ByteArray := prog_1_method_57_code
def yX11_isPorter : MethodName := ⟨RX11, "isPorter", "(I)Z"⟩
def RX12 : String := "CellarCarsModel"
def TX12 : u_T := fun k => match k with
  | 0 => ("CellarCarsModel", "now", "[I", true)
  | 1 => ("CellarCarsModel", "past", "[I", true)
  | 2 => ("CellarCarsModel", "kept", "I", false)
  | 3 => ("CellarCarsModel", "findings", "I", false)
  | 4 => ("CellarCarsModel", "bits", "[I", true)
  | 5 => ("CellarCarsModel", "sizes", "[I", true)
  | 6 => ("CellarCarsModel", "sheets", "[I", true)
  | 7 => ("CellarCarsModel", "aside", "[I", true)
  | 8 => ("CellarCarsModel", "tried", "[I", true)
  | 9 => ("CellarCarsModel", "laneOf", "[I", true)
  | 10 => ("CellarCarsModel", "planned", "[I", true)
  | 11 => ("CellarCarsModel", "least", "I", false)
  | 12 => ("CellarCarsModel", "needs", "[I", true)
  | 13 => ("CellarCarsModel", "givenTo", "[I", true)
  | 14 => ("CellarCarsModel", "row", "[I", true)
  | 15 => ("CellarCarsModel", "bestWorth", "I", false)
  | 16 => ("CellarCarsModel", "bestMany", "I", false)
  | 17 => ("CellarCarsModel", "bestCars", "[I", true)
  | 18 => ("CellarCarsModel", "takenCars", "[I", true)
  | 19 => ("CellarCarsModel", "takenOf", "[I", true)
  | _ => ("CellarCarsModel", "carried", "[I", true)
def tyX12 : Nat → FieldType := fun k => match k with
  | 0 => .array .int
  | 1 => .array .int
  | 2 => .int
  | 3 => .int
  | 4 => .array .int
  | 5 => .array .int
  | 6 => .array .int
  | 7 => .array .int
  | 8 => .array .int
  | 9 => .array .int
  | 10 => .array .int
  | 11 => .int
  | 12 => .array .int
  | 13 => .array .int
  | 14 => .array .int
  | 15 => .int
  | 16 => .int
  | 17 => .array .int
  | 18 => .array .int
  | 19 => .array .int
  | _ => .array .int
abbrev wsX120 : List Cond := u_ws RX12 TX12 21
theorem nmX12 : ∀ a, a < 21 → ∀ b, b < 21 → a ≠ b → (TX12 a).2.1 ≠ (TX12 b).2.1 := by decide +kernel
theorem tyX12_ok : ∀ k, k < 21 → parseFieldDescriptor (TX12 k).2.2.1 = some (tyX12 k) := by decide +kernel
abbrev cX12_init : ByteArray := prog_14_method_1_code
def yX12_init : MethodName := ⟨RX12, "<init>", "()V"⟩
abbrev cX12_finding : ByteArray := prog_14_method_2_code
def yX12_finding : MethodName := ⟨RX12, "finding", "(I)I"⟩
abbrev cX12_within : ByteArray := prog_14_method_3_code
def yX12_within : MethodName := ⟨RX12, "within", "(III)Z"⟩
abbrev cX12_isLane : ByteArray := prog_14_method_4_code
def yX12_isLane : MethodName := ⟨RX12, "isLane", "(I)Z"⟩
abbrev cX12_isCar : ByteArray := prog_14_method_5_code
def yX12_isCar : MethodName := ⟨RX12, "isCar", "(I)Z"⟩
abbrev cX12_isHour : ByteArray := prog_14_method_6_code
def yX12_isHour : MethodName := ⟨RX12, "isHour", "(I)Z"⟩
abbrev cX12_keep : ByteArray := prog_14_method_7_code
def yX12_keep : MethodName := ⟨RX12, "keep", "()V"⟩
abbrev cX12_undo : ByteArray := prog_14_method_8_code
def yX12_undo : MethodName := ⟨RX12, "undo", "()I"⟩
abbrev cX12_lane : ByteArray := prog_14_method_9_code
def yX12_lane : MethodName := ⟨RX12, "lane", "(IIII)I"⟩
abbrev cX12_isLift : ByteArray := prog_14_method_10_code
def yX12_isLift : MethodName := ⟨RX12, "isLift", "(I)Z"⟩
abbrev cX12_as : ByteArray := prog_14_method_11_code
def yX12_as : MethodName := ⟨RX12, "as", "(II)I"⟩
abbrev cX12_carAt : ByteArray := prog_14_method_12_code
def yX12_carAt : MethodName := ⟨RX12, "carAt", "(II)I"⟩
abbrev cX12_leftOf : ByteArray := prog_14_method_13_code
def yX12_leftOf : MethodName := ⟨RX12, "leftOf", "(I)I"⟩
abbrev cX12_laneIs : ByteArray := prog_14_method_14_code
def yX12_laneIs : MethodName := ⟨RX12, "laneIs", "(II)I"⟩
abbrev cX12_breaks : ByteArray := prog_14_method_15_code
def yX12_breaks : MethodName := ⟨RX12, "breaks", "(IZ)I"⟩
abbrev cX12_car : ByteArray := prog_14_method_16_code
def yX12_car : MethodName := ⟨RX12, "car", "(IIIIII)I"⟩
abbrev cX12_standOf : ByteArray := prog_14_method_17_code
def yX12_standOf : MethodName := ⟨RX12, "standOf", "(I)I"⟩
abbrev cX12_manyAhead : ByteArray := prog_14_method_18_code
def yX12_manyAhead : MethodName := ⟨RX12, "manyAhead", "(I)I"⟩
abbrev cX12_carIs : ByteArray := prog_14_method_19_code
def yX12_carIs : MethodName := ⟨RX12, "carIs", "(II)I"⟩
abbrev cX12_tell : ByteArray := prog_14_method_20_code
def yX12_tell : MethodName := ⟨RX12, "tell", "(III)I"⟩
abbrev cX12_at : ByteArray := prog_14_method_21_code
def yX12_at : MethodName := ⟨RX12, "at", "(II)I"⟩
abbrev cX12_canFit : ByteArray := prog_14_method_22_code
def yX12_canFit : MethodName := ⟨RX12, "canFit", "(II)Z"⟩
abbrev cX12_fits : ByteArray := prog_14_method_23_code
def yX12_fits : MethodName := ⟨RX12, "fits", "(II)I"⟩
abbrev cX12_isStuck : ByteArray := prog_14_method_24_code
def yX12_isStuck : MethodName := ⟨RX12, "isStuck", "(I)Z"⟩
abbrev cX12_isFree : ByteArray := prog_14_method_25_code
def yX12_isFree : MethodName := ⟨RX12, "isFree", "(I)Z"⟩
abbrev cX12_turns : ByteArray := prog_14_method_26_code
def yX12_turns : MethodName := ⟨RX12, "turns", "(I)V"⟩
abbrev cX12_comes : ByteArray := prog_14_method_27_code
def yX12_comes : MethodName := ⟨RX12, "comes", "(II)V"⟩
abbrev cX12_goes : ByteArray := prog_14_method_28_code
def yX12_goes : MethodName := ⟨RX12, "goes", "(I)V"⟩
abbrev cX12_park : ByteArray := prog_14_method_29_code
def yX12_park : MethodName := ⟨RX12, "park", "(II)I"⟩
abbrev cX12_hinders : ByteArray := prog_14_method_30_code
def yX12_hinders : MethodName := ⟨RX12, "hinders", "(II)I"⟩
abbrev cX12_does : ByteArray := prog_14_method_31_code
def yX12_does : MethodName := ⟨RX12, "does", "(II)V"⟩
abbrev cX12_led : ByteArray := prog_14_method_32_code
def yX12_led : MethodName := ⟨RX12, "led", "(I)V"⟩
abbrev cX12_shunt : ByteArray := prog_14_method_33_code
def yX12_shunt : MethodName := ⟨RX12, "shunt", "(II)I"⟩
abbrev cX12_leave : ByteArray := prog_14_method_34_code
def yX12_leave : MethodName := ⟨RX12, "leave", "(I)I"⟩
abbrev cX12_night : ByteArray := prog_14_method_35_code
def yX12_night : MethodName := ⟨RX12, "night", "()I"⟩
abbrev cX12_hour : ByteArray := prog_14_method_36_code
def yX12_hour : MethodName := ⟨RX12, "hour", "(I)I"⟩
abbrev cX12_ahead : ByteArray := prog_14_method_37_code
def yX12_ahead : MethodName := ⟨RX12, "ahead", "(I)I"⟩
abbrev cX12_lay : ByteArray := prog_14_method_38_code
def yX12_lay : MethodName := ⟨RX12, "lay", "(I)V"⟩
abbrev cX12_bring : ByteArray := prog_14_method_39_code
def yX12_bring : MethodName := ⟨RX12, "bring", "(I)V"⟩
abbrev cX12_frees : ByteArray := prog_14_method_40_code
def yX12_frees : MethodName := ⟨RX12, "frees", "(III)Z"⟩
abbrev cX12_findFewest : ByteArray := prog_14_method_41_code
def yX12_findFewest : MethodName := ⟨RX12, "findFewest", "(I)I"⟩
abbrev cX12_fewest : ByteArray := prog_14_method_42_code
def yX12_fewest : MethodName := ⟨RX12, "fewest", "(I)I"⟩
abbrev cX12_step : ByteArray := prog_14_method_43_code
def yX12_step : MethodName := ⟨RX12, "step", "(II)I"⟩
abbrev cX12_proves : ByteArray := prog_14_method_44_code
def yX12_proves : MethodName := ⟨RX12, "proves", "(II)I"⟩
abbrev cX12_morningOf : ByteArray := prog_14_method_45_code
def yX12_morningOf : MethodName := ⟨RX12, "morningOf", "(I)I"⟩
abbrev cX12_morning : ByteArray := prog_14_method_46_code
def yX12_morning : MethodName := ⟨RX12, "morning", "(I)I"⟩
abbrev cX12_arrivalOf : ByteArray := prog_14_method_47_code
def yX12_arrivalOf : MethodName := ⟨RX12, "arrivalOf", "(I)I"⟩
abbrev cX12_arrive : ByteArray := prog_14_method_48_code
def yX12_arrive : MethodName := ⟨RX12, "arrive", "(I)I"⟩
abbrev cX12_clear : ByteArray := prog_14_method_49_code
def yX12_clear : MethodName := ⟨RX12, "clear", "()I"⟩
abbrev cX12_moreBy : ByteArray := prog_14_method_50_code
def yX12_moreBy : MethodName := ⟨RX12, "moreBy", "(II)I"⟩
abbrev cX12_plans : ByteArray := prog_14_method_51_code
def yX12_plans : MethodName := ⟨RX12, "plans", "(II)V"⟩
abbrev cX12_findPlan : ByteArray := prog_14_method_52_code
def yX12_findPlan : MethodName := ⟨RX12, "findPlan", "()V"⟩
abbrev cX12_plan : ByteArray := prog_14_method_53_code
def yX12_plan : MethodName := ⟨RX12, "plan", "()I"⟩
abbrev cX12_planned : ByteArray := prog_14_method_54_code
def yX12_planned : MethodName := ⟨RX12, "planned", "(I)I"⟩
abbrev cX12_chargers : ByteArray := prog_14_method_55_code
def yX12_chargers : MethodName := ⟨RX12, "chargers", "(I)I"⟩
abbrev cX12_begin : ByteArray := prog_14_method_56_code
def yX12_begin : MethodName := ⟨RX12, "begin", "(I)V"⟩
abbrev cX12_charge : ByteArray := prog_14_method_57_code
def yX12_charge : MethodName := ⟨RX12, "charge", "(I)I"⟩
abbrev cX12_canAll : ByteArray := prog_14_method_58_code
def yX12_canAll : MethodName := ⟨RX12, "canAll", "(I)Z"⟩
abbrev cX12_many : ByteArray := prog_14_method_59_code
def yX12_many : MethodName := ⟨RX12, "many", "(I)I"⟩
abbrev cX12_findCharged : ByteArray := prog_14_method_60_code
def yX12_findCharged : MethodName := ⟨RX12, "findCharged", "()I"⟩
abbrev cX12_charged : ByteArray := prog_14_method_61_code
def yX12_charged : MethodName := ⟨RX12, "charged", "()I"⟩
abbrev cX12_charging : ByteArray := prog_14_method_62_code
def yX12_charging : MethodName := ⟨RX12, "charging", "(I)I"⟩
abbrev cX12_bid : ByteArray := prog_14_method_63_code
def yX12_bid : MethodName := ⟨RX12, "bid", "(III)I"⟩
abbrev cX12_mostFrom : ByteArray := prog_14_method_64_code
def yX12_mostFrom : MethodName := ⟨RX12, "mostFrom", "(III)I"⟩
abbrev cX12_findGiving : ByteArray := prog_14_method_65_code
def yX12_findGiving : MethodName := ⟨RX12, "findGiving", "()I"⟩
abbrev cX12_given : ByteArray := prog_14_method_66_code
def yX12_given : MethodName := ⟨RX12, "given", "(I)I"⟩
abbrev cX12_rent : ByteArray := prog_14_method_67_code
def yX12_rent : MethodName := ⟨RX12, "rent", "(I)I"⟩
abbrev cX12_giving : ByteArray := prog_14_method_68_code
def yX12_giving : MethodName := ⟨RX12, "giving", "()I"⟩
abbrev cX12_porter : ByteArray := prog_14_method_69_code
def yX12_porter : MethodName := ⟨RX12, "porter", "(I)I"⟩
abbrev cX12_look : ByteArray := prog_14_method_70_code
def yX12_look : MethodName := ⟨RX12, "look", "(IZ)I"⟩
abbrev cX12_harm : ByteArray := prog_14_method_71_code
def yX12_harm : MethodName := ⟨RX12, "harm", "(III)I"⟩
abbrev cX12_isSign : ByteArray := prog_14_method_72_code
def yX12_isSign : MethodName := ⟨RX12, "isSign", "(I)Z"⟩
abbrev cX12_text : ByteArray := prog_14_method_73_code
def yX12_text : MethodName := ⟨RX12, "text", "(I)I"⟩
abbrev cX12_wrongAt : ByteArray := prog_14_method_74_code
def yX12_wrongAt : MethodName := ⟨RX12, "wrongAt", "()I"⟩
abbrev cX12_wrong : ByteArray := prog_14_method_75_code
def yX12_wrong : MethodName := ⟨RX12, "wrong", "()I"⟩
abbrev cX12_readBy : ByteArray := prog_14_method_76_code
def yX12_readBy : MethodName := ⟨RX12, "readBy", "(IIII)I"⟩
abbrev cX12_joined : ByteArray := prog_14_method_77_code
def yX12_joined : MethodName := ⟨RX12, "joined", "(III)Z"⟩
abbrev cX12_isLet : ByteArray := prog_14_method_78_code
def yX12_isLet : MethodName := ⟨RX12, "isLet", "(III)Z"⟩
abbrev cX12_lets : ByteArray := prog_14_method_79_code
def yX12_lets : MethodName := ⟨RX12, "lets", "(III)I"⟩
abbrev cX12_flood : ByteArray := prog_14_method_80_code
def yX12_flood : MethodName := ⟨RX12, "flood", "(II)I"⟩
abbrev cX12_pace : ByteArray := prog_14_method_81_code
def yX12_pace : MethodName := ⟨RX12, "pace", "(I)I"⟩
abbrev cX12_minuteOf : ByteArray := prog_14_method_82_code
def yX12_minuteOf : MethodName := ⟨RX12, "minuteOf", "(I)I"⟩
abbrev cX12_rescues : ByteArray := prog_14_method_83_code
def yX12_rescues : MethodName := ⟨RX12, "rescues", "(II)V"⟩
abbrev cX12_findRescue : ByteArray := prog_14_method_84_code
def yX12_findRescue : MethodName := ⟨RX12, "findRescue", "()V"⟩
abbrev cX12_rescue : ByteArray := prog_14_method_85_code
def yX12_rescue : MethodName := ⟨RX12, "rescue", "()I"⟩
abbrev cX12_rescued : ByteArray := prog_14_method_86_code
def yX12_rescued : MethodName := ⟨RX12, "rescued", "(I)I"⟩
abbrev cX12_note : ByteArray := prog_14_method_87_code
def yX12_note : MethodName := ⟨RX12, "note", "(IIZ)I"⟩
abbrev cX12_hasKey : ByteArray := prog_14_method_88_code
def yX12_hasKey : MethodName := ⟨RX12, "hasKey", "(III)Z"⟩
abbrev cX12_key : ByteArray := prog_14_method_89_code
def yX12_key : MethodName := ⟨RX12, "key", "(III)I"⟩
abbrev cX12_isSheet : ByteArray := prog_14_method_90_code
def yX12_isSheet : MethodName := ⟨RX12, "isSheet", "(I)Z"⟩
abbrev cX12_sheet : ByteArray := prog_14_method_91_code
def yX12_sheet : MethodName := ⟨RX12, "sheet", "(III)I"⟩
abbrev cX12_put : ByteArray := prog_14_method_92_code
def yX12_put : MethodName := ⟨RX12, "put", "(III)I"⟩
abbrev cX12_copy : ByteArray := prog_14_method_93_code
def yX12_copy : MethodName := ⟨RX12, "copy", "(IIIII)I"⟩
abbrev cX12_all : ByteArray := prog_14_method_94_code
def yX12_all : MethodName := ⟨RX12, "all", "(I)I"⟩
def RJ6 : String := "java/lang/Integer"
def TJ6 : u_T := fun k => match k with
  | _ => ("", "", "", false)
def tyJ6 : Nat → FieldType := fun k => match k with
  | _ => .int
abbrev cJ6_bitCount_0f7a4 : ByteArray := prog_15_method_49_code
def yJ6_bitCount_0f7a4 : MethodName := ⟨RJ6, "bitCount", "(I)I"⟩
def RJ9 : String := "java/lang/Math"
def TJ9 : u_T := fun k => match k with
  | _ => ("", "", "", false)
def tyJ9 : Nat → FieldType := fun k => match k with
  | _ => .int
abbrev cJ9_max_7cf53 : ByteArray := prog_16_method_65_code
def yJ9_max_7cf53 : MethodName := ⟨RJ9, "max", "(II)I"⟩
abbrev cJ9_min_7cf53 : ByteArray := prog_16_method_69_code
def yJ9_min_7cf53 : MethodName := ⟨RJ9, "min", "(II)I"⟩
def RJ10 : String := "java/lang/System"
def TJ10 : u_T := fun k => match k with
  | _ => ("", "", "", false)
def tyJ10 : Nat → FieldType := fun k => match k with
  | _ => .int
def RJ7 : String := "java/util/Arrays"
def TJ7 : u_T := fun k => match k with
  | _ => ("", "", "", false)
def tyJ7 : Nat → FieldType := fun k => match k with
  | _ => .int
abbrev cJ7_rangeCheck_23922 : ByteArray := prog_18_method_30_code
def yJ7_rangeCheck_23922 : MethodName := ⟨RJ7, "rangeCheck", "(III)V"⟩
abbrev cJ7_fill_53178 : ByteArray := prog_18_method_103_code
def yJ7_fill_53178 : MethodName := ⟨RJ7, "fill", "([II)V"⟩
abbrev cJ7_fill_fda19 : ByteArray := prog_18_method_104_code
def yJ7_fill_fda19 : MethodName := ⟨RJ7, "fill", "([IIII)V"⟩
def RL : String := "CellarCarsLaw"
abbrev cL_law : ByteArray := code
def yL_law : MethodName := ⟨RL, "law", "([I)Z"⟩
abbrev vwCl : List vw_C := [(RX0, TX0, 2), (RX1, TX1, 13), (RX2, TX2, 13), (RX3, TX3, 4), (RX4, TX4, 3), (RX5, TX5, 4), (RX6, TX6, 3), (RX7, TX7, 5), (RX8, TX8, 2), (RX9, TX9, 3), (RX10, TX10, 3), (RX11, TX11, 12), (RX12, TX12, 21)]
end
section
/-! the program as tables: by wip/whole/gen.py out of what TURN printed of the class, the law and the reference -/
abbrev ex_cn : List String := [RX0, RX1, RX2, RX3, RX4, RX5, RX6, RX7, RX8, RX9, RX10, RX11, RX12, RJ6, RJ9, RJ7, RL]
/-- a method: kind (0 static, 1 instance, 2 constructor), its class, how many arguments, locals, answer (0 none, 1 int, 2 boolean) -/
def ex_mt : List (Nat × Nat × Nat × Nat × Nat) := [(2, 0, 1, 1, 0),
  (1, 0, 3, 6, 1),
  (1, 0, 2, 5, 1),
  (1, 0, 4, 8, 2),
  (1, 0, 3, 6, 1),
  (1, 0, 3, 4, 1),
  (2, 1, 1, 1, 0),
  (1, 1, 2, 2, 0),
  (1, 1, 2, 3, 1),
  (2, 2, 1, 1, 0),
  (1, 2, 2, 2, 0),
  (0, 2, 1, 1, 2),
  (0, 2, 2, 2, 2),
  (1, 2, 2, 2, 2),
  (1, 2, 2, 2, 2),
  (1, 2, 5, 6, 1),
  (1, 2, 7, 9, 1),
  (1, 2, 3, 3, 1),
  (1, 2, 4, 5, 1),
  (1, 2, 3, 5, 2),
  (1, 2, 2, 2, 1),
  (1, 2, 2, 2, 1),
  (1, 2, 3, 3, 2),
  (1, 2, 3, 3, 1),
  (1, 2, 2, 4, 1),
  (1, 2, 2, 2, 2),
  (1, 2, 2, 3, 2),
  (1, 2, 3, 3, 1),
  (1, 2, 3, 3, 1),
  (1, 2, 3, 3, 0),
  (1, 2, 2, 3, 0),
  (1, 2, 3, 3, 0),
  (1, 2, 3, 4, 0),
  (1, 2, 1, 3, 1),
  (1, 2, 2, 5, 1),
  (1, 2, 1, 3, 1),
  (1, 2, 2, 6, 1),
  (1, 2, 2, 2, 1),
  (2, 3, 1, 1, 0),
  (1, 3, 2, 2, 0),
  (1, 3, 4, 4, 0),
  (1, 3, 4, 7, 2),
  (1, 3, 3, 5, 1),
  (2, 4, 1, 1, 0),
  (1, 4, 2, 2, 0),
  (1, 4, 3, 3, 0),
  (1, 4, 4, 11, 1),
  (1, 4, 2, 3, 1),
  (1, 4, 3, 4, 1),
  (1, 4, 5, 7, 1),
  (2, 5, 1, 1, 0),
  (1, 5, 2, 2, 1),
  (1, 5, 4, 8, 0),
  (1, 5, 3, 7, 1),
  (2, 6, 1, 1, 0),
  (1, 6, 3, 3, 1),
  (1, 6, 6, 7, 0),
  (1, 6, 3, 5, 1),
  (2, 7, 1, 1, 0),
  (1, 7, 3, 4, 1),
  (1, 7, 5, 8, 0),
  (2, 8, 1, 1, 0),
  (0, 8, 1, 1, 2),
  (1, 8, 7, 7, 0),
  (1, 8, 3, 3, 2),
  (1, 8, 3, 7, 1),
  (0, 8, 1, 1, 1),
  (1, 8, 3, 5, 1),
  (1, 8, 2, 2, 1),
  (0, 8, 3, 3, 2),
  (2, 9, 1, 1, 0),
  (1, 9, 2, 2, 2),
  (1, 9, 2, 2, 2),
  (1, 9, 4, 4, 0),
  (1, 9, 3, 3, 1),
  (1, 9, 4, 4, 0),
  (1, 9, 4, 4, 2),
  (1, 9, 6, 6, 0),
  (2, 10, 1, 1, 0),
  (1, 10, 3, 3, 0),
  (1, 10, 2, 2, 2),
  (1, 10, 4, 5, 1),
  (1, 10, 4, 9, 2),
  (1, 10, 3, 5, 2),
  (2, 11, 1, 2, 0),
  (1, 11, 5, 5, 1),
  (1, 11, 3, 3, 1),
  (1, 11, 3, 4, 1),
  (1, 11, 3, 5, 1),
  (1, 11, 7, 7, 1),
  (1, 11, 3, 4, 1),
  (1, 11, 4, 4, 1),
  (1, 11, 3, 4, 1),
  (1, 11, 3, 3, 1),
  (1, 11, 3, 5, 1),
  (1, 11, 3, 5, 1),
  (1, 11, 2, 4, 1),
  (1, 11, 1, 1, 1),
  (1, 11, 2, 3, 1),
  (1, 11, 2, 3, 1),
  (1, 11, 2, 4, 1),
  (1, 11, 3, 5, 1),
  (1, 11, 3, 4, 1),
  (1, 11, 2, 4, 1),
  (1, 11, 2, 2, 1),
  (1, 11, 1, 2, 1),
  (1, 11, 1, 2, 1),
  (1, 11, 2, 3, 1),
  (1, 11, 2, 3, 1),
  (1, 11, 1, 1, 1),
  (1, 11, 2, 3, 1),
  (1, 11, 4, 5, 1),
  (1, 11, 2, 2, 1),
  (1, 11, 2, 2, 1),
  (1, 11, 1, 1, 1),
  (1, 11, 2, 3, 1),
  (1, 11, 3, 3, 1),
  (1, 11, 4, 5, 1),
  (1, 11, 2, 4, 1),
  (1, 11, 1, 1, 1),
  (1, 11, 4, 4, 1),
  (1, 11, 3, 4, 1),
  (1, 11, 2, 3, 1),
  (1, 11, 1, 1, 1),
  (1, 11, 2, 2, 1),
  (1, 11, 4, 4, 1),
  (1, 11, 4, 4, 1),
  (1, 11, 4, 4, 1),
  (1, 11, 4, 4, 1),
  (1, 11, 6, 6, 1),
  (1, 11, 1, 2, 1),
  (1, 11, 2, 2, 1),
  (1, 11, 2, 2, 1),
  (1, 11, 1, 2, 0),
  (1, 11, 2, 2, 1),
  (1, 11, 1, 1, 1),
  (1, 11, 4, 5, 2),
  (0, 11, 3, 3, 2),
  (0, 11, 1, 1, 2),
  (0, 11, 1, 1, 2),
  (0, 11, 1, 1, 2),
  (2, 12, 1, 2, 0),
  (1, 12, 2, 2, 1),
  (0, 12, 3, 3, 2),
  (1, 12, 2, 2, 2),
  (1, 12, 2, 2, 2),
  (0, 12, 1, 1, 2),
  (1, 12, 1, 2, 0),
  (1, 12, 1, 2, 1),
  (1, 12, 5, 6, 1),
  (1, 12, 2, 2, 2),
  (1, 12, 3, 4, 1),
  (1, 12, 3, 3, 1),
  (1, 12, 2, 4, 1),
  (1, 12, 3, 3, 1),
  (1, 12, 3, 4, 1),
  (1, 12, 7, 9, 1),
  (1, 12, 2, 4, 1),
  (1, 12, 2, 2, 1),
  (1, 12, 3, 4, 1),
  (1, 12, 4, 5, 1),
  (1, 12, 3, 3, 1),
  (1, 12, 3, 3, 2),
  (1, 12, 3, 3, 1),
  (1, 12, 2, 2, 2),
  (1, 12, 2, 3, 2),
  (1, 12, 2, 2, 0),
  (1, 12, 3, 3, 0),
  (1, 12, 2, 2, 0),
  (1, 12, 3, 3, 1),
  (1, 12, 3, 4, 1),
  (1, 12, 3, 3, 0),
  (1, 12, 2, 3, 0),
  (1, 12, 3, 4, 1),
  (1, 12, 2, 3, 1),
  (1, 12, 1, 3, 1),
  (1, 12, 2, 3, 1),
  (1, 12, 2, 5, 1),
  (1, 12, 2, 3, 0),
  (1, 12, 2, 3, 0),
  (1, 12, 4, 6, 2),
  (1, 12, 2, 3, 1),
  (1, 12, 2, 3, 1),
  (1, 12, 3, 4, 1),
  (1, 12, 3, 6, 1),
  (1, 12, 2, 5, 1),
  (1, 12, 2, 4, 1),
  (1, 12, 2, 3, 1),
  (1, 12, 2, 2, 1),
  (1, 12, 1, 2, 1),
  (1, 12, 3, 8, 1),
  (1, 12, 3, 5, 0),
  (1, 12, 1, 1, 0),
  (1, 12, 1, 1, 1),
  (1, 12, 2, 3, 1),
  (1, 12, 2, 3, 1),
  (1, 12, 2, 3, 0),
  (1, 12, 2, 7, 1),
  (1, 12, 2, 4, 2),
  (0, 12, 1, 3, 1),
  (1, 12, 1, 4, 1),
  (1, 12, 1, 1, 1),
  (1, 12, 2, 4, 1),
  (1, 12, 4, 5, 1),
  (1, 12, 4, 6, 1),
  (1, 12, 1, 6, 1),
  (1, 12, 2, 3, 1),
  (1, 12, 2, 3, 1),
  (1, 12, 1, 1, 1),
  (1, 12, 2, 3, 1),
  (1, 12, 3, 3, 1),
  (1, 12, 4, 11, 1),
  (0, 12, 1, 1, 2),
  (1, 12, 2, 3, 1),
  (1, 12, 1, 5, 1),
  (1, 12, 1, 1, 1),
  (1, 12, 5, 5, 1),
  (0, 12, 3, 3, 2),
  (1, 12, 4, 7, 2),
  (1, 12, 4, 4, 1),
  (1, 12, 3, 4, 1),
  (1, 12, 2, 3, 1),
  (1, 12, 2, 3, 1),
  (1, 12, 3, 5, 0),
  (1, 12, 1, 1, 0),
  (1, 12, 1, 1, 1),
  (1, 12, 2, 2, 1),
  (1, 12, 4, 4, 1),
  (1, 12, 4, 9, 2),
  (1, 12, 4, 4, 1),
  (0, 12, 1, 1, 2),
  (1, 12, 4, 5, 1),
  (1, 12, 4, 5, 1),
  (1, 12, 6, 7, 1),
  (1, 12, 2, 4, 1),
  (0, 13, 1, 1, 1),
  (0, 14, 2, 2, 1),
  (0, 14, 2, 2, 1),
  (0, 15, 3, 3, 0),
  (0, 15, 2, 4, 0),
  (0, 15, 4, 5, 0),
  (0, 16, 1, 4, 2)]
def ex_cf : List (List (Option (Option Nat))) := [[some none, some none],
  [some none, some none, some none, some none, some none, some none, none, none, none, none, none, none, none],
  [none, none, some none, some none, some none, some none, some none, some none, some none, some none, some none, some none, some none],
  [none, some none, some none, some none],
  [none, some none, some none],
  [some none, some none, some none, none],
  [some none, some none, none],
  [some none, none, some none, some none, none],
  [some none, some none],
  [some none, some none, some none],
  [some none, some none, none],
  [some none, some none, some none, some none, some none, some none, some none, some none, some none, none, none, none],
  [some none, some none, none, none, some none, some none, some none, some none, some none, some none, some none, none, some none, some none, some none, none, none, some none, some none, some none, some none]]
def bk_0_0 : List Instr := [.aload 0, .invokedynamic 1, .aload 0, .sipush 24, .newarray .int, .putfield 0, .aload 0, .sipush 8, .newarray .int, .putfield 1, .return_]
def bk_1_0 : List Instr := [.aload 0, .aload 1, .invokevirtual 2, .istore 3, .sipush 0, .istore 4, .sipush 1, .istore 5, .goto_w 1]
def bk_1_1 : List Instr := [.iload 5, .iload 3, .if_icmp .gt 3, .iload 5, .iload 3, .sipush (-1), .ixor, .iand, .ifCond .ne 2, .iload 5, .invokestatic 235, .iload 4, .invokestatic 235, .if_icmp .le 2, .aload 0, .aload 1, .iload 2, .iload 5, .invokevirtual 3, .ifCond .eq 2, .iload 5, .istore 4, .goto_w 2]
def bk_1_2 : List Instr := [.iinc 5 1, .goto 1]
def bk_1_3 : List Instr := [.iload 4, .ireturn]
def bk_2_0 : List Instr := [.sipush 0, .istore 2, .sipush 0, .istore 3, .goto_w 1]
def bk_2_1 : List Instr := [.iload 3, .aload 1, .getfield 65, .if_icmp .ge 6, .aload 1, .getfield 76, .iload 3, .iaload, .sipush (-1), .if_icmp .eq 2, .aload 1, .iload 3, .sipush 4, .invokevirtual 17, .ifCond .le 2, .sipush 1, .goto 3]
def bk_2_2 : List Instr := [.sipush 0, .goto_w 3]
def bk_2_3 : List Instr := [.istore 4, .iload 2, .iload 4, .ifCond .eq 4, .sipush 1, .iload 3, .ishl, .goto 5]
def bk_2_4 : List Instr := [.sipush 0, .goto_w 5]
def bk_2_5 : List Instr := [.ior, .istore 2, .iinc 3 1, .goto 1]
def bk_2_6 : List Instr := [.iload 2, .ireturn]
def bk_3_0 : List Instr := [.sipush 0, .istore 4, .sipush 0, .istore 5, .goto_w 1]
def bk_3_1 : List Instr := [.iload 5, .aload 1, .getfield 65, .if_icmp .ge 4, .aload 0, .getfield 1, .iload 5, .iload 3, .iload 5, .ishr, .sipush 1, .iand, .ifCond .ne 2, .sipush 0, .goto 3]
def bk_3_2 : List Instr := [.aload 1, .iload 5, .sipush 4, .invokevirtual 17, .goto_w 3]
def bk_3_3 : List Instr := [.iastore, .iload 4, .aload 0, .getfield 1, .iload 5, .iaload, .iadd, .istore 4, .iinc 5 1, .goto 1]
def bk_3_4 : List Instr := [.sipush 23, .istore 5, .goto_w 5]
def bk_3_5 : List Instr := [.iload 5, .ifCond .lt 9, .aload 0, .getfield 0, .iload 5, .sipush 0, .iastore, .sipush 0, .istore 6, .goto_w 6]
def bk_3_6 : List Instr := [.iload 6, .iload 2, .if_icmp .ge 8, .aload 0, .aload 1, .iload 5, .invokevirtual 4, .istore 7, .iload 7, .sipush (-1), .if_icmp .eq 7, .aload 0, .getfield 0, .iload 5, .dup2, .iaload, .sipush 1, .iload 7, .ishl, .ior, .iastore, .goto_w 7]
def bk_3_7 : List Instr := [.iinc 6 1, .goto 6]
def bk_3_8 : List Instr := [.iload 4, .aload 0, .aload 1, .aload 0, .getfield 0, .iload 5, .iaload, .invokevirtual 5, .isub, .istore 4, .iinc 5 (-1), .goto 5]
def bk_3_9 : List Instr := [.iload 4, .ifCond .ne 10, .sipush 1, .goto 11]
def bk_3_10 : List Instr := [.sipush 0, .goto_w 11]
def bk_3_11 : List Instr := [.ireturn]
def bk_4_0 : List Instr := [.sipush (-1), .istore 3, .sipush 0, .istore 4, .sipush 0, .istore 5, .goto_w 1]
def bk_4_1 : List Instr := [.iload 5, .aload 1, .getfield 65, .if_icmp .ge 3, .aload 0, .getfield 1, .iload 5, .iaload, .iload 4, .if_icmp .le 2, .aload 0, .getfield 0, .iload 2, .iaload, .iload 5, .ishr, .sipush 1, .iand, .ifCond .ne 2, .aload 1, .iload 5, .sipush 3, .invokevirtual 17, .iload 2, .if_icmp .le 2, .iload 5, .istore 3, .aload 0, .getfield 1, .iload 5, .iaload, .istore 4, .goto_w 2]
def bk_4_2 : List Instr := [.iinc 5 1, .goto 1]
def bk_4_3 : List Instr := [.iload 3, .ireturn]
def bk_5_0 : List Instr := [.sipush 0, .istore 3, .goto_w 1]
def bk_5_1 : List Instr := [.iload 3, .aload 1, .getfield 65, .if_icmp .ge 2, .aload 0, .getfield 1, .iload 3, .dup2, .iaload, .iload 2, .iload 3, .ishr, .sipush 1, .iand, .isub, .iastore, .iinc 3 1, .goto 1]
def bk_5_2 : List Instr := [.iload 2, .invokestatic 235, .ireturn]
def bk_6_0 : List Instr := [.aload 0, .invokedynamic 1, .aload 0, .new 2, .dup, .invokespecial 9, .putfield 32, .aload 0, .new 4, .dup, .invokespecial 43, .putfield 33, .aload 0, .new 3, .dup, .invokespecial 38, .putfield 34, .aload 0, .sipush 25, .newarray .int, .putfield 35, .aload 0, .sipush 16, .newarray .int, .putfield 36, .aload 0, .sipush 7, .newarray .int, .putfield 37, .aload 0, .sipush 0, .putfield 38, .aload 0, .sipush 0, .putfield 39, .aload 0, .sipush 0, .putfield 40, .aload 0, .sipush 1, .putfield 41, .aload 0, .sipush 0, .putfield 42, .aload 0, .sipush 10, .putfield 43, .aload 0, .sipush 0, .putfield 44, .return_]
def bk_7_0 : List Instr := [.aload 0, .getfield 32, .aload 1, .getfield 32, .invokevirtual 10, .aload 0, .getfield 33, .aload 1, .getfield 33, .invokevirtual 44, .aload 0, .getfield 34, .aload 1, .getfield 34, .invokevirtual 39, .aload 1, .getfield 35, .sipush 0, .aload 0, .getfield 35, .sipush 0, .aload 0, .getfield 35, .arraylength, .invokedynamic 0, .aload 1, .getfield 36, .sipush 0, .aload 0, .getfield 36, .sipush 0, .aload 0, .getfield 36, .arraylength, .invokedynamic 0, .aload 1, .getfield 37, .sipush 0, .aload 0, .getfield 37, .sipush 0, .aload 0, .getfield 37, .arraylength, .invokedynamic 0, .aload 0, .aload 1, .getfield 38, .putfield 38, .aload 0, .aload 1, .getfield 39, .putfield 39, .aload 0, .aload 1, .getfield 40, .putfield 40, .aload 0, .aload 1, .getfield 41, .putfield 41, .aload 0, .aload 1, .getfield 42, .putfield 42, .aload 0, .aload 1, .getfield 43, .putfield 43, .aload 0, .aload 1, .getfield 44, .putfield 44, .return_]
def bk_8_0 : List Instr := [.sipush 0, .istore 2, .goto_w 1]
def bk_8_1 : List Instr := [.iload 2, .aload 0, .getfield 39, .if_icmp .ge 3, .aload 0, .getfield 37, .iload 2, .iaload, .iload 1, .if_icmp .ne 2, .iload 2, .ireturn]
def bk_8_2 : List Instr := [.iinc 2 1, .goto 1]
def bk_8_3 : List Instr := [.sipush (-1), .ireturn]
def bk_9_0 : List Instr := [.aload 0, .invokedynamic 1, .aload 0, .sipush 0, .putfield 64, .aload 0, .sipush 0, .putfield 65, .aload 0, .sipush 5, .newarray .int, .putfield 66, .aload 0, .sipush 5, .newarray .int, .putfield 67, .aload 0, .sipush 5, .newarray .int, .putfield 68, .aload 0, .sipush 5, .newarray .int, .putfield 69, .aload 0, .sipush 5, .newarray .int, .putfield 70, .aload 0, .sipush 5, .newarray .int, .putfield 71, .aload 0, .sipush 5, .newarray .int, .putfield 72, .aload 0, .sipush 5, .newarray .int, .putfield 73, .aload 0, .sipush 40, .newarray .int, .putfield 74, .aload 0, .sipush 48, .newarray .int, .putfield 75, .aload 0, .sipush 8, .newarray .int, .putfield 76, .return_]
def bk_10_0 : List Instr := [.aload 0, .aload 1, .getfield 64, .putfield 64, .aload 0, .aload 1, .getfield 65, .putfield 65, .aload 1, .getfield 66, .sipush 0, .aload 0, .getfield 66, .sipush 0, .aload 0, .getfield 66, .arraylength, .invokedynamic 0, .aload 1, .getfield 67, .sipush 0, .aload 0, .getfield 67, .sipush 0, .aload 0, .getfield 67, .arraylength, .invokedynamic 0, .aload 1, .getfield 68, .sipush 0, .aload 0, .getfield 68, .sipush 0, .aload 0, .getfield 68, .arraylength, .invokedynamic 0, .aload 1, .getfield 69, .sipush 0, .aload 0, .getfield 69, .sipush 0, .aload 0, .getfield 69, .arraylength, .invokedynamic 0, .aload 1, .getfield 70, .sipush 0, .aload 0, .getfield 70, .sipush 0, .aload 0, .getfield 70, .arraylength, .invokedynamic 0, .aload 1, .getfield 71, .sipush 0, .aload 0, .getfield 71, .sipush 0, .aload 0, .getfield 71, .arraylength, .invokedynamic 0, .aload 1, .getfield 72, .sipush 0, .aload 0, .getfield 72, .sipush 0, .aload 0, .getfield 72, .arraylength, .invokedynamic 0, .aload 1, .getfield 73, .sipush 0, .aload 0, .getfield 73, .sipush 0, .aload 0, .getfield 73, .arraylength, .invokedynamic 0, .aload 1, .getfield 74, .sipush 0, .aload 0, .getfield 74, .sipush 0, .aload 0, .getfield 74, .arraylength, .invokedynamic 0, .aload 1, .getfield 75, .sipush 0, .aload 0, .getfield 75, .sipush 0, .aload 0, .getfield 75, .arraylength, .invokedynamic 0, .aload 1, .getfield 76, .sipush 0, .aload 0, .getfield 76, .sipush 0, .aload 0, .getfield 76, .arraylength, .invokedynamic 0, .return_]
def bk_11_0 : List Instr := [.iload 0, .ifCond .lt 1, .iload 0, .getstatic 0, .arraylength, .if_icmp .ge 1, .sipush 1, .goto 2]
def bk_11_1 : List Instr := [.sipush 0, .goto_w 2]
def bk_11_2 : List Instr := [.ireturn]
def bk_12_0 : List Instr := [.iload 0, .ifCond .lt 1, .iload 0, .sipush 6, .if_icmp .ge 1, .iload 1, .getstatic 1, .iload 0, .iaload, .if_icmp .lt 1, .iload 1, .getstatic 2, .iload 0, .iaload, .if_icmp .gt 1, .sipush 1, .goto 2]
def bk_12_1 : List Instr := [.sipush 0, .goto_w 2]
def bk_12_2 : List Instr := [.ireturn]
def bk_13_0 : List Instr := [.iload 1, .ifCond .lt 1, .iload 1, .aload 0, .getfield 64, .if_icmp .ge 1, .sipush 1, .goto 2]
def bk_13_1 : List Instr := [.sipush 0, .goto_w 2]
def bk_13_2 : List Instr := [.ireturn]
def bk_14_0 : List Instr := [.iload 1, .ifCond .lt 1, .iload 1, .aload 0, .getfield 65, .if_icmp .ge 1, .sipush 1, .goto 2]
def bk_14_1 : List Instr := [.sipush 0, .goto_w 2]
def bk_14_2 : List Instr := [.ireturn]
def bk_15_0 : List Instr := [.aload 0, .getfield 64, .istore 5, .aload 0, .getfield 66, .iload 5, .iload 1, .iastore, .aload 0, .getfield 67, .iload 5, .iload 2, .iastore, .aload 0, .getfield 68, .iload 5, .iload 3, .iastore, .aload 0, .getfield 69, .iload 5, .iload 4, .iastore, .aload 0, .getfield 70, .iload 5, .sipush 100, .iastore, .aload 0, .getfield 71, .iload 5, .sipush 0, .iastore, .aload 0, .getfield 72, .iload 5, .sipush 0, .iastore, .aload 0, .getfield 73, .iload 5, .sipush 0, .iastore, .aload 0, .dup, .getfield 64, .sipush 1, .iadd, .putfield 64, .iload 5, .ireturn]
def bk_16_0 : List Instr := [.aload 0, .getfield 65, .istore 7, .iload 7, .sipush 6, .imul, .istore 8, .aload 0, .getfield 75, .iload 8, .sipush 0, .iadd, .iload 1, .iastore, .aload 0, .getfield 75, .iload 8, .sipush 1, .iadd, .iload 2, .iastore, .aload 0, .getfield 75, .iload 8, .sipush 2, .iadd, .iload 3, .iastore, .aload 0, .getfield 75, .iload 8, .sipush 3, .iadd, .iload 4, .iastore, .aload 0, .getfield 75, .iload 8, .sipush 4, .iadd, .iload 5, .iastore, .aload 0, .getfield 75, .iload 8, .sipush 5, .iadd, .iload 6, .iastore, .aload 0, .getfield 76, .iload 7, .sipush (-1), .iastore, .aload 0, .dup, .getfield 65, .sipush 1, .iadd, .putfield 65, .iload 7, .ireturn]
def bk_17_0 : List Instr := [.aload 0, .getfield 75, .iload 1, .sipush 6, .imul, .iload 2, .iadd, .iaload, .ireturn]
def bk_18_0 : List Instr := [.aload 0, .getfield 75, .iload 1, .sipush 6, .imul, .iload 2, .iadd, .iaload, .istore 4, .aload 0, .getfield 75, .iload 1, .sipush 6, .imul, .iload 2, .iadd, .iload 3, .iastore, .iload 4, .ireturn]
def bk_19_0 : List Instr := [.aload 0, .getfield 66, .iload 1, .iaload, .istore 3, .sipush 0, .istore 4, .goto_w 1]
def bk_19_1 : List Instr := [.iload 4, .getstatic 0, .arraylength, .if_icmp .ge 3, .iload 3, .sipush (-1), .if_icmp .eq 3, .iload 3, .iload 2, .if_icmp .ne 2, .sipush 1, .ireturn]
def bk_19_2 : List Instr := [.getstatic 0, .iload 3, .iaload, .istore 3, .iinc 4 1, .goto 1]
def bk_19_3 : List Instr := [.sipush 0, .ireturn]
def bk_20_0 : List Instr := [.aload 0, .getfield 66, .iload 1, .iaload, .sipush 1, .if_icmp .eq 1, .aload 0, .getfield 66, .iload 1, .iaload, .sipush 3, .if_icmp .ne 2, .goto_w 1]
def bk_20_1 : List Instr := [.sipush 1, .goto 3]
def bk_20_2 : List Instr := [.sipush 0, .goto_w 3]
def bk_20_3 : List Instr := [.ireturn]
def bk_21_0 : List Instr := [.aload 0, .getfield 66, .iload 1, .iaload, .sipush 3, .if_icmp .ne 1, .aload 0, .getfield 69, .iload 1, .iaload, .sipush 2, .idiv, .goto 2]
def bk_21_1 : List Instr := [.aload 0, .getfield 69, .iload 1, .iaload, .goto_w 2]
def bk_21_2 : List Instr := [.ireturn]
def bk_22_0 : List Instr := [.aload 0, .iload 1, .sipush 1, .invokevirtual 17, .aload 0, .getfield 68, .iload 2, .iaload, .if_icmp .gt 1, .aload 0, .iload 1, .sipush 2, .invokevirtual 17, .aload 0, .iload 2, .invokevirtual 21, .if_icmp .gt 1, .sipush 1, .goto 2]
def bk_22_1 : List Instr := [.sipush 0, .goto_w 2]
def bk_22_2 : List Instr := [.ireturn]
def bk_23_0 : List Instr := [.aload 0, .getfield 74, .iload 1, .sipush 8, .imul, .iload 2, .iadd, .iaload, .ireturn]
def bk_24_0 : List Instr := [.aload 0, .getfield 67, .iload 1, .iaload, .istore 2, .sipush 0, .istore 3, .goto_w 1]
def bk_24_1 : List Instr := [.iload 3, .aload 0, .getfield 73, .iload 1, .iaload, .if_icmp .ge 2, .iload 2, .aload 0, .aload 0, .iload 1, .iload 3, .invokevirtual 23, .sipush 0, .invokevirtual 17, .isub, .istore 2, .iinc 3 1, .goto 1]
def bk_24_2 : List Instr := [.iload 2, .ireturn]
def bk_25_0 : List Instr := [.aload 0, .getfield 72, .iload 1, .iaload, .ifCond .ne 1, .aload 0, .getfield 71, .iload 1, .iaload, .sipush 12, .if_icmp .lt 2, .goto_w 1]
def bk_25_1 : List Instr := [.sipush 1, .goto 3]
def bk_25_2 : List Instr := [.sipush 0, .goto_w 3]
def bk_25_3 : List Instr := [.ireturn]
def bk_26_0 : List Instr := [.aload 0, .getfield 76, .iload 1, .iaload, .istore 2, .iload 2, .sipush (-1), .if_icmp .eq 1, .aload 0, .getfield 73, .iload 2, .iaload, .ifCond .gt 2, .goto_w 1]
def bk_26_1 : List Instr := [.sipush 0, .ireturn]
def bk_26_2 : List Instr := [.aload 0, .iload 2, .aload 0, .getfield 73, .iload 2, .iaload, .sipush 1, .isub, .invokevirtual 23, .iload 1, .if_icmp .ne 3, .aload 0, .iload 2, .invokevirtual 25, .ifCond .ne 3, .sipush 1, .goto 4]
def bk_26_3 : List Instr := [.sipush 0, .goto_w 4]
def bk_26_4 : List Instr := [.ireturn]
def bk_27_0 : List Instr := [.aload 0, .getfield 76, .iload 1, .iaload, .sipush (-1), .if_icmp .eq 1, .sipush (-100007), .ireturn]
def bk_27_1 : List Instr := [.aload 0, .iload 1, .iload 2, .invokevirtual 22, .ifCond .ne 2, .sipush (-100004), .ireturn]
def bk_27_2 : List Instr := [.aload 0, .iload 2, .invokevirtual 25, .ifCond .eq 3, .sipush (-100008), .ireturn]
def bk_27_3 : List Instr := [.aload 0, .iload 1, .sipush 0, .invokevirtual 17, .aload 0, .iload 2, .invokevirtual 24, .if_icmp .le 4, .sipush (-100005), .goto 5]
def bk_27_4 : List Instr := [.sipush 0, .goto_w 5]
def bk_27_5 : List Instr := [.ireturn]
def bk_28_0 : List Instr := [.aload 0, .getfield 76, .iload 1, .iaload, .sipush (-1), .if_icmp .ne 1, .sipush (-100006), .ireturn]
def bk_28_1 : List Instr := [.aload 0, .getfield 76, .iload 1, .iaload, .iload 2, .if_icmp .ne 2, .sipush (-100007), .ireturn]
def bk_28_2 : List Instr := [.aload 0, .iload 1, .invokevirtual 26, .ifCond .eq 3, .aload 0, .iload 2, .invokevirtual 25, .ifCond .eq 4, .goto_w 3]
def bk_28_3 : List Instr := [.sipush (-100008), .ireturn]
def bk_28_4 : List Instr := [.aload 0, .iload 1, .iload 2, .invokevirtual 22, .ifCond .ne 5, .sipush (-100004), .ireturn]
def bk_28_5 : List Instr := [.aload 0, .iload 1, .sipush 0, .invokevirtual 17, .aload 0, .iload 2, .invokevirtual 24, .if_icmp .le 6, .sipush (-100005), .goto 7]
def bk_28_6 : List Instr := [.sipush 0, .goto_w 7]
def bk_28_7 : List Instr := [.ireturn]
def bk_29_0 : List Instr := [.aload 0, .getfield 73, .iload 2, .iaload, .sipush 8, .if_icmp .lt 1, .return_]
def bk_29_1 : List Instr := [.aload 0, .getfield 74, .iload 2, .sipush 8, .imul, .aload 0, .getfield 73, .iload 2, .iaload, .iadd, .iload 1, .iastore, .aload 0, .getfield 73, .iload 2, .dup2, .iaload, .sipush 1, .iadd, .iastore, .aload 0, .getfield 76, .iload 1, .iload 2, .iastore, .aload 0, .getfield 71, .iload 2, .dup2, .iaload, .aload 0, .iload 2, .invokevirtual 20, .iadd, .iastore, .return_]
def bk_30_0 : List Instr := [.aload 0, .getfield 76, .iload 1, .iaload, .istore 2, .aload 0, .getfield 73, .iload 2, .dup2, .iaload, .sipush 1, .isub, .iastore, .aload 0, .getfield 76, .iload 1, .sipush (-1), .iastore, .aload 0, .getfield 71, .iload 2, .dup2, .iaload, .aload 0, .iload 2, .invokevirtual 20, .iadd, .iastore, .return_]
def bk_31_0 : List Instr := [.aload 0, .iload 1, .invokevirtual 30, .aload 0, .iload 1, .iload 2, .invokevirtual 29, .return_]
def bk_32_0 : List Instr := [.aload 0, .getfield 76, .iload 1, .iaload, .istore 3, .aload 0, .iload 1, .iload 2, .invokevirtual 31, .aload 0, .getfield 71, .iload 3, .dup2, .iaload, .sipush 2, .aload 0, .iload 3, .invokevirtual 20, .imul, .isub, .iastore, .aload 0, .getfield 71, .iload 2, .dup2, .iaload, .sipush 2, .aload 0, .iload 2, .invokevirtual 20, .imul, .isub, .iastore, .return_]
def bk_33_0 : List Instr := [.sipush 0, .istore 1, .sipush 0, .istore 2, .goto_w 1]
def bk_33_1 : List Instr := [.iload 2, .aload 0, .getfield 64, .if_icmp .ge 2, .iload 1, .aload 0, .getfield 71, .iload 2, .iaload, .iadd, .istore 1, .aload 0, .getfield 71, .iload 2, .sipush 0, .iastore, .iinc 2 1, .goto 1]
def bk_33_2 : List Instr := [.iload 1, .ireturn]
def bk_34_0 : List Instr := [.sipush 0, .istore 2, .aload 0, .getfield 76, .iload 1, .iaload, .istore 3, .iload 3, .sipush (-1), .if_icmp .ne 1, .iload 2, .ireturn]
def bk_34_1 : List Instr := [.aload 0, .getfield 73, .iload 3, .iaload, .sipush 1, .isub, .istore 4, .goto_w 2]
def bk_34_2 : List Instr := [.iload 4, .ifCond .lt 3, .aload 0, .iload 3, .iload 4, .invokevirtual 23, .iload 1, .if_icmp .eq 3, .iload 2, .sipush 1, .aload 0, .iload 3, .iload 4, .invokevirtual 23, .ishl, .ior, .istore 2, .iinc 4 (-1), .goto 2]
def bk_34_3 : List Instr := [.iload 2, .ireturn]
def bk_35_0 : List Instr := [.sipush 0, .istore 1, .sipush 0, .istore 2, .goto_w 1]
def bk_35_1 : List Instr := [.iload 2, .aload 0, .getfield 64, .if_icmp .ge 2, .iload 1, .aload 0, .getfield 73, .iload 2, .iaload, .iadd, .istore 1, .iinc 2 1, .goto 1]
def bk_35_2 : List Instr := [.iload 1, .ireturn]
def bk_36_0 : List Instr := [.sipush 0, .istore 2, .sipush 1, .istore 3, .goto_w 1]
def bk_36_1 : List Instr := [.iload 3, .aload 0, .getfield 73, .iload 1, .iaload, .if_icmp .ge 6, .aload 0, .aload 0, .iload 1, .iload 3, .invokevirtual 23, .sipush 3, .invokevirtual 17, .istore 4, .sipush 0, .istore 5, .goto_w 2]
def bk_36_2 : List Instr := [.iload 5, .iload 3, .if_icmp .ge 5, .iload 2, .iload 4, .aload 0, .aload 0, .iload 1, .iload 5, .invokevirtual 23, .sipush 3, .invokevirtual 17, .if_icmp .le 3, .sipush 2, .goto 4]
def bk_36_3 : List Instr := [.sipush 0, .goto_w 4]
def bk_36_4 : List Instr := [.iadd, .istore 2, .iinc 5 1, .goto 2]
def bk_36_5 : List Instr := [.iinc 3 1, .goto 1]
def bk_36_6 : List Instr := [.iload 2, .ireturn]
def bk_37_0 : List Instr := [.aload 0, .getfield 66, .iload 1, .iaload, .sipush 2, .if_icmp .ne 1, .sipush 0, .aload 0, .getfield 70, .iload 1, .iaload, .sipush 60, .isub, .invokestatic 236, .goto 2]
def bk_37_1 : List Instr := [.aload 0, .getfield 70, .iload 1, .iaload, .goto_w 2]
def bk_37_2 : List Instr := [.ireturn]
def bk_38_0 : List Instr := [.aload 0, .invokedynamic 1, .aload 0, .sipush 0, .putfield 96, .aload 0, .sipush 30, .newarray .int, .putfield 97, .aload 0, .sipush 30, .newarray .int, .putfield 98, .aload 0, .sipush 30, .newarray .int, .putfield 99, .return_]
def bk_39_0 : List Instr := [.aload 0, .aload 1, .getfield 96, .putfield 96, .aload 1, .getfield 97, .sipush 0, .aload 0, .getfield 97, .sipush 0, .aload 0, .getfield 97, .arraylength, .invokedynamic 0, .aload 1, .getfield 98, .sipush 0, .aload 0, .getfield 98, .sipush 0, .aload 0, .getfield 98, .arraylength, .invokedynamic 0, .aload 1, .getfield 99, .sipush 0, .aload 0, .getfield 99, .sipush 0, .aload 0, .getfield 99, .arraylength, .invokedynamic 0, .return_]
def bk_40_0 : List Instr := [.aload 0, .getfield 97, .aload 0, .getfield 96, .iload 1, .iastore, .aload 0, .getfield 98, .aload 0, .getfield 96, .iload 2, .iastore, .aload 0, .getfield 99, .aload 0, .getfield 96, .iload 3, .ifCond .eq 1, .sipush 1, .goto 2]
def bk_40_1 : List Instr := [.sipush 0, .goto_w 2]
def bk_40_2 : List Instr := [.iastore, .aload 0, .dup, .getfield 96, .sipush 1, .iadd, .putfield 96, .return_]
def bk_41_0 : List Instr := [.sipush (-1), .istore 4, .sipush 0, .istore 5, .sipush 0, .istore 6, .goto_w 1]
def bk_41_1 : List Instr := [.iload 6, .iload 3, .if_icmp .ge 5, .iload 6, .aload 0, .getfield 96, .if_icmp .ge 5, .aload 0, .getfield 97, .iload 6, .iaload, .iload 1, .if_icmp .ne 4, .aload 0, .getfield 98, .iload 6, .iaload, .iload 2, .if_icmp .gt 4, .aload 0, .getfield 98, .iload 6, .iaload, .iload 4, .if_icmp .lt 4, .aload 0, .getfield 98, .iload 6, .iaload, .istore 4, .aload 0, .getfield 99, .iload 6, .iaload, .ifCond .eq 2, .sipush 1, .goto 3]
def bk_41_2 : List Instr := [.sipush 0, .goto_w 3]
def bk_41_3 : List Instr := [.istore 5, .goto_w 4]
def bk_41_4 : List Instr := [.iinc 6 1, .goto 1]
def bk_41_5 : List Instr := [.iload 5, .ireturn]
def bk_42_0 : List Instr := [.sipush 0, .istore 3, .sipush 0, .istore 4, .goto_w 1]
def bk_42_1 : List Instr := [.iload 4, .iload 1, .if_icmp .ge 4, .iload 3, .aload 0, .iload 4, .iload 2, .aload 0, .getfield 96, .invokevirtual 41, .ifCond .eq 2, .sipush 1, .iload 4, .ishl, .goto 3]
def bk_42_2 : List Instr := [.sipush 0, .goto_w 3]
def bk_42_3 : List Instr := [.ior, .istore 3, .iinc 4 1, .goto 1]
def bk_42_4 : List Instr := [.iload 3, .ireturn]
def bk_43_0 : List Instr := [.aload 0, .invokedynamic 1, .aload 0, .sipush 0, .putfield 128, .aload 0, .sipush 60, .newarray .int, .putfield 129, .aload 0, .sipush 60, .newarray .int, .putfield 130, .return_]
def bk_44_0 : List Instr := [.aload 0, .aload 1, .getfield 128, .putfield 128, .aload 1, .getfield 129, .sipush 0, .aload 0, .getfield 129, .sipush 0, .aload 0, .getfield 129, .arraylength, .invokedynamic 0, .aload 1, .getfield 130, .sipush 0, .aload 0, .getfield 130, .sipush 0, .aload 0, .getfield 130, .arraylength, .invokedynamic 0, .return_]
def bk_45_0 : List Instr := [.aload 0, .getfield 128, .sipush 60, .if_icmp .lt 1, .aload 0, .sipush 59, .putfield 128, .aload 0, .getfield 129, .sipush 1, .aload 0, .getfield 129, .sipush 0, .aload 0, .getfield 128, .invokedynamic 0, .aload 0, .getfield 130, .sipush 1, .aload 0, .getfield 130, .sipush 0, .aload 0, .getfield 128, .invokedynamic 0, .goto_w 1]
def bk_45_1 : List Instr := [.aload 0, .getfield 129, .aload 0, .getfield 128, .iload 1, .iastore, .aload 0, .getfield 130, .aload 0, .getfield 128, .iload 2, .iastore, .aload 0, .dup, .getfield 128, .sipush 1, .iadd, .putfield 128, .return_]
def bk_46_0 : List Instr := [.aload 0, .iload 1, .invokevirtual 47, .istore 4, .iload 4, .sipush (-1), .if_icmp .ne 1, .sipush (-1), .goto 2]
def bk_46_1 : List Instr := [.aload 0, .iload 1, .iload 4, .invokevirtual 48, .goto_w 2]
def bk_46_2 : List Instr := [.istore 5, .iload 5, .sipush (-1), .if_icmp .ne 3, .sipush (-1), .ireturn]
def bk_46_3 : List Instr := [.sipush 0, .istore 6, .sipush 0, .istore 7, .goto_w 4]
def bk_46_4 : List Instr := [.iload 7, .sipush 4, .if_icmp .ge 5, .iload 6, .aload 0, .iload 7, .iload 1, .iload 4, .iload 5, .invokevirtual 49, .iadd, .istore 6, .iinc 7 1, .goto 4]
def bk_46_5 : List Instr := [.iload 6, .ifCond .gt 6, .sipush (-1), .ireturn]
def bk_46_6 : List Instr := [.iload 3, .istore 7, .sipush (-1), .istore 8, .sipush 3, .istore 9, .goto_w 7]
def bk_46_7 : List Instr := [.iload 9, .ifCond .lt 10, .aload 0, .iload 9, .iload 1, .iload 4, .iload 5, .invokevirtual 49, .istore 10, .iload 7, .iload 3, .iload 10, .imul, .iload 6, .idiv, .isub, .istore 7, .iload 10, .ifCond .le 8, .iload 9, .goto 9]
def bk_46_8 : List Instr := [.iload 8, .goto_w 9]
def bk_46_9 : List Instr := [.istore 8, .iinc 9 (-1), .goto 7]
def bk_46_10 : List Instr := [.iload 3, .aload 0, .iload 2, .iload 1, .iload 4, .iload 5, .invokevirtual 49, .imul, .iload 6, .idiv, .istore 9, .iload 2, .iload 8, .if_icmp .ne 11, .iload 9, .iload 7, .iadd, .goto 12]
def bk_46_11 : List Instr := [.iload 9, .goto_w 12]
def bk_46_12 : List Instr := [.ireturn]
def bk_47_0 : List Instr := [.aload 0, .getfield 128, .sipush 1, .isub, .istore 2, .goto_w 1]
def bk_47_1 : List Instr := [.iload 2, .ifCond .lt 3, .aload 0, .getfield 129, .iload 2, .iaload, .iload 1, .if_icmp .ne 2, .aload 0, .getfield 130, .iload 2, .iaload, .sipush 4, .if_icmp .ne 2, .iload 2, .ireturn]
def bk_47_2 : List Instr := [.iinc 2 (-1), .goto 1]
def bk_47_3 : List Instr := [.sipush (-1), .ireturn]
def bk_48_0 : List Instr := [.iload 2, .sipush 1, .iadd, .istore 3, .goto_w 1]
def bk_48_1 : List Instr := [.iload 3, .aload 0, .getfield 128, .if_icmp .ge 3, .aload 0, .getfield 129, .iload 3, .iaload, .iload 1, .if_icmp .ne 2, .aload 0, .getfield 130, .iload 3, .iaload, .sipush 5, .if_icmp .ne 2, .iload 3, .ireturn]
def bk_48_2 : List Instr := [.iinc 3 1, .goto 1]
def bk_48_3 : List Instr := [.sipush (-1), .ireturn]
def bk_49_0 : List Instr := [.sipush 0, .istore 5, .iload 3, .sipush 1, .iadd, .istore 6, .goto_w 1]
def bk_49_1 : List Instr := [.iload 6, .iload 4, .if_icmp .ge 4, .iload 5, .aload 0, .getfield 129, .iload 6, .iaload, .iload 2, .if_icmp .ne 2, .aload 0, .getfield 130, .iload 6, .iaload, .iload 1, .if_icmp .ne 2, .sipush 1, .goto 3]
def bk_49_2 : List Instr := [.sipush 0, .goto_w 3]
def bk_49_3 : List Instr := [.iadd, .istore 5, .iinc 6 1, .goto 1]
def bk_49_4 : List Instr := [.iload 5, .ireturn]
def bk_50_0 : List Instr := [.aload 0, .invokedynamic 1, .aload 0, .sipush 7, .newarray .int, .putfield 160, .aload 0, .sipush 7, .newarray .int, .putfield 161, .aload 0, .sipush 5, .newarray .int, .putfield 162, .aload 0, .sipush (-1), .putfield 163, .return_]
def bk_51_0 : List Instr := [.aload 0, .sipush (-1), .putfield 163, .aload 0, .getfield 162, .sipush 0, .invokestatic 239, .aload 0, .aload 1, .sipush 0, .sipush 0, .invokevirtual 52, .aload 0, .getfield 163, .ireturn]
def bk_52_0 : List Instr := [.aload 0, .getfield 163, .sipush (-1), .if_icmp .eq 1, .iload 3, .aload 0, .getfield 163, .if_icmp .lt 1, .return_]
def bk_52_1 : List Instr := [.iload 2, .aload 1, .getfield 39, .if_icmp .lt 2, .aload 0, .iload 3, .putfield 163, .aload 0, .getfield 161, .sipush 0, .aload 0, .getfield 160, .sipush 0, .aload 0, .getfield 160, .arraylength, .invokedynamic 0, .return_]
def bk_52_2 : List Instr := [.aload 1, .getfield 32, .astore 4, .aload 1, .getfield 37, .iload 2, .iaload, .istore 5, .aload 4, .iload 5, .sipush 0, .invokevirtual 17, .istore 6, .sipush 0, .istore 7, .goto_w 3]
def bk_52_3 : List Instr := [.iload 7, .aload 4, .getfield 64, .if_icmp .ge 6, .aload 0, .getfield 162, .iload 7, .iaload, .iload 6, .iadd, .aload 4, .getfield 67, .iload 7, .iaload, .if_icmp .gt 5, .aload 4, .iload 5, .iload 7, .invokevirtual 22, .ifCond .ne 4, .goto 5]
def bk_52_4 : List Instr := [.aload 0, .getfield 161, .iload 2, .iload 7, .iastore, .aload 0, .getfield 162, .iload 7, .dup2, .iaload, .iload 6, .iadd, .iastore, .aload 0, .aload 1, .iload 2, .sipush 1, .iadd, .iload 3, .aload 0, .aload 1, .iload 2, .invokevirtual 53, .iadd, .invokevirtual 52, .aload 0, .getfield 162, .iload 7, .dup2, .iaload, .iload 6, .isub, .iastore, .goto_w 5]
def bk_52_5 : List Instr := [.iinc 7 1, .goto 3]
def bk_52_6 : List Instr := [.return_]
def bk_53_0 : List Instr := [.aload 1, .getfield 32, .aload 1, .getfield 37, .iload 2, .iaload, .sipush 3, .invokevirtual 17, .istore 3, .sipush 0, .istore 4, .sipush 0, .istore 5, .goto_w 1]
def bk_53_1 : List Instr := [.iload 5, .iload 2, .if_icmp .ge 6, .aload 0, .getfield 161, .iload 5, .iaload, .aload 0, .getfield 161, .iload 2, .iaload, .if_icmp .ne 2, .iload 3, .aload 1, .getfield 32, .aload 1, .getfield 37, .iload 5, .iaload, .sipush 3, .invokevirtual 17, .if_icmp .le 2, .sipush 1, .goto 3]
def bk_53_2 : List Instr := [.sipush 0, .goto_w 3]
def bk_53_3 : List Instr := [.istore 6, .iload 4, .iload 6, .ifCond .eq 4, .sipush 2, .goto 5]
def bk_53_4 : List Instr := [.sipush 0, .goto_w 5]
def bk_53_5 : List Instr := [.iadd, .istore 4, .iinc 5 1, .goto 1]
def bk_53_6 : List Instr := [.iload 4, .ireturn]
def bk_54_0 : List Instr := [.aload 0, .invokedynamic 1, .aload 0, .sipush 5, .newarray .int, .putfield 192, .aload 0, .sipush 5, .newarray .int, .putfield 193, .aload 0, .sipush (-1), .putfield 194, .return_]
def bk_55_0 : List Instr := [.aload 0, .sipush (-1), .putfield 194, .aload 0, .aload 1, .iload 2, .sipush 0, .sipush 0, .sipush 0, .invokevirtual 56, .aload 0, .getfield 194, .ireturn]
def bk_56_0 : List Instr := [.iload 3, .sipush 5, .if_icmp .lt 2, .iload 5, .aload 0, .getfield 194, .if_icmp .le 1, .aload 0, .iload 5, .putfield 194, .aload 0, .getfield 193, .sipush 0, .aload 0, .getfield 192, .sipush 0, .aload 0, .getfield 192, .arraylength, .invokedynamic 0, .goto_w 1]
def bk_56_1 : List Instr := [.return_]
def bk_56_2 : List Instr := [.iload 3, .iload 2, .if_icmp .ne 3, .aload 0, .aload 1, .iload 2, .iload 3, .sipush 1, .iadd, .iload 4, .iload 5, .invokevirtual 56, .return_]
def bk_56_3 : List Instr := [.sipush 0, .istore 6, .goto_w 4]
def bk_56_4 : List Instr := [.iload 6, .sipush 5, .if_icmp .ge 6, .iload 4, .iload 6, .ishr, .sipush 1, .iand, .ifCond .ne 5, .aload 0, .getfield 193, .iload 3, .iload 6, .iastore, .aload 0, .aload 1, .iload 2, .iload 3, .sipush 1, .iadd, .iload 4, .sipush 1, .iload 6, .ishl, .ior, .iload 5, .aload 1, .iload 3, .sipush 5, .imul, .iload 6, .iadd, .iaload, .iadd, .invokevirtual 56, .goto_w 5]
def bk_56_5 : List Instr := [.iinc 6 1, .goto 4]
def bk_56_6 : List Instr := [.return_]
def bk_57_0 : List Instr := [.aload 0, .aload 1, .sipush (-1), .invokevirtual 55, .istore 3, .iload 3, .aload 1, .iload 2, .sipush 5, .imul, .aload 0, .getfield 192, .iload 2, .iaload, .iadd, .iaload, .isub, .istore 4, .aload 0, .aload 1, .iload 2, .invokevirtual 55, .iload 4, .isub, .ireturn]
def bk_58_0 : List Instr := [.aload 0, .invokedynamic 1, .aload 0, .sipush 8, .newarray .int, .putfield 224, .aload 0, .sipush 0, .putfield 225, .aload 0, .sipush 8, .newarray .int, .putfield 226, .aload 0, .sipush 5, .newarray .int, .putfield 227, .aload 0, .sipush (-1), .putfield 228, .return_]
def bk_59_0 : List Instr := [.aload 0, .sipush (-1), .putfield 228, .sipush 0, .istore 3, .goto_w 1]
def bk_59_1 : List Instr := [.iload 3, .aload 1, .getfield 64, .if_icmp .ge 4, .aload 0, .getfield 227, .iload 3, .aload 1, .getfield 72, .iload 3, .iaload, .ifCond .eq 2, .sipush 0, .goto 3]
def bk_59_2 : List Instr := [.aload 1, .getfield 73, .iload 3, .iaload, .goto_w 3]
def bk_59_3 : List Instr := [.iastore, .iinc 3 1, .goto 1]
def bk_59_4 : List Instr := [.aload 0, .aload 1, .iload 2, .sipush 0, .sipush 0, .invokevirtual 60, .aload 0, .getfield 228, .ireturn]
def bk_60_0 : List Instr := [.iload 4, .aload 0, .getfield 228, .if_icmp .gt 1, .iload 4, .aload 0, .getfield 228, .if_icmp .ne 2, .iload 3, .aload 0, .getfield 225, .if_icmp .ge 2, .goto_w 1]
def bk_60_1 : List Instr := [.aload 0, .iload 4, .putfield 228, .aload 0, .iload 3, .putfield 225, .aload 0, .getfield 226, .sipush 0, .aload 0, .getfield 224, .sipush 0, .aload 0, .getfield 224, .arraylength, .invokedynamic 0, .goto_w 2]
def bk_60_2 : List Instr := [.iload 3, .sipush 8, .if_icmp .lt 3, .return_]
def bk_60_3 : List Instr := [.iload 2, .iload 3, .sipush 1, .iadd, .imul, .istore 5, .sipush 0, .istore 6, .goto_w 4]
def bk_60_4 : List Instr := [.iload 6, .aload 1, .getfield 64, .if_icmp .ge 7, .aload 0, .getfield 227, .iload 6, .iaload, .ifCond .le 6, .aload 1, .iload 6, .invokevirtual 37, .iload 5, .if_icmp .ge 5, .goto 6]
def bk_60_5 : List Instr := [.aload 0, .getfield 227, .iload 6, .dup2, .iaload, .sipush 1, .isub, .iastore, .aload 1, .iload 6, .aload 0, .getfield 227, .iload 6, .iaload, .invokevirtual 23, .istore 7, .aload 0, .getfield 226, .iload 3, .iload 7, .iastore, .aload 0, .aload 1, .iload 2, .iload 3, .sipush 1, .iadd, .iload 4, .aload 1, .iload 7, .sipush 5, .invokevirtual 17, .iadd, .invokevirtual 60, .aload 0, .getfield 227, .iload 6, .dup2, .iaload, .sipush 1, .iadd, .iastore, .goto_w 6]
def bk_60_6 : List Instr := [.iinc 6 1, .goto 4]
def bk_60_7 : List Instr := [.return_]
def bk_61_0 : List Instr := [.aload 0, .invokedynamic 1, .aload 0, .sipush 5, .newarray .int, .putfield 256, .aload 0, .sipush 7, .newarray .int, .putfield 257, .return_]
def bk_62_0 : List Instr := [.iload 0, .sipush 1, .if_icmp .lt 1, .iload 0, .sipush 6, .if_icmp .le 3, .goto_w 1]
def bk_62_1 : List Instr := [.iload 0, .sipush 10, .if_icmp .lt 2, .iload 0, .sipush 34, .if_icmp .lt 3, .goto_w 2]
def bk_62_2 : List Instr := [.iload 0, .sipush 40, .if_icmp .lt 4, .iload 0, .sipush 44, .if_icmp .gt 4, .goto_w 3]
def bk_62_3 : List Instr := [.sipush 1, .goto 5]
def bk_62_4 : List Instr := [.sipush 0, .goto_w 5]
def bk_62_5 : List Instr := [.ireturn]
def bk_63_0 : List Instr := [.aload 0, .getfield 257, .sipush 1, .iload 1, .iastore, .aload 0, .getfield 257, .sipush 2, .iload 2, .iastore, .aload 0, .getfield 257, .sipush 3, .iload 3, .iastore, .aload 0, .getfield 257, .sipush 4, .iload 4, .iastore, .aload 0, .getfield 257, .sipush 5, .iload 5, .iastore, .aload 0, .getfield 257, .sipush 6, .iload 6, .iastore, .return_]
def bk_64_0 : List Instr := [.iload 2, .ifCond .eq 1, .aload 0, .aload 1, .iload 2, .invokevirtual 65, .sipush (-1), .if_icmp .ne 2, .aload 0, .getfield 256, .sipush 0, .iaload, .ifCond .eq 2, .goto_w 1]
def bk_64_1 : List Instr := [.sipush 1, .goto 3]
def bk_64_2 : List Instr := [.sipush 0, .goto_w 3]
def bk_64_3 : List Instr := [.ireturn]
def bk_65_0 : List Instr := [.sipush 0, .istore 3, .sipush 0, .istore 4, .goto_w 1]
def bk_65_1 : List Instr := [.iload 4, .iload 2, .if_icmp .ge 4, .aload 1, .iload 4, .iaload, .invokestatic 66, .istore 5, .iload 3, .iload 5, .isub, .istore 6, .iload 6, .ifCond .lt 2, .iload 6, .sipush 5, .if_icmp .lt 3, .goto_w 2]
def bk_65_2 : List Instr := [.iload 4, .ireturn]
def bk_65_3 : List Instr := [.aload 0, .getfield 256, .iload 6, .aload 0, .aload 1, .iload 4, .iaload, .iload 6, .invokevirtual 67, .iastore, .iload 6, .sipush 1, .iadd, .istore 3, .iinc 4 1, .goto 1]
def bk_65_4 : List Instr := [.iload 2, .ifCond .eq 5, .iload 3, .sipush 1, .if_icmp .ne 6, .goto_w 5]
def bk_65_5 : List Instr := [.sipush (-1), .goto 7]
def bk_65_6 : List Instr := [.iload 2, .goto_w 7]
def bk_65_7 : List Instr := [.ireturn]
def bk_66_0 : List Instr := [.iload 0, .sipush 40, .if_icmp .ge 1, .sipush 0, .ireturn]
def bk_66_1 : List Instr := [.iload 0, .sipush 42, .if_icmp .ne 2, .sipush 1, .goto 3]
def bk_66_2 : List Instr := [.sipush 2, .goto_w 3]
def bk_66_3 : List Instr := [.ireturn]
def bk_67_0 : List Instr := [.iload 1, .sipush 40, .if_icmp .ge 3, .iload 1, .sipush 10, .if_icmp .lt 1, .iload 1, .sipush 10, .isub, .goto 2]
def bk_67_1 : List Instr := [.aload 0, .iload 1, .invokevirtual 68, .goto_w 2]
def bk_67_2 : List Instr := [.ireturn]
def bk_67_3 : List Instr := [.aload 0, .getfield 256, .iload 2, .iaload, .istore 3, .iload 1, .sipush 42, .if_icmp .ne 6, .iload 3, .ifCond .ne 4, .sipush 1, .goto 5]
def bk_67_4 : List Instr := [.sipush 0, .goto_w 5]
def bk_67_5 : List Instr := [.ireturn]
def bk_67_6 : List Instr := [.iload 2, .sipush 1, .iadd, .sipush 5, .if_icmp .ge 7, .aload 0, .getfield 256, .iload 2, .sipush 1, .iadd, .iaload, .goto 8]
def bk_67_7 : List Instr := [.sipush 0, .goto_w 8]
def bk_67_8 : List Instr := [.istore 4, .iload 1, .iload 3, .iload 4, .invokestatic 69, .ifCond .eq 9, .sipush 1, .goto 10]
def bk_67_9 : List Instr := [.sipush 0, .goto_w 10]
def bk_67_10 : List Instr := [.ireturn]
def bk_68_0 : List Instr := [.iload 1, .sipush 1, .if_icmp .lt 1, .iload 1, .sipush 6, .if_icmp .gt 1, .aload 0, .getfield 257, .iload 1, .iaload, .goto 2]
def bk_68_1 : List Instr := [.sipush 0, .goto_w 2]
def bk_68_2 : List Instr := [.ireturn]
def bk_69_0 : List Instr := [.iload 0, .tableswitch 10 40 43 #[1, 4, 10, 7]]
def bk_69_1 : List Instr := [.iload 1, .iload 2, .if_icmp .ge 2, .sipush 1, .goto 3]
def bk_69_2 : List Instr := [.sipush 0, .goto_w 3]
def bk_69_3 : List Instr := [.ireturn]
def bk_69_4 : List Instr := [.iload 1, .iload 2, .if_icmp .ne 5, .sipush 1, .goto 6]
def bk_69_5 : List Instr := [.sipush 0, .goto_w 6]
def bk_69_6 : List Instr := [.ireturn]
def bk_69_7 : List Instr := [.iload 1, .ifCond .eq 8, .iload 2, .ifCond .eq 8, .sipush 1, .goto 9]
def bk_69_8 : List Instr := [.sipush 0, .goto_w 9]
def bk_69_9 : List Instr := [.ireturn]
def bk_69_10 : List Instr := [.iload 1, .ifCond .ne 11, .iload 2, .ifCond .eq 12, .goto_w 11]
def bk_69_11 : List Instr := [.sipush 1, .goto 13]
def bk_69_12 : List Instr := [.sipush 0, .goto_w 13]
def bk_69_13 : List Instr := [.ireturn]
def bk_70_0 : List Instr := [.aload 0, .invokedynamic 1, .aload 0, .sipush 4, .newarray .int, .putfield 288, .aload 0, .sipush 4, .newarray .int, .putfield 289, .aload 0, .sipush 80, .newarray .int, .putfield 290, .return_]
def bk_71_0 : List Instr := [.iload 1, .ifCond .lt 1, .iload 1, .sipush 4, .if_icmp .ge 1, .sipush 1, .goto 2]
def bk_71_1 : List Instr := [.sipush 0, .goto_w 2]
def bk_71_2 : List Instr := [.ireturn]
def bk_72_0 : List Instr := [.aload 0, .getfield 288, .iload 1, .iaload, .ifCond .ne 1, .sipush 1, .goto 2]
def bk_72_1 : List Instr := [.sipush 0, .goto_w 2]
def bk_72_2 : List Instr := [.ireturn]
def bk_73_0 : List Instr := [.aload 0, .getfield 288, .iload 1, .iload 2, .iastore, .aload 0, .getfield 289, .iload 1, .iload 3, .iastore, .aload 0, .getfield 290, .iload 1, .sipush 20, .imul, .iload 1, .sipush 1, .iadd, .sipush 20, .imul, .sipush 0, .invokestatic 240, .return_]
def bk_74_0 : List Instr := [.aload 0, .getfield 290, .iload 1, .sipush 20, .imul, .iload 2, .iadd, .iaload, .ireturn]
def bk_75_0 : List Instr := [.aload 0, .getfield 290, .iload 1, .sipush 20, .imul, .iload 2, .iadd, .aload 0, .getfield 288, .iload 1, .iaload, .sipush 32, .if_icmp .ne 1, .iload 3, .goto 2]
def bk_75_1 : List Instr := [.iload 3, .sipush 1, .aload 0, .getfield 288, .iload 1, .iaload, .ishl, .sipush 1, .isub, .iand, .goto_w 2]
def bk_75_2 : List Instr := [.iastore, .return_]
def bk_76_0 : List Instr := [.iload 2, .ifCond .lt 1, .iload 3, .ifCond .lt 1, .iload 2, .aload 0, .getfield 289, .iload 1, .iaload, .if_icmp .gt 1, .iload 3, .aload 0, .getfield 289, .iload 1, .iaload, .iload 2, .isub, .if_icmp .gt 1, .sipush 1, .goto 2]
def bk_76_1 : List Instr := [.sipush 0, .goto_w 2]
def bk_76_2 : List Instr := [.ireturn]
def bk_77_0 : List Instr := [.aload 0, .getfield 290, .iload 1, .sipush 20, .imul, .iload 2, .iadd, .aload 0, .getfield 290, .iload 3, .sipush 20, .imul, .iload 4, .iadd, .iload 5, .invokedynamic 0, .return_]
def bk_78_0 : List Instr := [.aload 0, .invokedynamic 1, .aload 0, .sipush 3, .newarray .int, .putfield 320, .aload 0, .new 2, .dup, .invokespecial 9, .putfield 321, .aload 0, .sipush 0, .putfield 322, .return_]
def bk_79_0 : List Instr := [.aload 0, .getfield 321, .aload 1, .invokevirtual 10, .aload 0, .iload 2, .putfield 322, .return_]
def bk_80_0 : List Instr := [.aload 0, .getfield 321, .iload 1, .invokevirtual 26, .ireturn]
def bk_81_0 : List Instr := [.aload 0, .aload 1, .iload 3, .invokevirtual 79, .sipush 0, .istore 4, .goto_w 1]
def bk_81_1 : List Instr := [.iload 4, .sipush 3, .if_icmp .gt 3, .aload 0, .iload 2, .sipush 0, .iload 4, .invokevirtual 82, .ifCond .eq 2, .iload 4, .ireturn]
def bk_81_2 : List Instr := [.iinc 4 1, .goto 1]
def bk_81_3 : List Instr := [.sipush (-1), .ireturn]
def bk_82_0 : List Instr := [.iload 2, .iload 3, .if_icmp .lt 1, .aload 0, .iload 1, .invokevirtual 80, .ireturn]
def bk_82_1 : List Instr := [.aload 0, .getfield 321, .iload 1, .invokevirtual 34, .invokestatic 235, .iload 3, .iload 2, .isub, .if_icmp .le 2, .sipush 0, .ireturn]
def bk_82_2 : List Instr := [.sipush 0, .istore 4, .goto_w 3]
def bk_82_3 : List Instr := [.iload 4, .aload 0, .getfield 321, .getfield 65, .if_icmp .ge 8, .aload 0, .getfield 321, .getfield 76, .iload 4, .iaload, .istore 5, .sipush 0, .istore 6, .goto_w 4]
def bk_82_4 : List Instr := [.iload 6, .aload 0, .getfield 321, .getfield 64, .if_icmp .ge 7, .iload 4, .sipush 8, .imul, .iload 6, .iadd, .istore 7, .aload 0, .iload 1, .iload 7, .invokevirtual 83, .ifCond .ne 5, .goto 6]
def bk_82_5 : List Instr := [.aload 0, .getfield 320, .iload 2, .iload 7, .iastore, .aload 0, .iload 1, .iload 2, .sipush 1, .iadd, .iload 3, .invokevirtual 82, .istore 8, .aload 0, .getfield 321, .iload 4, .iload 5, .invokevirtual 32, .iload 8, .ifCond .eq 6, .sipush 1, .ireturn]
def bk_82_6 : List Instr := [.iinc 6 1, .goto 4]
def bk_82_7 : List Instr := [.iinc 4 1, .goto 3]
def bk_82_8 : List Instr := [.sipush 0, .ireturn]
def bk_83_0 : List Instr := [.iload 2, .ifCond .ge 1, .sipush 0, .ireturn]
def bk_83_1 : List Instr := [.iload 2, .sipush 8, .idiv, .istore 3, .iload 2, .sipush 8, .irem, .istore 4, .aload 0, .getfield 321, .iload 3, .invokevirtual 14, .ifCond .eq 2, .aload 0, .getfield 321, .iload 4, .invokevirtual 13, .ifCond .eq 2, .iload 3, .iload 1, .if_icmp .eq 2, .aload 0, .getfield 322, .iload 3, .ishr, .sipush 1, .iand, .ifCond .eq 2, .aload 0, .getfield 321, .iload 3, .iload 4, .invokevirtual 28, .ifCond .eq 3, .goto_w 2]
def bk_83_2 : List Instr := [.sipush 0, .ireturn]
def bk_83_3 : List Instr := [.aload 0, .getfield 321, .iload 3, .iload 4, .invokevirtual 31, .sipush 1, .ireturn]
def bk_84_0 : List Instr := [.aload 0, .invokedynamic 1, .aload 0, .new 1, .dup, .invokespecial 6, .putfield 352, .aload 0, .sipush 16, .anewarray 1, .putfield 353, .aload 0, .new 9, .dup, .invokespecial 70, .putfield 354, .aload 0, .new 10, .dup, .invokespecial 78, .putfield 355, .aload 0, .new 5, .dup, .invokespecial 50, .putfield 356, .aload 0, .new 0, .dup, .invokespecial 0, .putfield 357, .aload 0, .new 6, .dup, .invokespecial 54, .putfield 358, .aload 0, .new 8, .dup, .invokespecial 61, .putfield 359, .aload 0, .new 7, .dup, .invokespecial 58, .putfield 360, .aload 0, .sipush 0, .putfield 361, .aload 0, .sipush 0, .putfield 362, .aload 0, .sipush 0, .putfield 363, .sipush 0, .istore 1, .goto_w 1]
def bk_84_1 : List Instr := [.iload 1, .sipush 16, .if_icmp .ge 2, .aload 0, .getfield 353, .iload 1, .new 1, .dup, .invokespecial 6, .aastore, .iinc 1 1, .goto 1]
def bk_84_2 : List Instr := [.return_]
def bk_85_0 : List Instr := [.iload 1, .invokestatic 11, .ifCond .eq 1, .iload 2, .sipush 1, .sipush 30, .invokestatic 137, .ifCond .eq 1, .iload 3, .sipush 1, .sipush 30, .invokestatic 137, .ifCond .eq 1, .iload 4, .sipush 1, .sipush 99, .invokestatic 137, .ifCond .ne 2, .goto_w 1]
def bk_85_1 : List Instr := [.aload 0, .sipush (-100001), .invokevirtual 132, .ireturn]
def bk_85_2 : List Instr := [.aload 0, .getfield 352, .getfield 32, .getfield 64, .sipush 5, .if_icmp .lt 3, .aload 0, .sipush (-100005), .invokevirtual 132, .ireturn]
def bk_85_3 : List Instr := [.aload 0, .invokevirtual 133, .aload 0, .getfield 352, .getfield 32, .iload 1, .iload 2, .iload 3, .iload 4, .invokevirtual 15, .ireturn]
def bk_86_0 : List Instr := [.aload 0, .getfield 352, .getfield 32, .iload 1, .invokevirtual 13, .ifCond .eq 1, .iload 2, .invokestatic 11, .ifCond .ne 2, .goto_w 1]
def bk_86_1 : List Instr := [.aload 0, .sipush (-100001), .invokevirtual 132, .ireturn]
def bk_86_2 : List Instr := [.aload 0, .getfield 352, .getfield 32, .iload 1, .iload 2, .invokevirtual 19, .ifCond .eq 3, .iload 1, .goto 4]
def bk_86_3 : List Instr := [.aload 0, .sipush (-100004), .invokevirtual 132, .goto_w 4]
def bk_86_4 : List Instr := [.ireturn]
def bk_87_0 : List Instr := [.aload 0, .getfield 352, .getfield 32, .astore 3, .aload 3, .iload 1, .invokevirtual 13, .ifCond .ne 1, .aload 0, .sipush (-100001), .invokevirtual 132, .ireturn]
def bk_87_1 : List Instr := [.iload 2, .tableswitch 10 0 7 #[2, 3, 4, 5, 6, 7, 8, 9]]
def bk_87_2 : List Instr := [.aload 3, .getfield 66, .iload 1, .iaload, .ireturn]
def bk_87_3 : List Instr := [.aload 3, .getfield 67, .iload 1, .iaload, .ireturn]
def bk_87_4 : List Instr := [.aload 3, .getfield 68, .iload 1, .iaload, .ireturn]
def bk_87_5 : List Instr := [.aload 3, .iload 1, .invokevirtual 21, .ireturn]
def bk_87_6 : List Instr := [.aload 3, .getfield 73, .iload 1, .iaload, .ireturn]
def bk_87_7 : List Instr := [.aload 3, .iload 1, .invokevirtual 24, .ireturn]
def bk_87_8 : List Instr := [.aload 3, .getfield 71, .iload 1, .iaload, .ireturn]
def bk_87_9 : List Instr := [.aload 3, .getfield 72, .iload 1, .iaload, .ireturn]
def bk_87_10 : List Instr := [.aload 0, .sipush (-100001), .invokevirtual 132, .ireturn]
def bk_88_0 : List Instr := [.aload 0, .getfield 352, .getfield 32, .astore 3, .aload 3, .iload 1, .invokevirtual 13, .ifCond .ne 1, .aload 0, .sipush (-100001), .invokevirtual 132, .ireturn]
def bk_88_1 : List Instr := [.aload 3, .iload 1, .sipush 1, .invokevirtual 19, .ifCond .ne 2, .aload 0, .sipush (-100004), .invokevirtual 132, .ireturn]
def bk_88_2 : List Instr := [.aload 0, .invokevirtual 133, .aload 3, .getfield 72, .iload 1, .iaload, .istore 4, .aload 3, .getfield 72, .iload 1, .iload 2, .ifCond .eq 3, .sipush 1, .goto 4]
def bk_88_3 : List Instr := [.sipush 0, .goto_w 4]
def bk_88_4 : List Instr := [.iastore, .aload 3, .getfield 72, .iload 1, .iaload, .iload 4, .if_icmp .ne 5, .sipush 0, .goto 6]
def bk_88_5 : List Instr := [.sipush 1, .goto_w 6]
def bk_88_6 : List Instr := [.ireturn]
def bk_89_0 : List Instr := [.sipush 0, .iload 1, .invokestatic 12, .ifCond .eq 1, .sipush 1, .iload 2, .invokestatic 12, .ifCond .eq 1, .sipush 2, .iload 3, .invokestatic 12, .ifCond .eq 1, .sipush 3, .iload 4, .invokestatic 12, .ifCond .eq 1, .sipush 4, .iload 5, .invokestatic 12, .ifCond .eq 1, .sipush 5, .iload 6, .invokestatic 12, .ifCond .ne 2, .goto_w 1]
def bk_89_1 : List Instr := [.aload 0, .sipush (-100001), .invokevirtual 132, .ireturn]
def bk_89_2 : List Instr := [.aload 0, .getfield 352, .getfield 32, .getfield 65, .sipush 8, .if_icmp .lt 3, .aload 0, .sipush (-100005), .invokevirtual 132, .ireturn]
def bk_89_3 : List Instr := [.aload 0, .invokevirtual 133, .aload 0, .getfield 352, .getfield 32, .iload 1, .iload 2, .iload 3, .iload 4, .iload 5, .iload 6, .invokevirtual 16, .ireturn]
def bk_90_0 : List Instr := [.aload 0, .getfield 352, .getfield 32, .astore 3, .aload 3, .iload 1, .invokevirtual 14, .ifCond .eq 1, .iload 2, .sipush 0, .sipush 7, .invokestatic 137, .ifCond .ne 2, .goto_w 1]
def bk_90_1 : List Instr := [.aload 0, .sipush (-100001), .invokevirtual 132, .ireturn]
def bk_90_2 : List Instr := [.iload 2, .sipush 6, .if_icmp .ge 3, .aload 3, .iload 1, .iload 2, .invokevirtual 17, .ireturn]
def bk_90_3 : List Instr := [.iload 2, .sipush 6, .if_icmp .ne 4, .aload 3, .getfield 76, .iload 1, .iaload, .goto 5]
def bk_90_4 : List Instr := [.aload 3, .iload 1, .invokevirtual 34, .invokestatic 235, .goto_w 5]
def bk_90_5 : List Instr := [.ireturn]
def bk_91_0 : List Instr := [.aload 0, .getfield 352, .getfield 32, .iload 1, .invokevirtual 14, .ifCond .eq 1, .iload 2, .sipush 0, .sipush 2, .invokestatic 137, .ifCond .eq 1, .sipush 3, .iload 2, .iadd, .iload 3, .invokestatic 12, .ifCond .ne 2, .goto_w 1]
def bk_91_1 : List Instr := [.aload 0, .sipush (-100001), .invokevirtual 132, .ireturn]
def bk_91_2 : List Instr := [.aload 0, .invokevirtual 133, .aload 0, .getfield 352, .getfield 32, .iload 1, .sipush 3, .iload 2, .iadd, .iload 3, .invokevirtual 18, .ireturn]
def bk_92_0 : List Instr := [.aload 0, .getfield 352, .getfield 32, .astore 3, .aload 3, .iload 1, .invokevirtual 13, .ifCond .ne 1, .aload 0, .sipush (-100001), .invokevirtual 132, .ireturn]
def bk_92_1 : List Instr := [.iload 2, .ifCond .lt 2, .iload 2, .aload 3, .getfield 73, .iload 1, .iaload, .if_icmp .lt 3, .goto_w 2]
def bk_92_2 : List Instr := [.aload 0, .sipush (-100006), .invokevirtual 132, .ireturn]
def bk_92_3 : List Instr := [.aload 3, .iload 1, .iload 2, .invokevirtual 23, .ireturn]
def bk_93_0 : List Instr := [.aload 0, .getfield 352, .getfield 32, .iload 1, .invokevirtual 14, .ifCond .eq 1, .aload 0, .getfield 352, .getfield 32, .iload 2, .invokevirtual 13, .ifCond .ne 2, .goto_w 1]
def bk_93_1 : List Instr := [.aload 0, .sipush (-100001), .invokevirtual 132, .ireturn]
def bk_93_2 : List Instr := [.aload 0, .getfield 352, .getfield 32, .iload 1, .iload 2, .invokevirtual 22, .ifCond .eq 3, .sipush 1, .goto 4]
def bk_93_3 : List Instr := [.sipush 0, .goto_w 4]
def bk_93_4 : List Instr := [.ireturn]
def bk_94_0 : List Instr := [.aload 0, .getfield 352, .getfield 32, .astore 3, .aload 3, .iload 1, .invokevirtual 14, .ifCond .eq 1, .aload 3, .iload 2, .invokevirtual 13, .ifCond .ne 2, .goto_w 1]
def bk_94_1 : List Instr := [.aload 0, .sipush (-100001), .invokevirtual 132, .ireturn]
def bk_94_2 : List Instr := [.aload 3, .iload 1, .iload 2, .invokevirtual 27, .istore 4, .iload 4, .ifCond .eq 3, .aload 0, .iload 4, .invokevirtual 132, .ireturn]
def bk_94_3 : List Instr := [.aload 0, .invokevirtual 133, .aload 3, .iload 1, .iload 2, .invokevirtual 29, .aload 3, .getfield 73, .iload 2, .iaload, .ireturn]
def bk_95_0 : List Instr := [.aload 0, .getfield 352, .getfield 32, .astore 3, .aload 3, .iload 1, .invokevirtual 14, .ifCond .eq 1, .aload 3, .iload 2, .invokevirtual 13, .ifCond .ne 2, .goto_w 1]
def bk_95_1 : List Instr := [.aload 0, .sipush (-100001), .invokevirtual 132, .ireturn]
def bk_95_2 : List Instr := [.aload 3, .iload 1, .iload 2, .invokevirtual 28, .istore 4, .iload 4, .ifCond .eq 3, .aload 0, .iload 4, .invokevirtual 132, .ireturn]
def bk_95_3 : List Instr := [.aload 0, .getfield 352, .getfield 34, .iload 1, .aload 0, .getfield 352, .getfield 40, .aload 0, .getfield 352, .getfield 34, .getfield 96, .invokevirtual 41, .ifCond .ne 4, .aload 0, .sipush (-100002), .invokevirtual 132, .ireturn]
def bk_95_4 : List Instr := [.aload 0, .iload 1, .iload 2, .aload 0, .getfield 352, .getfield 40, .invokevirtual 136, .ifCond .ne 5, .aload 0, .sipush (-100009), .invokevirtual 132, .ireturn]
def bk_95_5 : List Instr := [.aload 0, .invokevirtual 133, .aload 3, .iload 1, .iload 2, .invokevirtual 31, .aload 0, .getfield 352, .getfield 33, .iload 1, .aload 0, .getfield 352, .getfield 42, .invokevirtual 45, .aload 0, .getfield 352, .dup, .getfield 44, .sipush 1, .iadd, .putfield 44, .aload 0, .getfield 352, .getfield 44, .ireturn]
def bk_96_0 : List Instr := [.aload 0, .getfield 352, .getfield 32, .astore 2, .aload 0, .iload 1, .invokevirtual 134, .istore 3, .iload 3, .ifCond .eq 1, .aload 0, .iload 3, .invokevirtual 132, .ireturn]
def bk_96_1 : List Instr := [.aload 2, .iload 1, .invokevirtual 26, .ifCond .ne 2, .aload 0, .sipush (-100008), .invokevirtual 132, .ireturn]
def bk_96_2 : List Instr := [.aload 0, .invokevirtual 133, .aload 2, .iload 1, .invokevirtual 30, .aload 2, .iload 1, .sipush 3, .invokevirtual 17, .ireturn]
def bk_97_0 : List Instr := [.aload 0, .invokevirtual 133, .aload 0, .getfield 352, .sipush 0, .putfield 40, .aload 0, .getfield 352, .getfield 32, .invokevirtual 33, .ireturn]
def bk_98_0 : List Instr := [.iload 1, .invokestatic 138, .ifCond .ne 1, .aload 0, .sipush (-100001), .invokevirtual 132, .ireturn]
def bk_98_1 : List Instr := [.aload 0, .invokevirtual 133, .aload 0, .getfield 352, .getfield 40, .istore 2, .aload 0, .getfield 352, .iload 1, .putfield 40, .iload 2, .ireturn]
def bk_99_0 : List Instr := [.aload 0, .iload 1, .invokevirtual 134, .istore 2, .iload 2, .ifCond .ne 1, .aload 0, .getfield 352, .getfield 32, .iload 1, .invokevirtual 34, .goto 2]
def bk_99_1 : List Instr := [.aload 0, .iload 2, .invokevirtual 132, .goto_w 2]
def bk_99_2 : List Instr := [.ireturn]
def bk_100_0 : List Instr := [.aload 0, .iload 1, .invokevirtual 134, .istore 2, .iload 2, .ifCond .eq 1, .aload 0, .iload 2, .invokevirtual 132, .ireturn]
def bk_100_1 : List Instr := [.aload 0, .getfield 355, .aload 0, .getfield 352, .getfield 32, .iload 1, .aload 0, .invokevirtual 135, .invokevirtual 81, .istore 3, .iload 3, .sipush (-1), .if_icmp .ne 2, .aload 0, .sipush (-100006), .invokevirtual 132, .goto 3]
def bk_100_2 : List Instr := [.iload 3, .goto_w 3]
def bk_100_3 : List Instr := [.ireturn]
def bk_101_0 : List Instr := [.iload 2, .ifCond .ge 1, .sipush (-100001), .goto 2]
def bk_101_1 : List Instr := [.aload 0, .iload 1, .invokevirtual 134, .goto_w 2]
def bk_101_2 : List Instr := [.istore 3, .iload 3, .ifCond .eq 3, .aload 0, .iload 3, .invokevirtual 132, .ireturn]
def bk_101_3 : List Instr := [.aload 0, .getfield 355, .aload 0, .getfield 352, .getfield 32, .iload 1, .aload 0, .invokevirtual 135, .invokevirtual 81, .istore 4, .iload 2, .iload 4, .if_icmp .ge 4, .aload 0, .getfield 355, .getfield 320, .iload 2, .iaload, .goto 5]
def bk_101_4 : List Instr := [.aload 0, .sipush (-100006), .invokevirtual 132, .goto_w 5]
def bk_101_5 : List Instr := [.ireturn]
def bk_102_0 : List Instr := [.aload 0, .getfield 352, .getfield 32, .iload 1, .invokevirtual 14, .ifCond .eq 1, .aload 0, .getfield 354, .iload 2, .invokevirtual 71, .ifCond .ne 2, .goto_w 1]
def bk_102_1 : List Instr := [.aload 0, .sipush (-100001), .invokevirtual 132, .ireturn]
def bk_102_2 : List Instr := [.aload 0, .getfield 354, .iload 2, .invokevirtual 72, .ifCond .eq 3, .aload 0, .sipush (-100002), .invokevirtual 132, .ireturn]
def bk_102_3 : List Instr := [.aload 0, .getfield 352, .getfield 32, .getfield 76, .iload 1, .iaload, .sipush (-1), .if_icmp .ne 4, .aload 0, .sipush (-100006), .invokevirtual 132, .ireturn]
def bk_102_4 : List Instr := [.aload 0, .getfield 355, .aload 0, .getfield 352, .getfield 32, .aload 0, .invokevirtual 135, .invokevirtual 79, .sipush 0, .istore 3, .goto_w 5]
def bk_102_5 : List Instr := [.iload 3, .aload 0, .getfield 354, .getfield 289, .iload 2, .iaload, .if_icmp .ge 7, .aload 0, .getfield 355, .iload 1, .aload 0, .getfield 354, .iload 2, .iload 3, .invokevirtual 74, .invokevirtual 83, .ifCond .ne 6, .iload 3, .ireturn]
def bk_102_6 : List Instr := [.iinc 3 1, .goto 5]
def bk_102_7 : List Instr := [.aload 0, .getfield 355, .iload 1, .invokevirtual 80, .ifCond .eq 8, .sipush (-1), .goto 9]
def bk_102_8 : List Instr := [.aload 0, .getfield 354, .getfield 289, .iload 2, .iaload, .goto_w 9]
def bk_102_9 : List Instr := [.ireturn]
def bk_103_0 : List Instr := [.iload 1, .sipush (-1), .if_icmp .eq 3, .aload 0, .getfield 352, .getfield 32, .iload 1, .invokevirtual 13, .ifCond .eq 1, .aload 0, .getfield 352, .getfield 32, .iload 1, .invokevirtual 36, .goto 2]
def bk_103_1 : List Instr := [.aload 0, .sipush (-100001), .invokevirtual 132, .goto_w 2]
def bk_103_2 : List Instr := [.ireturn]
def bk_103_3 : List Instr := [.sipush 0, .istore 2, .sipush 0, .istore 3, .goto_w 4]
def bk_103_4 : List Instr := [.iload 3, .aload 0, .getfield 352, .getfield 32, .getfield 64, .if_icmp .ge 5, .iload 2, .aload 0, .getfield 352, .getfield 32, .iload 3, .invokevirtual 36, .iadd, .istore 2, .iinc 3 1, .goto 4]
def bk_103_5 : List Instr := [.iload 2, .ireturn]
def bk_104_0 : List Instr := [.aload 0, .getfield 352, .getfield 32, .iload 1, .invokevirtual 14, .ifCond .ne 1, .aload 0, .sipush (-100001), .invokevirtual 132, .ireturn]
def bk_104_1 : List Instr := [.aload 0, .getfield 352, .iload 1, .invokevirtual 8, .sipush (-1), .if_icmp .eq 2, .aload 0, .sipush (-100007), .invokevirtual 132, .ireturn]
def bk_104_2 : List Instr := [.aload 0, .getfield 352, .getfield 39, .sipush 7, .if_icmp .lt 3, .aload 0, .sipush (-100005), .invokevirtual 132, .ireturn]
def bk_104_3 : List Instr := [.aload 0, .invokevirtual 133, .aload 0, .getfield 352, .getfield 37, .aload 0, .getfield 352, .getfield 39, .iload 1, .iastore, .aload 0, .getfield 352, .dup, .getfield 39, .sipush 1, .iadd, .putfield 39, .aload 0, .getfield 352, .getfield 39, .ireturn]
def bk_105_0 : List Instr := [.aload 0, .invokevirtual 133, .aload 0, .getfield 352, .getfield 39, .istore 1, .aload 0, .getfield 352, .sipush 0, .putfield 39, .iload 1, .ireturn]
def bk_106_0 : List Instr := [.aload 0, .getfield 356, .aload 0, .getfield 352, .invokevirtual 51, .istore 1, .iload 1, .sipush (-1), .if_icmp .ne 1, .aload 0, .sipush (-100006), .invokevirtual 132, .goto 2]
def bk_106_1 : List Instr := [.iload 1, .goto_w 2]
def bk_106_2 : List Instr := [.ireturn]
def bk_107_0 : List Instr := [.aload 0, .getfield 352, .getfield 32, .iload 1, .invokevirtual 14, .ifCond .ne 1, .aload 0, .sipush (-100001), .invokevirtual 132, .ireturn]
def bk_107_1 : List Instr := [.aload 0, .getfield 352, .iload 1, .invokevirtual 8, .istore 2, .iload 2, .sipush (-1), .if_icmp .eq 2, .aload 0, .getfield 356, .aload 0, .getfield 352, .invokevirtual 51, .sipush (-1), .if_icmp .ne 3, .goto_w 2]
def bk_107_2 : List Instr := [.aload 0, .sipush (-100006), .invokevirtual 132, .ireturn]
def bk_107_3 : List Instr := [.aload 0, .getfield 356, .getfield 160, .iload 2, .iaload, .ireturn]
def bk_108_0 : List Instr := [.iload 1, .sipush 0, .sipush 3, .invokestatic 137, .ifCond .ne 1, .aload 0, .sipush (-100001), .invokevirtual 132, .ireturn]
def bk_108_1 : List Instr := [.aload 0, .invokevirtual 133, .aload 0, .getfield 352, .getfield 41, .istore 2, .aload 0, .getfield 352, .iload 1, .putfield 41, .iload 2, .ireturn]
def bk_109_0 : List Instr := [.aload 0, .getfield 357, .aload 0, .getfield 352, .getfield 32, .aload 0, .getfield 352, .getfield 41, .invokevirtual 1, .ireturn]
def bk_110_0 : List Instr := [.iload 1, .invokestatic 138, .ifCond .ne 1, .aload 0, .sipush (-100001), .invokevirtual 132, .ireturn]
def bk_110_1 : List Instr := [.aload 0, .getfield 357, .aload 0, .getfield 352, .getfield 32, .aload 0, .getfield 352, .getfield 41, .invokevirtual 1, .istore 2, .aload 0, .getfield 357, .aload 0, .getfield 352, .getfield 32, .aload 0, .getfield 352, .getfield 41, .iload 2, .invokevirtual 3, .pop, .aload 0, .getfield 357, .getfield 0, .iload 1, .iaload, .ireturn]
def bk_111_0 : List Instr := [.iload 1, .invokestatic 139, .ifCond .eq 1, .iload 2, .invokestatic 139, .ifCond .eq 1, .iload 3, .sipush 0, .sipush 999, .invokestatic 137, .ifCond .ne 2, .goto_w 1]
def bk_111_1 : List Instr := [.aload 0, .sipush (-100001), .invokevirtual 132, .ireturn]
def bk_111_2 : List Instr := [.aload 0, .invokevirtual 133, .aload 0, .getfield 352, .getfield 35, .iload 1, .sipush 5, .imul, .iload 2, .iadd, .iaload, .istore 4, .aload 0, .getfield 352, .getfield 35, .iload 1, .sipush 5, .imul, .iload 2, .iadd, .iload 3, .iastore, .iload 4, .ireturn]
def bk_112_0 : List Instr := [.iload 1, .invokestatic 139, .ifCond .ne 1, .aload 0, .sipush (-100001), .invokevirtual 132, .ireturn]
def bk_112_1 : List Instr := [.aload 0, .getfield 358, .aload 0, .getfield 352, .getfield 35, .sipush (-1), .invokevirtual 55, .pop, .aload 0, .getfield 358, .getfield 192, .iload 1, .iaload, .ireturn]
def bk_113_0 : List Instr := [.iload 1, .invokestatic 139, .ifCond .eq 1, .aload 0, .getfield 358, .aload 0, .getfield 352, .getfield 35, .iload 1, .invokevirtual 57, .goto 2]
def bk_113_1 : List Instr := [.aload 0, .sipush (-100001), .invokevirtual 132, .goto_w 2]
def bk_113_2 : List Instr := [.ireturn]
def bk_114_0 : List Instr := [.aload 0, .getfield 358, .aload 0, .getfield 352, .getfield 35, .sipush (-1), .invokevirtual 55, .ireturn]
def bk_115_0 : List Instr := [.iload 1, .invokestatic 140, .ifCond .ne 1, .aload 0, .sipush (-100001), .invokevirtual 132, .ireturn]
def bk_115_1 : List Instr := [.aload 0, .invokevirtual 133, .aload 0, .getfield 352, .getfield 42, .istore 2, .aload 0, .getfield 352, .iload 1, .putfield 42, .iload 2, .ireturn]
def bk_116_0 : List Instr := [.aload 0, .getfield 352, .getfield 32, .iload 1, .invokevirtual 14, .ifCond .ne 1, .aload 0, .sipush (-100001), .invokevirtual 132, .ireturn]
def bk_116_1 : List Instr := [.aload 0, .invokevirtual 133, .aload 0, .getfield 352, .getfield 33, .iload 1, .iload 2, .ifCond .eq 2, .sipush 5, .goto 3]
def bk_116_2 : List Instr := [.sipush 4, .goto_w 3]
def bk_116_3 : List Instr := [.invokevirtual 45, .aload 0, .getfield 352, .getfield 33, .getfield 128, .ireturn]
def bk_117_0 : List Instr := [.aload 0, .getfield 352, .getfield 32, .iload 1, .invokevirtual 14, .ifCond .eq 1, .iload 2, .invokestatic 140, .ifCond .eq 1, .iload 3, .sipush 0, .sipush 9999, .invokestatic 137, .ifCond .ne 2, .goto_w 1]
def bk_117_1 : List Instr := [.aload 0, .sipush (-100001), .invokevirtual 132, .ireturn]
def bk_117_2 : List Instr := [.aload 0, .getfield 352, .getfield 33, .iload 1, .iload 2, .iload 3, .invokevirtual 46, .istore 4, .iload 4, .sipush (-1), .if_icmp .ne 3, .aload 0, .sipush (-100006), .invokevirtual 132, .goto 4]
def bk_117_3 : List Instr := [.iload 4, .goto_w 4]
def bk_117_4 : List Instr := [.ireturn]
def bk_118_0 : List Instr := [.aload 0, .getfield 354, .iload 1, .invokevirtual 71, .ifCond .ne 1, .aload 0, .sipush (-100001), .invokevirtual 132, .ireturn]
def bk_118_1 : List Instr := [.aload 0, .getfield 354, .iload 1, .invokevirtual 72, .ifCond .eq 2, .aload 0, .sipush (-100002), .invokevirtual 132, .ireturn]
def bk_118_2 : List Instr := [.aload 0, .getfield 354, .getfield 289, .iload 1, .iaload, .istore 2, .iload 2, .sipush 16, .if_icmp .le 3, .aload 0, .sipush (-100003), .invokevirtual 132, .ireturn]
def bk_118_3 : List Instr := [.sipush 0, .istore 3, .goto_w 4]
def bk_118_4 : List Instr := [.iload 3, .iload 2, .if_icmp .ge 6, .aload 0, .getfield 354, .iload 1, .iload 3, .invokevirtual 74, .invokestatic 62, .ifCond .ne 5, .aload 0, .sipush (-100001), .invokevirtual 132, .ireturn]
def bk_118_5 : List Instr := [.iinc 3 1, .goto 4]
def bk_118_6 : List Instr := [.aload 0, .invokevirtual 133, .sipush 0, .istore 3, .goto_w 7]
def bk_118_7 : List Instr := [.iload 3, .iload 2, .if_icmp .ge 8, .aload 0, .getfield 352, .getfield 36, .iload 3, .aload 0, .getfield 354, .iload 1, .iload 3, .invokevirtual 74, .iastore, .iinc 3 1, .goto 7]
def bk_118_8 : List Instr := [.aload 0, .getfield 352, .iload 2, .putfield 38, .iload 2, .ireturn]
def bk_119_0 : List Instr := [.aload 0, .getfield 359, .aload 0, .getfield 352, .getfield 36, .aload 0, .getfield 352, .getfield 38, .invokevirtual 65, .ireturn]
def bk_120_0 : List Instr := [.aload 0, .getfield 352, .getfield 32, .iload 1, .invokevirtual 14, .ifCond .eq 1, .aload 0, .getfield 352, .getfield 32, .iload 2, .invokevirtual 13, .ifCond .eq 1, .iload 3, .invokestatic 138, .ifCond .ne 2, .goto_w 1]
def bk_120_1 : List Instr := [.aload 0, .sipush (-100001), .invokevirtual 132, .ireturn]
def bk_120_2 : List Instr := [.aload 0, .iload 1, .iload 2, .iload 3, .invokevirtual 136, .ifCond .eq 3, .sipush 1, .goto 4]
def bk_120_3 : List Instr := [.sipush 0, .goto_w 4]
def bk_120_4 : List Instr := [.ireturn]
def bk_121_0 : List Instr := [.aload 0, .getfield 352, .getfield 32, .iload 1, .invokevirtual 13, .ifCond .eq 1, .iload 2, .sipush 0, .sipush 200, .invokestatic 137, .ifCond .ne 2, .goto_w 1]
def bk_121_1 : List Instr := [.aload 0, .sipush (-100001), .invokevirtual 132, .ireturn]
def bk_121_2 : List Instr := [.aload 0, .invokevirtual 133, .aload 0, .getfield 352, .getfield 32, .getfield 70, .iload 1, .iaload, .istore 3, .aload 0, .getfield 352, .getfield 32, .getfield 70, .iload 1, .iload 2, .iastore, .iload 3, .ireturn]
def bk_122_0 : List Instr := [.iload 1, .sipush 1, .sipush 30, .invokestatic 137, .ifCond .ne 1, .aload 0, .sipush (-100001), .invokevirtual 132, .ireturn]
def bk_122_1 : List Instr := [.aload 0, .invokevirtual 133, .aload 0, .getfield 352, .getfield 43, .istore 2, .aload 0, .getfield 352, .iload 1, .putfield 43, .iload 2, .ireturn]
def bk_123_0 : List Instr := [.aload 0, .getfield 360, .aload 0, .getfield 352, .getfield 32, .aload 0, .getfield 352, .getfield 43, .invokevirtual 59, .ireturn]
def bk_124_0 : List Instr := [.iload 1, .ifCond .ge 1, .aload 0, .sipush (-100001), .invokevirtual 132, .ireturn]
def bk_124_1 : List Instr := [.aload 0, .getfield 360, .aload 0, .getfield 352, .getfield 32, .aload 0, .getfield 352, .getfield 43, .invokevirtual 59, .pop, .iload 1, .aload 0, .getfield 360, .getfield 225, .if_icmp .ge 2, .aload 0, .getfield 360, .getfield 224, .iload 1, .iaload, .goto 3]
def bk_124_2 : List Instr := [.aload 0, .sipush (-100006), .invokevirtual 132, .goto_w 3]
def bk_124_3 : List Instr := [.ireturn]
def bk_125_0 : List Instr := [.aload 0, .getfield 352, .getfield 32, .iload 1, .invokevirtual 14, .ifCond .eq 1, .iload 2, .invokestatic 138, .ifCond .ne 2, .goto_w 1]
def bk_125_1 : List Instr := [.aload 0, .sipush (-100001), .invokevirtual 132, .ireturn]
def bk_125_2 : List Instr := [.aload 0, .getfield 352, .getfield 34, .getfield 96, .sipush 30, .if_icmp .lt 3, .aload 0, .sipush (-100005), .invokevirtual 132, .ireturn]
def bk_125_3 : List Instr := [.aload 0, .invokevirtual 133, .aload 0, .getfield 352, .getfield 34, .iload 1, .iload 2, .iload 3, .invokevirtual 40, .aload 0, .getfield 352, .getfield 34, .getfield 96, .ireturn]
def bk_126_0 : List Instr := [.aload 0, .getfield 352, .getfield 32, .iload 1, .invokevirtual 14, .ifCond .eq 1, .iload 2, .invokestatic 138, .ifCond .eq 1, .iload 3, .sipush 0, .aload 0, .getfield 352, .getfield 34, .getfield 96, .invokestatic 137, .ifCond .ne 2, .goto_w 1]
def bk_126_1 : List Instr := [.aload 0, .sipush (-100001), .invokevirtual 132, .ireturn]
def bk_126_2 : List Instr := [.aload 0, .getfield 352, .getfield 34, .iload 1, .iload 2, .iload 3, .invokevirtual 41, .ifCond .eq 3, .sipush 1, .goto 4]
def bk_126_3 : List Instr := [.sipush 0, .goto_w 4]
def bk_126_4 : List Instr := [.ireturn]
def bk_127_0 : List Instr := [.aload 0, .getfield 354, .iload 1, .invokevirtual 71, .ifCond .eq 1, .iload 2, .ifCond .eq 2, .iload 2, .sipush 8, .if_icmp .eq 2, .iload 2, .sipush 16, .if_icmp .eq 2, .iload 2, .sipush 32, .if_icmp .eq 2, .goto_w 1]
def bk_127_1 : List Instr := [.aload 0, .sipush (-100001), .invokevirtual 132, .ireturn]
def bk_127_2 : List Instr := [.iload 3, .ifCond .ge 3, .aload 0, .sipush (-100003), .invokevirtual 132, .ireturn]
def bk_127_3 : List Instr := [.iload 3, .sipush 20, .if_icmp .le 4, .aload 0, .sipush (-100001), .invokevirtual 132, .ireturn]
def bk_127_4 : List Instr := [.aload 0, .getfield 354, .iload 1, .iload 2, .iload 2, .ifCond .ne 5, .sipush 0, .goto 6]
def bk_127_5 : List Instr := [.iload 3, .goto_w 6]
def bk_127_6 : List Instr := [.invokevirtual 73, .aload 0, .getfield 354, .getfield 289, .iload 1, .iaload, .ireturn]
def bk_128_0 : List Instr := [.aload 0, .getfield 354, .iload 1, .invokevirtual 71, .ifCond .ne 1, .aload 0, .sipush (-100001), .invokevirtual 132, .ireturn]
def bk_128_1 : List Instr := [.aload 0, .getfield 354, .iload 1, .invokevirtual 72, .ifCond .eq 2, .aload 0, .sipush (-100002), .invokevirtual 132, .ireturn]
def bk_128_2 : List Instr := [.iload 2, .ifCond .lt 3, .iload 2, .aload 0, .getfield 354, .getfield 289, .iload 1, .iaload, .if_icmp .lt 4, .goto_w 3]
def bk_128_3 : List Instr := [.aload 0, .sipush (-100001), .invokevirtual 132, .ireturn]
def bk_128_4 : List Instr := [.aload 0, .getfield 354, .iload 1, .iload 2, .iload 3, .invokevirtual 75, .sipush 0, .ireturn]
def bk_129_0 : List Instr := [.aload 0, .getfield 354, .iload 1, .invokevirtual 71, .ifCond .eq 1, .aload 0, .getfield 354, .iload 3, .invokevirtual 71, .ifCond .ne 2, .goto_w 1]
def bk_129_1 : List Instr := [.aload 0, .sipush (-100001), .invokevirtual 132, .ireturn]
def bk_129_2 : List Instr := [.aload 0, .getfield 354, .iload 1, .invokevirtual 72, .ifCond .ne 3, .aload 0, .getfield 354, .iload 3, .invokevirtual 72, .ifCond .eq 4, .goto_w 3]
def bk_129_3 : List Instr := [.aload 0, .sipush (-100002), .invokevirtual 132, .ireturn]
def bk_129_4 : List Instr := [.aload 0, .getfield 354, .getfield 288, .iload 1, .iaload, .aload 0, .getfield 354, .getfield 288, .iload 3, .iaload, .if_icmp .eq 5, .aload 0, .sipush (-100004), .invokevirtual 132, .ireturn]
def bk_129_5 : List Instr := [.aload 0, .getfield 354, .iload 1, .iload 2, .iload 5, .invokevirtual 76, .ifCond .eq 6, .aload 0, .getfield 354, .iload 3, .iload 4, .iload 5, .invokevirtual 76, .ifCond .ne 7, .goto_w 6]
def bk_129_6 : List Instr := [.aload 0, .sipush (-100001), .invokevirtual 132, .ireturn]
def bk_129_7 : List Instr := [.aload 0, .getfield 354, .iload 1, .iload 2, .iload 3, .iload 4, .iload 5, .invokevirtual 77, .iload 5, .ireturn]
def bk_130_0 : List Instr := [.aload 0, .getfield 362, .ifCond .gt 1, .aload 0, .sipush (-100006), .invokevirtual 132, .ireturn]
def bk_130_1 : List Instr := [.aload 0, .aload 0, .getfield 361, .sipush 16, .iadd, .sipush 1, .isub, .sipush 16, .irem, .putfield 361, .aload 0, .dup, .getfield 362, .sipush 1, .isub, .putfield 362, .aload 0, .getfield 353, .aload 0, .getfield 361, .aaload, .astore 1, .aload 1, .ifnull 2, .aload 0, .getfield 352, .aload 1, .invokevirtual 7, .goto_w 2]
def bk_130_2 : List Instr := [.aload 0, .getfield 362, .ireturn]
def bk_131_0 : List Instr := [.iload 1, .tableswitch 8 0 6 #[1, 2, 3, 4, 5, 6, 7]]
def bk_131_1 : List Instr := [.aload 0, .getfield 352, .getfield 32, .getfield 64, .ireturn]
def bk_131_2 : List Instr := [.aload 0, .getfield 352, .getfield 32, .getfield 65, .ireturn]
def bk_131_3 : List Instr := [.aload 0, .getfield 352, .getfield 32, .invokevirtual 35, .ireturn]
def bk_131_4 : List Instr := [.aload 0, .getfield 352, .getfield 44, .ireturn]
def bk_131_5 : List Instr := [.aload 0, .getfield 352, .getfield 34, .getfield 96, .ireturn]
def bk_131_6 : List Instr := [.aload 0, .getfield 352, .getfield 33, .getfield 128, .ireturn]
def bk_131_7 : List Instr := [.aload 0, .getfield 363, .ireturn]
def bk_131_8 : List Instr := [.aload 0, .sipush (-100001), .invokevirtual 132, .ireturn]
def bk_132_0 : List Instr := [.aload 0, .dup, .getfield 363, .sipush 1, .iadd, .putfield 363, .iload 1, .ireturn]
def bk_133_0 : List Instr := [.aload 0, .getfield 353, .aload 0, .getfield 361, .aaload, .astore 1, .aload 1, .ifnull 1, .aload 1, .aload 0, .getfield 352, .invokevirtual 7, .goto_w 1]
def bk_133_1 : List Instr := [.aload 0, .aload 0, .getfield 361, .sipush 1, .iadd, .sipush 16, .irem, .putfield 361, .aload 0, .aload 0, .getfield 362, .sipush 1, .iadd, .sipush 16, .invokestatic 237, .putfield 362, .return_]
def bk_134_0 : List Instr := [.aload 0, .getfield 352, .getfield 32, .iload 1, .invokevirtual 14, .ifCond .ne 1, .sipush (-100001), .ireturn]
def bk_134_1 : List Instr := [.aload 0, .getfield 352, .getfield 32, .getfield 76, .iload 1, .iaload, .sipush (-1), .if_icmp .ne 2, .sipush (-100006), .goto 3]
def bk_134_2 : List Instr := [.sipush 0, .goto_w 3]
def bk_134_3 : List Instr := [.ireturn]
def bk_135_0 : List Instr := [.aload 0, .getfield 352, .getfield 34, .aload 0, .getfield 352, .getfield 32, .getfield 65, .aload 0, .getfield 352, .getfield 40, .invokevirtual 42, .ireturn]
def bk_136_0 : List Instr := [.aload 0, .getfield 352, .getfield 32, .astore 4, .aload 0, .getfield 359, .iload 3, .aload 4, .iload 1, .sipush 0, .invokevirtual 17, .aload 4, .iload 1, .sipush 2, .invokevirtual 17, .iload 2, .aload 4, .getfield 66, .iload 2, .iaload, .aload 0, .getfield 352, .getfield 42, .invokevirtual 63, .aload 0, .getfield 359, .aload 0, .getfield 352, .getfield 36, .aload 0, .getfield 352, .getfield 38, .invokevirtual 64, .ireturn]
def bk_137_0 : List Instr := [.iload 0, .iload 1, .if_icmp .lt 1, .iload 0, .iload 2, .if_icmp .gt 1, .sipush 1, .goto 2]
def bk_137_1 : List Instr := [.sipush 0, .goto_w 2]
def bk_137_2 : List Instr := [.ireturn]
def bk_138_0 : List Instr := [.iload 0, .sipush 0, .sipush 23, .invokestatic 137, .ireturn]
def bk_139_0 : List Instr := [.iload 0, .sipush 0, .sipush 4, .invokestatic 137, .ireturn]
def bk_140_0 : List Instr := [.iload 0, .sipush 0, .sipush 3, .invokestatic 137, .ireturn]
def bk_141_0 : List Instr := [.aload 0, .invokedynamic 1, .aload 0, .sipush 277, .newarray .int, .putfield 384, .aload 0, .sipush 4432, .newarray .int, .putfield 385, .aload 0, .sipush 4, .newarray .int, .putfield 388, .aload 0, .sipush 4, .newarray .int, .putfield 389, .aload 0, .sipush 80, .newarray .int, .putfield 390, .aload 0, .sipush 200, .newarray .int, .putfield 391, .aload 0, .sipush 3, .newarray .int, .putfield 392, .aload 0, .sipush 7, .newarray .int, .putfield 393, .aload 0, .sipush 7, .newarray .int, .putfield 394, .aload 0, .sipush 8, .newarray .int, .putfield 396, .aload 0, .sipush 5, .newarray .int, .putfield 397, .aload 0, .sipush 5, .newarray .int, .putfield 398, .aload 0, .sipush 8, .newarray .int, .putfield 401, .aload 0, .sipush 8, .newarray .int, .putfield 402, .aload 0, .sipush 5, .newarray .int, .putfield 403, .aload 0, .sipush 20, .newarray .int, .putfield 404, .aload 0, .getfield 384, .sipush 3, .sipush 1, .iastore, .aload 0, .getfield 384, .sipush 5, .sipush 10, .iastore, .sipush 0, .istore 1, .goto_w 1]
def bk_141_1 : List Instr := [.iload 1, .sipush 5, .if_icmp .ge 2, .aload 0, .getfield 384, .sipush 36, .iload 1, .iadd, .sipush 100, .iastore, .iinc 1 1, .goto 1]
def bk_141_2 : List Instr := [.return_]
def bk_142_0 : List Instr := [.aload 0, .dup, .getfield 387, .sipush 1, .iadd, .putfield 387, .iload 1, .ireturn]
def bk_143_0 : List Instr := [.iload 0, .iload 1, .if_icmp .lt 1, .iload 0, .iload 2, .if_icmp .gt 1, .sipush 1, .goto 2]
def bk_143_1 : List Instr := [.sipush 0, .goto_w 2]
def bk_143_2 : List Instr := [.ireturn]
def bk_144_0 : List Instr := [.iload 1, .sipush 0, .aload 0, .getfield 384, .sipush 0, .iaload, .sipush 1, .isub, .invokestatic 143, .ireturn]
def bk_145_0 : List Instr := [.iload 1, .sipush 0, .aload 0, .getfield 384, .sipush 1, .iaload, .sipush 1, .isub, .invokestatic 143, .ireturn]
def bk_146_0 : List Instr := [.iload 0, .sipush 0, .sipush 23, .invokestatic 143, .ireturn]
def bk_147_0 : List Instr := [.aload 0, .getfield 386, .sipush 16, .if_icmp .ne 3, .sipush 0, .istore 1, .goto_w 1]
def bk_147_1 : List Instr := [.iload 1, .sipush 4155, .if_icmp .ge 2, .aload 0, .getfield 385, .iload 1, .aload 0, .getfield 385, .iload 1, .sipush 277, .iadd, .iaload, .iastore, .iinc 1 1, .goto 1]
def bk_147_2 : List Instr := [.aload 0, .dup, .getfield 386, .sipush 1, .isub, .putfield 386, .goto_w 3]
def bk_147_3 : List Instr := [.sipush 0, .istore 1, .goto_w 4]
def bk_147_4 : List Instr := [.iload 1, .sipush 277, .if_icmp .ge 5, .aload 0, .getfield 385, .aload 0, .getfield 386, .sipush 277, .imul, .iload 1, .iadd, .aload 0, .getfield 384, .iload 1, .iaload, .iastore, .iinc 1 1, .goto 4]
def bk_147_5 : List Instr := [.aload 0, .dup, .getfield 386, .sipush 1, .iadd, .putfield 386, .return_]
def bk_148_0 : List Instr := [.aload 0, .getfield 386, .ifCond .ne 1, .aload 0, .sipush (-100006), .invokevirtual 142, .ireturn]
def bk_148_1 : List Instr := [.aload 0, .dup, .getfield 386, .sipush 1, .isub, .putfield 386, .sipush 0, .istore 1, .goto_w 2]
def bk_148_2 : List Instr := [.iload 1, .sipush 277, .if_icmp .ge 3, .aload 0, .getfield 384, .iload 1, .aload 0, .getfield 385, .aload 0, .getfield 386, .sipush 277, .imul, .iload 1, .iadd, .iaload, .iastore, .iinc 1 1, .goto 2]
def bk_148_3 : List Instr := [.aload 0, .getfield 386, .ireturn]
def bk_149_0 : List Instr := [.iload 1, .sipush 0, .sipush 3, .invokestatic 143, .ifCond .eq 1, .iload 2, .sipush 1, .sipush 30, .invokestatic 143, .ifCond .eq 1, .iload 3, .sipush 1, .sipush 30, .invokestatic 143, .ifCond .eq 1, .iload 4, .sipush 1, .sipush 99, .invokestatic 143, .ifCond .ne 2, .goto_w 1]
def bk_149_1 : List Instr := [.aload 0, .sipush (-100001), .invokevirtual 142, .ireturn]
def bk_149_2 : List Instr := [.aload 0, .getfield 384, .sipush 0, .iaload, .istore 5, .iload 5, .sipush 5, .if_icmp .ne 3, .aload 0, .sipush (-100005), .invokevirtual 142, .ireturn]
def bk_149_3 : List Instr := [.aload 0, .invokevirtual 147, .aload 0, .getfield 384, .sipush 11, .iload 5, .iadd, .iload 1, .iastore, .aload 0, .getfield 384, .sipush 16, .iload 5, .iadd, .iload 2, .iastore, .aload 0, .getfield 384, .sipush 21, .iload 5, .iadd, .iload 3, .iastore, .aload 0, .getfield 384, .sipush 26, .iload 5, .iadd, .iload 1, .sipush 3, .if_icmp .ne 4, .iload 4, .sipush 2, .idiv, .goto 5]
def bk_149_4 : List Instr := [.iload 4, .goto_w 5]
def bk_149_5 : List Instr := [.iastore, .aload 0, .getfield 384, .sipush 0, .dup2, .iaload, .sipush 1, .iadd, .iastore, .iload 5, .ireturn]
def bk_150_0 : List Instr := [.aload 0, .getfield 384, .sipush 11, .iload 1, .iadd, .iaload, .sipush 1, .if_icmp .eq 1, .aload 0, .getfield 384, .sipush 11, .iload 1, .iadd, .iaload, .sipush 3, .if_icmp .ne 2, .goto_w 1]
def bk_150_1 : List Instr := [.sipush 1, .goto 3]
def bk_150_2 : List Instr := [.sipush 0, .goto_w 3]
def bk_150_3 : List Instr := [.ireturn]
def bk_151_0 : List Instr := [.aload 0, .iload 1, .invokevirtual 144, .ifCond .eq 1, .iload 2, .sipush 0, .sipush 3, .invokestatic 143, .ifCond .ne 2, .goto_w 1]
def bk_151_1 : List Instr := [.aload 0, .sipush (-100001), .invokevirtual 142, .ireturn]
def bk_151_2 : List Instr := [.aload 0, .getfield 384, .sipush 11, .iload 1, .iadd, .iaload, .istore 3, .iload 2, .ifCond .eq 3, .iload 3, .iload 2, .if_icmp .eq 3, .iload 2, .sipush 1, .if_icmp .ne 4, .iload 3, .sipush 3, .if_icmp .ne 4, .goto_w 3]
def bk_151_3 : List Instr := [.iload 1, .goto 5]
def bk_151_4 : List Instr := [.aload 0, .sipush (-100004), .invokevirtual 142, .goto_w 5]
def bk_151_5 : List Instr := [.ireturn]
def bk_152_0 : List Instr := [.aload 0, .getfield 384, .sipush 51, .sipush 8, .iload 1, .imul, .iadd, .iload 2, .iadd, .iaload, .ireturn]
def bk_153_0 : List Instr := [.aload 0, .getfield 384, .sipush 16, .iload 1, .iadd, .iaload, .istore 2, .sipush 0, .istore 3, .goto_w 1]
def bk_153_1 : List Instr := [.iload 3, .aload 0, .getfield 384, .sipush 46, .iload 1, .iadd, .iaload, .if_icmp .ge 2, .iload 2, .aload 0, .getfield 384, .sipush 91, .aload 0, .iload 1, .iload 3, .invokevirtual 152, .iadd, .iaload, .isub, .istore 2, .iinc 3 1, .goto 1]
def bk_153_2 : List Instr := [.iload 2, .ireturn]
def bk_154_0 : List Instr := [.aload 0, .iload 1, .invokevirtual 144, .ifCond .eq 1, .iload 2, .sipush 0, .sipush 7, .invokestatic 143, .ifCond .ne 2, .goto_w 1]
def bk_154_1 : List Instr := [.aload 0, .sipush (-100001), .invokevirtual 142, .ireturn]
def bk_154_2 : List Instr := [.iload 2, .tableswitch 7 4 7 #[3, 4, 5, 6]]
def bk_154_3 : List Instr := [.aload 0, .getfield 384, .sipush 46, .iload 1, .iadd, .iaload, .ireturn]
def bk_154_4 : List Instr := [.aload 0, .iload 1, .invokevirtual 153, .ireturn]
def bk_154_5 : List Instr := [.aload 0, .getfield 384, .sipush 41, .iload 1, .iadd, .iaload, .ireturn]
def bk_154_6 : List Instr := [.aload 0, .getfield 384, .sipush 31, .iload 1, .iadd, .iaload, .ireturn]
def bk_154_7 : List Instr := [.aload 0, .getfield 384, .sipush 11, .sipush 5, .iload 2, .imul, .iadd, .iload 1, .iadd, .iaload, .ireturn]
def bk_155_0 : List Instr := [.aload 0, .iload 1, .invokevirtual 144, .ifCond .ne 1, .aload 0, .sipush (-100001), .invokevirtual 142, .ireturn]
def bk_155_1 : List Instr := [.aload 0, .iload 1, .invokevirtual 150, .ifCond .ne 2, .aload 0, .sipush (-100004), .invokevirtual 142, .ireturn]
def bk_155_2 : List Instr := [.aload 0, .invokevirtual 147, .aload 0, .getfield 384, .sipush 31, .iload 1, .iadd, .iaload, .istore 3, .aload 0, .getfield 384, .sipush 31, .iload 1, .iadd, .iload 2, .ifCond .eq 3, .sipush 1, .goto 4]
def bk_155_3 : List Instr := [.sipush 0, .goto_w 4]
def bk_155_4 : List Instr := [.iastore, .iload 3, .aload 0, .getfield 384, .sipush 31, .iload 1, .iadd, .iaload, .if_icmp .ne 5, .sipush 0, .goto 6]
def bk_155_5 : List Instr := [.sipush 1, .goto_w 6]
def bk_155_6 : List Instr := [.ireturn]
def bk_156_0 : List Instr := [.iload 1, .sipush 1, .sipush 9, .invokestatic 143, .ifCond .eq 1, .iload 2, .sipush 1, .sipush 30, .invokestatic 143, .ifCond .eq 1, .iload 3, .sipush 1, .sipush 99, .invokestatic 143, .ifCond .eq 1, .sipush 1, .goto 2]
def bk_156_1 : List Instr := [.sipush 0, .goto_w 2]
def bk_156_2 : List Instr := [.istore 7, .iload 7, .ifCond .eq 3, .iload 4, .invokestatic 146, .ifCond .eq 3, .iload 5, .sipush 0, .sipush 9, .invokestatic 143, .ifCond .eq 3, .iload 6, .sipush 0, .sipush 99, .invokestatic 143, .ifCond .ne 4, .goto_w 3]
def bk_156_3 : List Instr := [.aload 0, .sipush (-100001), .invokevirtual 142, .ireturn]
def bk_156_4 : List Instr := [.aload 0, .getfield 384, .sipush 1, .iaload, .istore 8, .iload 8, .sipush 8, .if_icmp .ne 5, .aload 0, .sipush (-100005), .invokevirtual 142, .ireturn]
def bk_156_5 : List Instr := [.aload 0, .invokevirtual 147, .aload 0, .getfield 384, .sipush 91, .iload 8, .iadd, .iload 1, .iastore, .aload 0, .getfield 384, .sipush 99, .iload 8, .iadd, .iload 2, .iastore, .aload 0, .getfield 384, .sipush 107, .iload 8, .iadd, .iload 3, .iastore, .aload 0, .getfield 384, .sipush 115, .iload 8, .iadd, .iload 4, .iastore, .aload 0, .getfield 384, .sipush 123, .iload 8, .iadd, .iload 5, .iastore, .aload 0, .getfield 384, .sipush 131, .iload 8, .iadd, .iload 6, .iastore, .aload 0, .getfield 384, .sipush 1, .dup2, .iaload, .sipush 1, .iadd, .iastore, .iload 8, .ireturn]
def bk_157_0 : List Instr := [.sipush 0, .istore 2, .goto_w 1]
def bk_157_1 : List Instr := [.iload 2, .aload 0, .getfield 384, .sipush 0, .iaload, .if_icmp .ge 5, .sipush 0, .istore 3, .goto_w 2]
def bk_157_2 : List Instr := [.iload 3, .aload 0, .getfield 384, .sipush 46, .iload 2, .iadd, .iaload, .if_icmp .ge 4, .aload 0, .iload 2, .iload 3, .invokevirtual 152, .iload 1, .if_icmp .ne 3, .sipush 8, .iload 2, .imul, .iload 3, .iadd, .ireturn]
def bk_157_3 : List Instr := [.iinc 3 1, .goto 2]
def bk_157_4 : List Instr := [.iinc 2 1, .goto 1]
def bk_157_5 : List Instr := [.sipush (-1), .ireturn]
def bk_158_0 : List Instr := [.aload 0, .getfield 384, .sipush 46, .iload 1, .sipush 8, .idiv, .iadd, .iaload, .sipush 1, .isub, .iload 1, .sipush 8, .irem, .isub, .ireturn]
def bk_159_0 : List Instr := [.aload 0, .iload 1, .invokevirtual 145, .ifCond .eq 1, .iload 2, .sipush 0, .sipush 7, .invokestatic 143, .ifCond .ne 2, .goto_w 1]
def bk_159_1 : List Instr := [.aload 0, .sipush (-100001), .invokevirtual 142, .ireturn]
def bk_159_2 : List Instr := [.aload 0, .iload 1, .invokevirtual 157, .istore 3, .iload 2, .lookupswitch 9 #[(6, 3), (7, 6)]]
def bk_159_3 : List Instr := [.iload 3, .ifCond .ge 4, .sipush (-1), .goto 5]
def bk_159_4 : List Instr := [.iload 3, .sipush 8, .idiv, .goto_w 5]
def bk_159_5 : List Instr := [.ireturn]
def bk_159_6 : List Instr := [.iload 3, .ifCond .ge 7, .sipush 0, .goto 8]
def bk_159_7 : List Instr := [.aload 0, .iload 3, .invokevirtual 158, .goto_w 8]
def bk_159_8 : List Instr := [.ireturn]
def bk_159_9 : List Instr := [.aload 0, .getfield 384, .sipush 91, .sipush 8, .iload 2, .imul, .iadd, .iload 1, .iadd, .iaload, .ireturn]
def bk_160_0 : List Instr := [.aload 0, .iload 1, .invokevirtual 145, .ifCond .eq 4, .iload 2, .sipush 0, .sipush 2, .invokestatic 143, .ifCond .eq 4, .iload 3, .sipush 0, .iload 2, .ifCond .ne 1, .sipush 23, .goto 3]
def bk_160_1 : List Instr := [.iload 2, .sipush 1, .if_icmp .ne 2, .sipush 9, .goto 3]
def bk_160_2 : List Instr := [.sipush 99, .goto_w 3]
def bk_160_3 : List Instr := [.invokestatic 143, .ifCond .ne 5, .goto_w 4]
def bk_160_4 : List Instr := [.aload 0, .sipush (-100001), .invokevirtual 142, .ireturn]
def bk_160_5 : List Instr := [.aload 0, .invokevirtual 147, .aload 0, .getfield 384, .sipush 115, .sipush 8, .iload 2, .imul, .iadd, .iload 1, .iadd, .iaload, .istore 4, .aload 0, .getfield 384, .sipush 115, .sipush 8, .iload 2, .imul, .iadd, .iload 1, .iadd, .iload 3, .iastore, .iload 4, .ireturn]
def bk_161_0 : List Instr := [.aload 0, .iload 1, .invokevirtual 144, .ifCond .ne 1, .aload 0, .sipush (-100001), .invokevirtual 142, .ireturn]
def bk_161_1 : List Instr := [.iload 2, .sipush 0, .aload 0, .getfield 384, .sipush 46, .iload 1, .iadd, .iaload, .sipush 1, .isub, .invokestatic 143, .ifCond .eq 2, .aload 0, .iload 1, .iload 2, .invokevirtual 152, .goto 3]
def bk_161_2 : List Instr := [.aload 0, .sipush (-100006), .invokevirtual 142, .goto_w 3]
def bk_161_3 : List Instr := [.ireturn]
def bk_162_0 : List Instr := [.aload 0, .getfield 384, .sipush 99, .iload 1, .iadd, .iaload, .aload 0, .getfield 384, .sipush 21, .iload 2, .iadd, .iaload, .if_icmp .gt 1, .aload 0, .getfield 384, .sipush 107, .iload 1, .iadd, .iaload, .aload 0, .getfield 384, .sipush 26, .iload 2, .iadd, .iaload, .if_icmp .gt 1, .sipush 1, .goto 2]
def bk_162_1 : List Instr := [.sipush 0, .goto_w 2]
def bk_162_2 : List Instr := [.ireturn]
def bk_163_0 : List Instr := [.aload 0, .iload 1, .invokevirtual 145, .ifCond .eq 1, .aload 0, .iload 2, .invokevirtual 144, .ifCond .ne 2, .goto_w 1]
def bk_163_1 : List Instr := [.aload 0, .sipush (-100001), .invokevirtual 142, .goto 4]
def bk_163_2 : List Instr := [.aload 0, .iload 1, .iload 2, .invokevirtual 162, .ifCond .eq 3, .sipush 1, .goto 4]
def bk_163_3 : List Instr := [.sipush 0, .goto_w 4]
def bk_163_4 : List Instr := [.ireturn]
def bk_164_0 : List Instr := [.aload 0, .getfield 384, .sipush 31, .iload 1, .iadd, .iaload, .sipush 1, .if_icmp .eq 1, .aload 0, .getfield 384, .sipush 41, .iload 1, .iadd, .iaload, .sipush 12, .if_icmp .ne 2, .goto_w 1]
def bk_164_1 : List Instr := [.sipush 1, .goto 3]
def bk_164_2 : List Instr := [.sipush 0, .goto_w 3]
def bk_164_3 : List Instr := [.ireturn]
def bk_165_0 : List Instr := [.aload 0, .iload 1, .invokevirtual 157, .istore 2, .iload 2, .ifCond .lt 1, .aload 0, .iload 2, .invokevirtual 158, .ifCond .ne 1, .aload 0, .iload 2, .sipush 8, .idiv, .invokevirtual 164, .ifCond .ne 1, .sipush 1, .goto 2]
def bk_165_1 : List Instr := [.sipush 0, .goto_w 2]
def bk_165_2 : List Instr := [.ireturn]
def bk_166_0 : List Instr := [.aload 0, .getfield 384, .sipush 41, .iload 1, .iadd, .dup2, .iaload, .aload 0, .iload 1, .invokevirtual 150, .ifCond .eq 1, .sipush 1, .goto 2]
def bk_166_1 : List Instr := [.sipush 0, .goto_w 2]
def bk_166_2 : List Instr := [.iadd, .iastore, .return_]
def bk_167_0 : List Instr := [.aload 0, .getfield 384, .sipush 51, .sipush 8, .iload 2, .imul, .iadd, .aload 0, .getfield 384, .sipush 46, .iload 2, .iadd, .iaload, .iadd, .iload 1, .iastore, .aload 0, .getfield 384, .sipush 46, .iload 2, .iadd, .dup2, .iaload, .sipush 1, .iadd, .iastore, .aload 0, .iload 2, .invokevirtual 166, .return_]
def bk_168_0 : List Instr := [.aload 0, .getfield 384, .sipush 46, .iload 1, .iadd, .dup2, .iaload, .sipush 1, .isub, .iastore, .aload 0, .iload 1, .invokevirtual 166, .return_]
def bk_169_0 : List Instr := [.aload 0, .iload 1, .invokevirtual 145, .ifCond .eq 1, .aload 0, .iload 2, .invokevirtual 144, .ifCond .ne 2, .goto_w 1]
def bk_169_1 : List Instr := [.aload 0, .sipush (-100001), .invokevirtual 142, .ireturn]
def bk_169_2 : List Instr := [.aload 0, .iload 1, .invokevirtual 157, .ifCond .lt 3, .aload 0, .sipush (-100007), .invokevirtual 142, .ireturn]
def bk_169_3 : List Instr := [.aload 0, .iload 1, .iload 2, .invokevirtual 162, .ifCond .ne 4, .aload 0, .sipush (-100004), .invokevirtual 142, .ireturn]
def bk_169_4 : List Instr := [.aload 0, .iload 2, .invokevirtual 164, .ifCond .eq 5, .aload 0, .sipush (-100008), .invokevirtual 142, .ireturn]
def bk_169_5 : List Instr := [.aload 0, .iload 2, .invokevirtual 153, .aload 0, .getfield 384, .sipush 91, .iload 1, .iadd, .iaload, .if_icmp .ge 6, .aload 0, .sipush (-100005), .invokevirtual 142, .ireturn]
def bk_169_6 : List Instr := [.aload 0, .invokevirtual 147, .aload 0, .iload 1, .iload 2, .invokevirtual 167, .aload 0, .getfield 384, .sipush 46, .iload 2, .iadd, .iaload, .ireturn]
def bk_170_0 : List Instr := [.aload 0, .iload 1, .invokevirtual 157, .istore 3, .iload 3, .ifCond .ge 1, .sipush (-100006), .ireturn]
def bk_170_1 : List Instr := [.iload 3, .sipush 8, .idiv, .iload 2, .if_icmp .ne 2, .sipush (-100007), .ireturn]
def bk_170_2 : List Instr := [.aload 0, .iload 1, .invokevirtual 165, .ifCond .eq 3, .aload 0, .iload 2, .invokevirtual 164, .ifCond .eq 4, .goto_w 3]
def bk_170_3 : List Instr := [.sipush (-100008), .ireturn]
def bk_170_4 : List Instr := [.aload 0, .iload 1, .iload 2, .invokevirtual 162, .ifCond .ne 5, .sipush (-100004), .ireturn]
def bk_170_5 : List Instr := [.aload 0, .iload 2, .invokevirtual 153, .aload 0, .getfield 384, .sipush 91, .iload 1, .iadd, .iaload, .if_icmp .ge 6, .sipush (-100005), .ireturn]
def bk_170_6 : List Instr := [.aload 0, .iload 1, .aload 0, .getfield 384, .sipush 2, .iaload, .aload 0, .getfield 384, .sipush 10, .iaload, .invokevirtual 228, .ifCond .eq 7, .sipush 0, .goto 8]
def bk_170_7 : List Instr := [.sipush (-100002), .goto_w 8]
def bk_170_8 : List Instr := [.ireturn]
def bk_171_0 : List Instr := [.aload 0, .aload 0, .iload 1, .invokevirtual 157, .sipush 8, .idiv, .invokevirtual 168, .aload 0, .iload 1, .iload 2, .invokevirtual 167, .return_]
def bk_172_0 : List Instr := [.aload 0, .getfield 384, .sipush 8, .iaload, .sipush 60, .if_icmp .ne 3, .sipush 1, .istore 2, .goto_w 1]
def bk_172_1 : List Instr := [.iload 2, .sipush 60, .if_icmp .ge 2, .aload 0, .getfield 384, .sipush 171, .iload 2, .iadd, .sipush 1, .isub, .aload 0, .getfield 384, .sipush 171, .iload 2, .iadd, .iaload, .iastore, .iinc 2 1, .goto 1]
def bk_172_2 : List Instr := [.aload 0, .getfield 384, .sipush 8, .dup2, .iaload, .sipush 1, .isub, .iastore, .goto_w 3]
def bk_172_3 : List Instr := [.aload 0, .getfield 384, .sipush 171, .aload 0, .getfield 384, .sipush 8, .iaload, .iadd, .iload 1, .iastore, .aload 0, .getfield 384, .sipush 8, .dup2, .iaload, .sipush 1, .iadd, .iastore, .return_]
def bk_173_0 : List Instr := [.aload 0, .iload 1, .invokevirtual 145, .ifCond .eq 1, .aload 0, .iload 2, .invokevirtual 144, .ifCond .ne 2, .goto_w 1]
def bk_173_1 : List Instr := [.aload 0, .sipush (-100001), .invokevirtual 142, .ireturn]
def bk_173_2 : List Instr := [.aload 0, .iload 1, .iload 2, .invokevirtual 170, .istore 3, .iload 3, .ifCond .eq 3, .aload 0, .iload 3, .invokevirtual 142, .ireturn]
def bk_173_3 : List Instr := [.aload 0, .iload 1, .iload 2, .aload 0, .getfield 384, .sipush 2, .iaload, .invokevirtual 218, .ifCond .ne 4, .aload 0, .sipush (-100009), .invokevirtual 142, .ireturn]
def bk_173_4 : List Instr := [.aload 0, .invokevirtual 147, .aload 0, .iload 1, .iload 2, .invokevirtual 171, .aload 0, .iload 1, .sipush 8, .aload 0, .getfield 384, .sipush 4, .iaload, .imul, .iadd, .invokevirtual 172, .aload 0, .getfield 384, .sipush 6, .dup2, .iaload, .sipush 1, .iadd, .iastore, .aload 0, .getfield 384, .sipush 6, .iaload, .ireturn]
def bk_174_0 : List Instr := [.aload 0, .iload 1, .invokevirtual 145, .ifCond .ne 1, .aload 0, .sipush (-100001), .invokevirtual 142, .ireturn]
def bk_174_1 : List Instr := [.aload 0, .iload 1, .invokevirtual 157, .istore 2, .iload 2, .ifCond .ge 2, .aload 0, .sipush (-100006), .invokevirtual 142, .ireturn]
def bk_174_2 : List Instr := [.aload 0, .iload 1, .invokevirtual 165, .ifCond .ne 3, .aload 0, .sipush (-100008), .invokevirtual 142, .ireturn]
def bk_174_3 : List Instr := [.aload 0, .invokevirtual 147, .aload 0, .iload 2, .sipush 8, .idiv, .invokevirtual 168, .aload 0, .getfield 384, .sipush 115, .iload 1, .iadd, .iaload, .ireturn]
def bk_175_0 : List Instr := [.aload 0, .invokevirtual 147, .sipush 0, .istore 1, .sipush 0, .istore 2, .goto_w 1]
def bk_175_1 : List Instr := [.iload 2, .sipush 5, .if_icmp .ge 2, .iload 1, .aload 0, .getfield 384, .sipush 41, .iload 2, .iadd, .iaload, .iadd, .istore 1, .aload 0, .getfield 384, .sipush 41, .iload 2, .iadd, .sipush 0, .iastore, .iinc 2 1, .goto 1]
def bk_175_2 : List Instr := [.aload 0, .getfield 384, .sipush 2, .sipush 0, .iastore, .iload 1, .ireturn]
def bk_176_0 : List Instr := [.iload 1, .invokestatic 146, .ifCond .ne 1, .aload 0, .sipush (-100001), .invokevirtual 142, .ireturn]
def bk_176_1 : List Instr := [.aload 0, .invokevirtual 147, .aload 0, .getfield 384, .sipush 2, .iaload, .istore 2, .aload 0, .getfield 384, .sipush 2, .iload 1, .iastore, .iload 2, .ireturn]
def bk_177_0 : List Instr := [.aload 0, .iload 1, .invokevirtual 145, .ifCond .ne 1, .aload 0, .sipush (-100001), .invokevirtual 142, .ireturn]
def bk_177_1 : List Instr := [.aload 0, .iload 1, .invokevirtual 157, .istore 2, .iload 2, .ifCond .ge 2, .aload 0, .sipush (-100006), .invokevirtual 142, .ireturn]
def bk_177_2 : List Instr := [.sipush 0, .istore 3, .iload 2, .sipush 8, .irem, .sipush 1, .iadd, .istore 4, .goto_w 3]
def bk_177_3 : List Instr := [.iload 4, .aload 0, .getfield 384, .sipush 46, .iload 2, .sipush 8, .idiv, .iadd, .iaload, .if_icmp .ge 4, .iload 3, .sipush 1, .aload 0, .iload 2, .sipush 8, .idiv, .iload 4, .invokevirtual 152, .ishl, .ior, .istore 3, .iinc 4 1, .goto 3]
def bk_177_4 : List Instr := [.iload 3, .ireturn]
def bk_178_0 : List Instr := [.sipush 0, .istore 2, .goto_w 1]
def bk_178_1 : List Instr := [.iload 2, .sipush 50, .if_icmp .ge 2, .aload 0, .getfield 391, .sipush 50, .iload 1, .imul, .iload 2, .iadd, .aload 0, .getfield 384, .sipush 41, .iload 2, .iadd, .iaload, .iastore, .iinc 2 1, .goto 1]
def bk_178_2 : List Instr := [.return_]
def bk_179_0 : List Instr := [.sipush 0, .istore 2, .goto_w 1]
def bk_179_1 : List Instr := [.iload 2, .sipush 50, .if_icmp .ge 2, .aload 0, .getfield 384, .sipush 41, .iload 2, .iadd, .aload 0, .getfield 391, .sipush 50, .iload 1, .imul, .iload 2, .iadd, .iaload, .iastore, .iinc 2 1, .goto 1]
def bk_179_2 : List Instr := [.return_]
def bk_180_0 : List Instr := [.iload 2, .iload 3, .if_icmp .ne 1, .aload 0, .iload 1, .invokevirtual 165, .ireturn]
def bk_180_1 : List Instr := [.aload 0, .iload 2, .invokevirtual 178, .sipush 0, .istore 4, .goto_w 2]
def bk_180_2 : List Instr := [.iload 4, .sipush 8, .aload 0, .getfield 384, .sipush 1, .iaload, .imul, .if_icmp .ge 5, .iload 4, .sipush 8, .idiv, .iload 1, .if_icmp .eq 4, .aload 0, .iload 4, .sipush 8, .irem, .invokevirtual 144, .ifCond .eq 4, .aload 0, .iload 4, .sipush 8, .idiv, .iload 4, .sipush 8, .irem, .invokevirtual 170, .ifCond .eq 3, .goto 4]
def bk_180_3 : List Instr := [.aload 0, .iload 4, .sipush 8, .idiv, .iload 4, .sipush 8, .irem, .invokevirtual 171, .aload 0, .getfield 392, .iload 2, .iload 4, .iastore, .aload 0, .iload 1, .iload 2, .sipush 1, .iadd, .iload 3, .invokevirtual 180, .istore 5, .aload 0, .iload 2, .invokevirtual 179, .iload 5, .ifCond .eq 4, .sipush 1, .ireturn]
def bk_180_4 : List Instr := [.iinc 4 1, .goto 2]
def bk_180_5 : List Instr := [.sipush 0, .ireturn]
def bk_181_0 : List Instr := [.sipush 0, .istore 2, .goto_w 1]
def bk_181_1 : List Instr := [.iload 2, .sipush 3, .if_icmp .gt 2, .aload 0, .iload 1, .sipush 0, .iload 2, .invokevirtual 180, .ifCond .ne 2, .iinc 2 1, .goto 1]
def bk_181_2 : List Instr := [.iload 2, .sipush 3, .if_icmp .le 3, .sipush (-1), .goto 4]
def bk_181_3 : List Instr := [.iload 2, .goto_w 4]
def bk_181_4 : List Instr := [.ireturn]
def bk_182_0 : List Instr := [.aload 0, .iload 1, .invokevirtual 145, .ifCond .ne 1, .aload 0, .sipush (-100001), .invokevirtual 142, .ireturn]
def bk_182_1 : List Instr := [.aload 0, .iload 1, .invokevirtual 157, .ifCond .ge 2, .sipush (-1), .goto 3]
def bk_182_2 : List Instr := [.aload 0, .iload 1, .invokevirtual 181, .goto_w 3]
def bk_182_3 : List Instr := [.istore 2, .iload 2, .ifCond .ge 4, .aload 0, .sipush (-100006), .invokevirtual 142, .goto 5]
def bk_182_4 : List Instr := [.iload 2, .goto_w 5]
def bk_182_5 : List Instr := [.ireturn]
def bk_183_0 : List Instr := [.aload 0, .iload 1, .invokevirtual 145, .ifCond .eq 1, .iload 2, .ifCond .ge 2, .goto_w 1]
def bk_183_1 : List Instr := [.aload 0, .sipush (-100001), .invokevirtual 142, .ireturn]
def bk_183_2 : List Instr := [.aload 0, .iload 1, .invokevirtual 157, .ifCond .ge 3, .sipush (-1), .goto 4]
def bk_183_3 : List Instr := [.aload 0, .iload 1, .invokevirtual 181, .goto_w 4]
def bk_183_4 : List Instr := [.istore 3, .iload 2, .iload 3, .if_icmp .lt 5, .aload 0, .sipush (-100006), .invokevirtual 142, .goto 6]
def bk_183_5 : List Instr := [.aload 0, .getfield 392, .iload 2, .iaload, .goto_w 6]
def bk_183_6 : List Instr := [.ireturn]
def bk_184_0 : List Instr := [.aload 0, .iload 1, .invokevirtual 145, .ifCond .eq 1, .iload 2, .invokestatic 230, .ifCond .ne 2, .goto_w 1]
def bk_184_1 : List Instr := [.aload 0, .sipush (-100001), .invokevirtual 142, .ireturn]
def bk_184_2 : List Instr := [.aload 0, .getfield 388, .iload 2, .iaload, .ifCond .ne 3, .aload 0, .sipush (-100002), .invokevirtual 142, .ireturn]
def bk_184_3 : List Instr := [.aload 0, .iload 1, .invokevirtual 157, .ifCond .ge 4, .aload 0, .sipush (-100006), .invokevirtual 142, .ireturn]
def bk_184_4 : List Instr := [.aload 0, .sipush 0, .invokevirtual 178, .sipush 0, .istore 3, .sipush 1, .istore 4, .goto_w 5]
def bk_184_5 : List Instr := [.iload 4, .ifCond .eq 9, .iload 3, .aload 0, .getfield 389, .iload 2, .iaload, .if_icmp .ge 9, .aload 0, .getfield 390, .sipush 20, .iload 2, .imul, .iload 3, .iadd, .iaload, .istore 5, .iload 5, .ifCond .lt 6, .aload 0, .iload 5, .sipush 8, .idiv, .invokevirtual 145, .ifCond .eq 6, .iload 5, .sipush 8, .idiv, .iload 1, .if_icmp .eq 6, .aload 0, .iload 5, .sipush 8, .irem, .invokevirtual 144, .ifCond .eq 6, .aload 0, .iload 5, .sipush 8, .idiv, .iload 5, .sipush 8, .irem, .invokevirtual 170, .ifCond .ne 6, .sipush 1, .goto 7]
def bk_184_6 : List Instr := [.sipush 0, .goto_w 7]
def bk_184_7 : List Instr := [.istore 4, .iload 4, .ifCond .eq 8, .aload 0, .iload 5, .sipush 8, .idiv, .iload 5, .sipush 8, .irem, .invokevirtual 171, .iinc 3 1, .goto_w 8]
def bk_184_8 : List Instr := [.goto 5]
def bk_184_9 : List Instr := [.iload 4, .ifCond .eq 10, .aload 0, .iload 1, .invokevirtual 165, .ifCond .eq 10, .sipush (-1), .goto 11]
def bk_184_10 : List Instr := [.iload 3, .goto_w 11]
def bk_184_11 : List Instr := [.istore 5, .aload 0, .sipush 0, .invokevirtual 179, .iload 5, .ireturn]
def bk_185_0 : List Instr := [.sipush 0, .istore 2, .sipush 0, .istore 3, .goto_w 1]
def bk_185_1 : List Instr := [.iload 3, .aload 0, .getfield 384, .sipush 46, .iload 1, .iadd, .iaload, .if_icmp .ge 6, .iload 3, .sipush 1, .iadd, .istore 4, .goto_w 2]
def bk_185_2 : List Instr := [.iload 4, .aload 0, .getfield 384, .sipush 46, .iload 1, .iadd, .iaload, .if_icmp .ge 5, .iload 2, .aload 0, .getfield 384, .sipush 115, .aload 0, .iload 1, .iload 4, .invokevirtual 152, .iadd, .iaload, .aload 0, .getfield 384, .sipush 115, .aload 0, .iload 1, .iload 3, .invokevirtual 152, .iadd, .iaload, .if_icmp .le 3, .sipush 2, .goto 4]
def bk_185_3 : List Instr := [.sipush 0, .goto_w 4]
def bk_185_4 : List Instr := [.iadd, .istore 2, .iinc 4 1, .goto 2]
def bk_185_5 : List Instr := [.iinc 3 1, .goto 1]
def bk_185_6 : List Instr := [.iload 2, .ireturn]
def bk_186_0 : List Instr := [.iload 1, .sipush (-1), .if_icmp .eq 1, .aload 0, .iload 1, .invokevirtual 144, .ifCond .ne 1, .aload 0, .sipush (-100001), .invokevirtual 142, .ireturn]
def bk_186_1 : List Instr := [.sipush 0, .istore 2, .sipush 0, .istore 3, .goto_w 2]
def bk_186_2 : List Instr := [.iload 3, .aload 0, .getfield 384, .sipush 0, .iaload, .if_icmp .ge 6, .iload 2, .iload 1, .sipush (-1), .if_icmp .eq 3, .iload 1, .iload 3, .if_icmp .ne 4, .goto_w 3]
def bk_186_3 : List Instr := [.aload 0, .iload 3, .invokevirtual 185, .goto 5]
def bk_186_4 : List Instr := [.sipush 0, .goto_w 5]
def bk_186_5 : List Instr := [.iadd, .istore 2, .iinc 3 1, .goto 2]
def bk_186_6 : List Instr := [.iload 2, .ireturn]
def bk_187_0 : List Instr := [.sipush 0, .istore 2, .goto_w 1]
def bk_187_1 : List Instr := [.iload 2, .aload 0, .getfield 384, .sipush 7, .iaload, .if_icmp .ge 3, .aload 0, .getfield 384, .sipush 139, .iload 2, .iadd, .iaload, .iload 1, .if_icmp .ne 2, .iload 2, .ireturn]
def bk_187_2 : List Instr := [.iinc 2 1, .goto 1]
def bk_187_3 : List Instr := [.sipush (-1), .ireturn]
def bk_188_0 : List Instr := [.aload 0, .iload 1, .invokevirtual 145, .ifCond .ne 1, .aload 0, .sipush (-100001), .invokevirtual 142, .ireturn]
def bk_188_1 : List Instr := [.aload 0, .iload 1, .invokevirtual 187, .ifCond .lt 2, .aload 0, .sipush (-100007), .invokevirtual 142, .ireturn]
def bk_188_2 : List Instr := [.aload 0, .getfield 384, .sipush 7, .iaload, .sipush 7, .if_icmp .ne 3, .aload 0, .sipush (-100005), .invokevirtual 142, .ireturn]
def bk_188_3 : List Instr := [.aload 0, .invokevirtual 147, .aload 0, .getfield 384, .sipush 139, .aload 0, .getfield 384, .sipush 7, .iaload, .iadd, .iload 1, .iastore, .aload 0, .getfield 384, .sipush 7, .dup2, .iaload, .sipush 1, .iadd, .iastore, .aload 0, .getfield 384, .sipush 7, .iaload, .ireturn]
def bk_189_0 : List Instr := [.aload 0, .invokevirtual 147, .aload 0, .getfield 384, .sipush 7, .iaload, .istore 1, .aload 0, .getfield 384, .sipush 7, .sipush 0, .iastore, .iload 1, .ireturn]
def bk_190_0 : List Instr := [.aload 0, .getfield 384, .sipush 139, .iload 1, .iadd, .iaload, .istore 3, .aload 0, .getfield 384, .sipush 16, .iload 2, .iadd, .iaload, .aload 0, .getfield 384, .sipush 91, .iload 3, .iadd, .iaload, .isub, .istore 4, .sipush 0, .istore 5, .sipush 0, .istore 6, .goto_w 1]
def bk_190_1 : List Instr := [.iload 6, .iload 1, .if_icmp .ge 5, .aload 0, .getfield 384, .sipush 139, .iload 6, .iadd, .iaload, .istore 7, .aload 0, .getfield 393, .iload 6, .iaload, .iload 2, .if_icmp .ne 4, .iload 4, .aload 0, .getfield 384, .sipush 91, .iload 7, .iadd, .iaload, .isub, .istore 4, .iload 5, .aload 0, .getfield 384, .sipush 115, .iload 3, .iadd, .iaload, .aload 0, .getfield 384, .sipush 115, .iload 7, .iadd, .iaload, .if_icmp .le 2, .sipush 2, .goto 3]
def bk_190_2 : List Instr := [.sipush 0, .goto_w 3]
def bk_190_3 : List Instr := [.iadd, .istore 5, .goto_w 4]
def bk_190_4 : List Instr := [.iinc 6 1, .goto 1]
def bk_190_5 : List Instr := [.aload 0, .iload 3, .iload 2, .invokevirtual 162, .ifCond .eq 6, .iload 4, .ifCond .lt 6, .iload 5, .goto 7]
def bk_190_6 : List Instr := [.sipush (-1), .goto_w 7]
def bk_190_7 : List Instr := [.ireturn]
def bk_191_0 : List Instr := [.iload 1, .aload 0, .getfield 384, .sipush 7, .iaload, .if_icmp .ne 3, .aload 0, .iload 2, .putfield 395, .sipush 0, .istore 3, .goto_w 1]
def bk_191_1 : List Instr := [.iload 3, .iload 1, .if_icmp .ge 2, .aload 0, .getfield 394, .iload 3, .aload 0, .getfield 393, .iload 3, .iaload, .iastore, .iinc 3 1, .goto 1]
def bk_191_2 : List Instr := [.return_]
def bk_191_3 : List Instr := [.sipush 0, .istore 3, .goto_w 4]
def bk_191_4 : List Instr := [.iload 3, .aload 0, .getfield 384, .sipush 0, .iaload, .if_icmp .ge 7, .aload 0, .iload 1, .iload 3, .invokevirtual 190, .istore 4, .iload 4, .ifCond .lt 6, .aload 0, .getfield 395, .ifCond .lt 5, .iload 2, .iload 4, .iadd, .aload 0, .getfield 395, .if_icmp .ge 6, .goto_w 5]
def bk_191_5 : List Instr := [.aload 0, .getfield 393, .iload 1, .iload 3, .iastore, .aload 0, .iload 1, .sipush 1, .iadd, .iload 2, .iload 4, .iadd, .invokevirtual 191, .goto_w 6]
def bk_191_6 : List Instr := [.iinc 3 1, .goto 4]
def bk_191_7 : List Instr := [.return_]
def bk_192_0 : List Instr := [.aload 0, .sipush (-1), .putfield 395, .aload 0, .sipush 0, .sipush 0, .invokevirtual 191, .return_]
def bk_193_0 : List Instr := [.aload 0, .invokevirtual 192, .aload 0, .getfield 395, .ifCond .ge 1, .aload 0, .sipush (-100006), .invokevirtual 142, .goto 2]
def bk_193_1 : List Instr := [.aload 0, .getfield 395, .goto_w 2]
def bk_193_2 : List Instr := [.ireturn]
def bk_194_0 : List Instr := [.aload 0, .iload 1, .invokevirtual 145, .ifCond .ne 1, .aload 0, .sipush (-100001), .invokevirtual 142, .ireturn]
def bk_194_1 : List Instr := [.aload 0, .invokevirtual 192, .aload 0, .iload 1, .invokevirtual 187, .istore 2, .aload 0, .getfield 395, .ifCond .lt 2, .iload 2, .ifCond .ge 3, .goto_w 2]
def bk_194_2 : List Instr := [.aload 0, .sipush (-100006), .invokevirtual 142, .goto 4]
def bk_194_3 : List Instr := [.aload 0, .getfield 394, .iload 2, .iaload, .goto_w 4]
def bk_194_4 : List Instr := [.ireturn]
def bk_195_0 : List Instr := [.iload 1, .sipush 0, .sipush 3, .invokestatic 143, .ifCond .ne 1, .aload 0, .sipush (-100001), .invokevirtual 142, .ireturn]
def bk_195_1 : List Instr := [.aload 0, .invokevirtual 147, .aload 0, .getfield 384, .sipush 3, .iaload, .istore 2, .aload 0, .getfield 384, .sipush 3, .iload 1, .iastore, .iload 2, .ireturn]
def bk_196_0 : List Instr := [.sipush 0, .istore 2, .goto_w 1]
def bk_196_1 : List Instr := [.iload 2, .sipush 8, .if_icmp .ge 4, .aload 0, .getfield 396, .iload 2, .iload 1, .iload 2, .ishr, .sipush 1, .iand, .sipush 1, .if_icmp .ne 2, .aload 0, .getfield 384, .sipush 123, .iload 2, .iadd, .iaload, .goto 3]
def bk_196_2 : List Instr := [.sipush 0, .goto_w 3]
def bk_196_3 : List Instr := [.iastore, .iinc 2 1, .goto 1]
def bk_196_4 : List Instr := [.return_]
def bk_197_0 : List Instr := [.sipush 0, .istore 2, .sipush 0, .istore 3, .goto_w 1]
def bk_197_1 : List Instr := [.iload 3, .aload 0, .getfield 384, .sipush 3, .iaload, .if_icmp .ge 15, .sipush (-1), .istore 4, .sipush 0, .istore 5, .goto_w 2]
def bk_197_2 : List Instr := [.iload 5, .sipush 8, .if_icmp .ge 8, .iload 2, .iload 5, .ishr, .sipush 1, .iand, .ifCond .ne 3, .aload 0, .getfield 396, .iload 5, .iaload, .ifCond .le 3, .aload 0, .getfield 384, .sipush 115, .iload 5, .iadd, .iaload, .iload 1, .if_icmp .le 3, .sipush 1, .goto 4]
def bk_197_3 : List Instr := [.sipush 0, .goto_w 4]
def bk_197_4 : List Instr := [.istore 6, .iload 6, .ifCond .eq 6, .iload 4, .ifCond .lt 5, .aload 0, .getfield 396, .iload 5, .iaload, .aload 0, .getfield 396, .iload 4, .iaload, .if_icmp .le 6, .goto_w 5]
def bk_197_5 : List Instr := [.iload 5, .goto 7]
def bk_197_6 : List Instr := [.iload 4, .goto_w 7]
def bk_197_7 : List Instr := [.istore 4, .iinc 5 1, .goto 2]
def bk_197_8 : List Instr := [.iload 2, .iload 4, .ifCond .lt 9, .sipush 1, .iload 4, .ishl, .goto 10]
def bk_197_9 : List Instr := [.sipush 0, .goto_w 10]
def bk_197_10 : List Instr := [.ior, .istore 2, .sipush 0, .istore 5, .goto_w 11]
def bk_197_11 : List Instr := [.iload 5, .sipush 8, .if_icmp .ge 14, .aload 0, .getfield 396, .iload 5, .dup2, .iaload, .iload 5, .iload 4, .if_icmp .ne 12, .sipush 1, .goto 13]
def bk_197_12 : List Instr := [.sipush 0, .goto_w 13]
def bk_197_13 : List Instr := [.isub, .iastore, .iinc 5 1, .goto 11]
def bk_197_14 : List Instr := [.iinc 3 1, .goto 1]
def bk_197_15 : List Instr := [.iload 2, .ireturn]
def bk_198_0 : List Instr := [.aload 0, .iload 1, .invokevirtual 196, .sipush 23, .istore 2, .goto_w 1]
def bk_198_1 : List Instr := [.iload 2, .ifCond .lt 2, .aload 0, .iload 2, .invokevirtual 197, .istore 3, .iinc 2 (-1), .goto 1]
def bk_198_2 : List Instr := [.sipush 0, .istore 2, .sipush 0, .istore 3, .goto_w 3]
def bk_198_3 : List Instr := [.iload 3, .sipush 8, .if_icmp .ge 4, .iload 2, .aload 0, .getfield 396, .iload 3, .iaload, .iadd, .istore 2, .iinc 3 1, .goto 3]
def bk_198_4 : List Instr := [.iload 2, .ifCond .ne 5, .sipush 1, .goto 6]
def bk_198_5 : List Instr := [.sipush 0, .goto_w 6]
def bk_198_6 : List Instr := [.ireturn]
def bk_199_0 : List Instr := [.sipush 0, .istore 1, .sipush 0, .istore 2, .goto_w 1]
def bk_199_1 : List Instr := [.iload 2, .sipush 8, .if_icmp .ge 2, .iload 1, .iload 0, .iload 2, .ishr, .sipush 1, .iand, .iadd, .istore 1, .iinc 2 1, .goto 1]
def bk_199_2 : List Instr := [.iload 1, .ireturn]
def bk_200_0 : List Instr := [.sipush 0, .istore 1, .sipush 0, .istore 2, .goto_w 1]
def bk_200_1 : List Instr := [.iload 2, .aload 0, .getfield 384, .sipush 1, .iaload, .if_icmp .ge 4, .iload 1, .aload 0, .getfield 384, .sipush 123, .iload 2, .iadd, .iaload, .ifCond .le 2, .aload 0, .iload 2, .invokevirtual 157, .ifCond .lt 2, .sipush 1, .iload 2, .ishl, .goto 3]
def bk_200_2 : List Instr := [.sipush 0, .goto_w 3]
def bk_200_3 : List Instr := [.ior, .istore 1, .iinc 2 1, .goto 1]
def bk_200_4 : List Instr := [.sipush 0, .istore 2, .sipush 1, .istore 3, .goto_w 5]
def bk_200_5 : List Instr := [.iload 3, .iload 1, .if_icmp .gt 7, .iload 3, .iload 1, .sipush (-1), .ixor, .iand, .ifCond .ne 6, .iload 3, .invokestatic 199, .iload 2, .invokestatic 199, .if_icmp .le 6, .aload 0, .iload 3, .invokevirtual 198, .ifCond .eq 6, .iload 3, .istore 2, .goto_w 6]
def bk_200_6 : List Instr := [.iinc 3 1, .goto 5]
def bk_200_7 : List Instr := [.iload 2, .ireturn]
def bk_201_0 : List Instr := [.aload 0, .invokevirtual 200, .ireturn]
def bk_202_0 : List Instr := [.iload 1, .invokestatic 146, .ifCond .ne 1, .aload 0, .sipush (-100001), .invokevirtual 142, .ireturn]
def bk_202_1 : List Instr := [.aload 0, .aload 0, .invokevirtual 200, .invokevirtual 196, .sipush 0, .istore 2, .sipush 23, .istore 3, .goto_w 2]
def bk_202_2 : List Instr := [.iload 3, .iload 1, .if_icmp .lt 3, .aload 0, .iload 3, .invokevirtual 197, .istore 2, .iinc 3 (-1), .goto 2]
def bk_202_3 : List Instr := [.iload 2, .ireturn]
def bk_203_0 : List Instr := [.iload 1, .sipush 0, .sipush 4, .invokestatic 143, .ifCond .eq 1, .iload 2, .sipush 0, .sipush 4, .invokestatic 143, .ifCond .eq 1, .iload 3, .sipush 0, .sipush 999, .invokestatic 143, .ifCond .ne 2, .goto_w 1]
def bk_203_1 : List Instr := [.aload 0, .sipush (-100001), .invokevirtual 142, .ireturn]
def bk_203_2 : List Instr := [.aload 0, .invokevirtual 147, .aload 0, .getfield 384, .sipush 146, .sipush 5, .iload 1, .imul, .iadd, .iload 2, .iadd, .iaload, .istore 4, .aload 0, .getfield 384, .sipush 146, .sipush 5, .iload 1, .imul, .iadd, .iload 2, .iadd, .iload 3, .iastore, .iload 4, .ireturn]
def bk_204_0 : List Instr := [.iload 1, .sipush 5, .if_icmp .ne 1, .sipush 0, .ireturn]
def bk_204_1 : List Instr := [.iload 1, .iload 3, .if_icmp .ne 2, .aload 0, .iload 1, .sipush 1, .iadd, .iload 2, .iload 3, .invokevirtual 204, .ireturn]
def bk_204_2 : List Instr := [.sipush (-1), .istore 4, .sipush 0, .istore 5, .goto_w 3]
def bk_204_3 : List Instr := [.iload 5, .sipush 5, .if_icmp .ge 5, .iload 2, .iload 5, .ishr, .sipush 1, .iand, .sipush 1, .if_icmp .ne 4, .iload 4, .aload 0, .getfield 384, .sipush 146, .sipush 5, .iload 1, .imul, .iadd, .iload 5, .iadd, .iaload, .aload 0, .iload 1, .sipush 1, .iadd, .iload 2, .sipush 1, .iload 5, .ishl, .sipush (-1), .ixor, .iand, .iload 3, .invokevirtual 204, .iadd, .invokestatic 236, .istore 4, .goto_w 4]
def bk_204_4 : List Instr := [.iinc 5 1, .goto 3]
def bk_204_5 : List Instr := [.iload 4, .ireturn]
def bk_205_0 : List Instr := [.sipush 31, .istore 1, .aload 0, .sipush 0, .iload 1, .sipush (-1), .invokevirtual 204, .istore 2, .iload 2, .istore 3, .sipush 0, .istore 4, .goto_w 1]
def bk_205_1 : List Instr := [.iload 4, .sipush 5, .if_icmp .ge 5, .sipush 0, .istore 5, .goto_w 2]
def bk_205_2 : List Instr := [.iload 1, .iload 5, .ishr, .sipush 1, .iand, .ifCond .eq 3, .aload 0, .getfield 384, .sipush 146, .sipush 5, .iload 4, .imul, .iadd, .iload 5, .iadd, .iaload, .aload 0, .iload 4, .sipush 1, .iadd, .iload 1, .sipush 1, .iload 5, .ishl, .sipush (-1), .ixor, .iand, .sipush (-1), .invokevirtual 204, .iadd, .iload 3, .if_icmp .eq 4, .goto_w 3]
def bk_205_3 : List Instr := [.iinc 5 1, .goto 2]
def bk_205_4 : List Instr := [.aload 0, .getfield 397, .iload 4, .iload 5, .iastore, .iload 1, .sipush 1, .iload 5, .ishl, .sipush (-1), .ixor, .iand, .istore 1, .iload 3, .aload 0, .getfield 384, .sipush 146, .sipush 5, .iload 4, .imul, .iadd, .iload 5, .iadd, .iaload, .isub, .istore 3, .iinc 4 1, .goto 1]
def bk_205_5 : List Instr := [.iload 2, .ireturn]
def bk_206_0 : List Instr := [.iload 1, .sipush 0, .sipush 4, .invokestatic 143, .ifCond .ne 1, .aload 0, .sipush (-100001), .invokevirtual 142, .ireturn]
def bk_206_1 : List Instr := [.aload 0, .invokevirtual 205, .istore 2, .aload 0, .getfield 397, .iload 1, .iaload, .ireturn]
def bk_207_0 : List Instr := [.iload 1, .sipush 0, .sipush 4, .invokestatic 143, .ifCond .ne 1, .aload 0, .sipush (-100001), .invokevirtual 142, .ireturn]
def bk_207_1 : List Instr := [.aload 0, .invokevirtual 205, .aload 0, .getfield 384, .sipush 146, .sipush 5, .iload 1, .imul, .iadd, .aload 0, .getfield 397, .iload 1, .iaload, .iadd, .iaload, .isub, .istore 2, .aload 0, .sipush 0, .sipush 31, .iload 1, .invokevirtual 204, .iload 2, .isub, .ireturn]
def bk_208_0 : List Instr := [.aload 0, .invokevirtual 205, .ireturn]
def bk_209_0 : List Instr := [.iload 1, .sipush 0, .sipush 3, .invokestatic 143, .ifCond .ne 1, .aload 0, .sipush (-100001), .invokevirtual 142, .ireturn]
def bk_209_1 : List Instr := [.aload 0, .invokevirtual 147, .aload 0, .getfield 384, .sipush 4, .iaload, .istore 2, .aload 0, .getfield 384, .sipush 4, .iload 1, .iastore, .iload 2, .ireturn]
def bk_210_0 : List Instr := [.aload 0, .iload 1, .invokevirtual 145, .ifCond .ne 1, .aload 0, .sipush (-100001), .invokevirtual 142, .ireturn]
def bk_210_1 : List Instr := [.aload 0, .invokevirtual 147, .aload 0, .sipush 64, .iload 1, .iadd, .iload 2, .ifCond .eq 2, .sipush 8, .goto 3]
def bk_210_2 : List Instr := [.sipush 0, .goto_w 3]
def bk_210_3 : List Instr := [.iadd, .invokevirtual 172, .aload 0, .getfield 384, .sipush 8, .iaload, .ireturn]
def bk_211_0 : List Instr := [.aload 0, .iload 1, .invokevirtual 145, .ifCond .eq 1, .iload 2, .sipush 0, .sipush 3, .invokestatic 143, .ifCond .eq 1, .iload 3, .sipush 0, .sipush 9999, .invokestatic 143, .ifCond .ne 2, .goto_w 1]
def bk_211_1 : List Instr := [.aload 0, .sipush (-100001), .invokevirtual 142, .ireturn]
def bk_211_2 : List Instr := [.sipush (-1), .istore 4, .sipush 0, .istore 5, .goto_w 3]
def bk_211_3 : List Instr := [.iload 5, .aload 0, .getfield 384, .sipush 8, .iaload, .if_icmp .ge 6, .aload 0, .getfield 384, .sipush 171, .iload 5, .iadd, .iaload, .sipush 64, .iload 1, .iadd, .if_icmp .ne 4, .iload 5, .goto 5]
def bk_211_4 : List Instr := [.iload 4, .goto_w 5]
def bk_211_5 : List Instr := [.istore 4, .iinc 5 1, .goto 3]
def bk_211_6 : List Instr := [.iload 4, .sipush 1, .iadd, .istore 5, .goto_w 7]
def bk_211_7 : List Instr := [.iload 4, .ifCond .lt 8, .iload 5, .aload 0, .getfield 384, .sipush 8, .iaload, .if_icmp .ge 8, .aload 0, .getfield 384, .sipush 171, .iload 5, .iadd, .iaload, .sipush 72, .iload 1, .iadd, .if_icmp .eq 8, .iinc 5 1, .goto 7]
def bk_211_8 : List Instr := [.iload 4, .ifCond .lt 9, .iload 5, .aload 0, .getfield 384, .sipush 8, .iaload, .if_icmp .ne 10, .goto_w 9]
def bk_211_9 : List Instr := [.aload 0, .sipush (-100006), .invokevirtual 142, .ireturn]
def bk_211_10 : List Instr := [.sipush 4, .newarray .int, .astore 6, .sipush 0, .istore 7, .iload 4, .istore 8, .goto_w 11]
def bk_211_11 : List Instr := [.iload 8, .iload 5, .if_icmp .ge 13, .aload 0, .getfield 384, .sipush 171, .iload 8, .iadd, .iaload, .istore 9, .iload 9, .sipush 64, .if_icmp .ge 12, .iload 9, .sipush 8, .irem, .iload 1, .if_icmp .ne 12, .aload 6, .iload 9, .sipush 8, .idiv, .dup2, .iaload, .sipush 1, .iadd, .iastore, .iinc 7 1, .goto_w 12]
def bk_211_12 : List Instr := [.iinc 8 1, .goto 11]
def bk_211_13 : List Instr := [.iload 7, .ifCond .ne 14, .aload 0, .sipush (-100006), .invokevirtual 142, .ireturn]
def bk_211_14 : List Instr := [.sipush 0, .istore 8, .sipush (-1), .istore 9, .sipush 3, .istore 10, .goto_w 15]
def bk_211_15 : List Instr := [.iload 10, .ifCond .lt 18, .iload 8, .iload 3, .aload 6, .iload 10, .iaload, .imul, .iload 7, .idiv, .iadd, .istore 8, .aload 6, .iload 10, .iaload, .ifCond .le 16, .iload 10, .goto 17]
def bk_211_16 : List Instr := [.iload 9, .goto_w 17]
def bk_211_17 : List Instr := [.istore 9, .iinc 10 (-1), .goto 15]
def bk_211_18 : List Instr := [.iload 3, .aload 6, .iload 2, .iaload, .imul, .iload 7, .idiv, .iload 2, .iload 9, .if_icmp .ne 19, .iload 3, .iload 8, .isub, .goto 20]
def bk_211_19 : List Instr := [.sipush 0, .goto_w 20]
def bk_211_20 : List Instr := [.iadd, .ireturn]
def bk_212_0 : List Instr := [.iload 0, .sipush 1, .sipush 6, .invokestatic 143, .ifCond .ne 1, .iload 0, .sipush 10, .sipush 33, .invokestatic 143, .ifCond .ne 1, .iload 0, .sipush 40, .sipush 44, .invokestatic 143, .ifCond .eq 2, .goto_w 1]
def bk_212_1 : List Instr := [.sipush 1, .goto 3]
def bk_212_2 : List Instr := [.sipush 0, .goto_w 3]
def bk_212_3 : List Instr := [.ireturn]
def bk_213_0 : List Instr := [.iload 1, .invokestatic 230, .ifCond .ne 1, .aload 0, .sipush (-100001), .invokevirtual 142, .ireturn]
def bk_213_1 : List Instr := [.aload 0, .getfield 388, .iload 1, .iaload, .ifCond .ne 2, .aload 0, .sipush (-100002), .invokevirtual 142, .ireturn]
def bk_213_2 : List Instr := [.aload 0, .getfield 389, .iload 1, .iaload, .sipush 16, .if_icmp .le 3, .aload 0, .sipush (-100003), .invokevirtual 142, .ireturn]
def bk_213_3 : List Instr := [.sipush 0, .istore 2, .goto_w 4]
def bk_213_4 : List Instr := [.iload 2, .aload 0, .getfield 389, .iload 1, .iaload, .if_icmp .ge 6, .aload 0, .getfield 390, .sipush 20, .iload 1, .imul, .iload 2, .iadd, .iaload, .invokestatic 212, .ifCond .ne 5, .aload 0, .sipush (-100001), .invokevirtual 142, .ireturn]
def bk_213_5 : List Instr := [.iinc 2 1, .goto 4]
def bk_213_6 : List Instr := [.aload 0, .invokevirtual 147, .aload 0, .getfield 384, .sipush 9, .aload 0, .getfield 389, .iload 1, .iaload, .iastore, .sipush 0, .istore 2, .goto_w 7]
def bk_213_7 : List Instr := [.iload 2, .aload 0, .getfield 389, .iload 1, .iaload, .if_icmp .ge 8, .aload 0, .getfield 384, .sipush 231, .iload 2, .iadd, .aload 0, .getfield 390, .sipush 20, .iload 1, .imul, .iload 2, .iadd, .iaload, .iastore, .iinc 2 1, .goto 7]
def bk_213_8 : List Instr := [.aload 0, .getfield 389, .iload 1, .iaload, .ireturn]
def bk_214_0 : List Instr := [.sipush 0, .istore 1, .sipush 0, .istore 2, .goto_w 1]
def bk_214_1 : List Instr := [.iload 2, .aload 0, .getfield 384, .sipush 9, .iaload, .if_icmp .ge 7, .aload 0, .getfield 384, .sipush 231, .iload 2, .iadd, .iaload, .istore 3, .iload 3, .sipush 40, .if_icmp .ge 2, .sipush 0, .goto 4]
def bk_214_2 : List Instr := [.iload 3, .sipush 42, .if_icmp .ne 3, .sipush 1, .goto 4]
def bk_214_3 : List Instr := [.sipush 2, .goto_w 4]
def bk_214_4 : List Instr := [.istore 4, .iload 1, .iload 4, .if_icmp .lt 5, .iload 3, .sipush 40, .if_icmp .ge 6, .iload 1, .sipush 5, .if_icmp .ne 6, .goto_w 5]
def bk_214_5 : List Instr := [.iload 2, .ireturn]
def bk_214_6 : List Instr := [.iload 1, .sipush 1, .iload 4, .isub, .iadd, .istore 1, .iinc 2 1, .goto 1]
def bk_214_7 : List Instr := [.iload 1, .sipush 1, .if_icmp .eq 8, .aload 0, .getfield 384, .sipush 9, .iaload, .ifCond .ne 9, .goto_w 8]
def bk_214_8 : List Instr := [.sipush (-1), .goto 10]
def bk_214_9 : List Instr := [.aload 0, .getfield 384, .sipush 9, .iaload, .goto_w 10]
def bk_214_10 : List Instr := [.ireturn]
def bk_215_0 : List Instr := [.aload 0, .invokevirtual 214, .ireturn]
def bk_216_0 : List Instr := [.iload 1, .tableswitch 7 1 6 #[1, 2, 3, 4, 5, 6]]
def bk_216_1 : List Instr := [.iload 4, .ireturn]
def bk_216_2 : List Instr := [.aload 0, .getfield 384, .sipush 91, .iload 2, .iadd, .iaload, .ireturn]
def bk_216_3 : List Instr := [.aload 0, .getfield 384, .sipush 107, .iload 2, .iadd, .iaload, .ireturn]
def bk_216_4 : List Instr := [.iload 3, .ireturn]
def bk_216_5 : List Instr := [.aload 0, .getfield 384, .sipush 11, .iload 3, .iadd, .iaload, .ireturn]
def bk_216_6 : List Instr := [.aload 0, .getfield 384, .sipush 4, .iaload, .ireturn]
def bk_216_7 : List Instr := [.iload 1, .sipush 10, .isub, .ireturn]
def bk_217_0 : List Instr := [.iload 0, .sipush 40, .if_icmp .ne 2, .iload 1, .iload 2, .if_icmp .ge 1, .sipush 1, .goto 9]
def bk_217_1 : List Instr := [.sipush 0, .goto 9]
def bk_217_2 : List Instr := [.iload 0, .sipush 41, .if_icmp .ne 4, .iload 1, .iload 2, .if_icmp .ne 3, .sipush 1, .goto 9]
def bk_217_3 : List Instr := [.sipush 0, .goto 9]
def bk_217_4 : List Instr := [.iload 0, .sipush 43, .if_icmp .ne 6, .iload 1, .ifCond .eq 5, .iload 2, .ifCond .eq 5, .sipush 1, .goto 9]
def bk_217_5 : List Instr := [.sipush 0, .goto 9]
def bk_217_6 : List Instr := [.iload 1, .ifCond .ne 7, .iload 2, .ifCond .eq 8, .goto_w 7]
def bk_217_7 : List Instr := [.sipush 1, .goto 9]
def bk_217_8 : List Instr := [.sipush 0, .goto_w 9]
def bk_217_9 : List Instr := [.ireturn]
def bk_218_0 : List Instr := [.aload 0, .getfield 384, .sipush 9, .iaload, .ifCond .ne 1, .sipush 1, .ireturn]
def bk_218_1 : List Instr := [.aload 0, .invokevirtual 214, .ifCond .lt 2, .sipush 0, .ireturn]
def bk_218_2 : List Instr := [.sipush 0, .istore 4, .sipush 0, .istore 5, .goto_w 3]
def bk_218_3 : List Instr := [.iload 5, .aload 0, .getfield 384, .sipush 9, .iaload, .if_icmp .ge 11, .aload 0, .getfield 384, .sipush 231, .iload 5, .iadd, .iaload, .istore 6, .iload 6, .sipush 40, .if_icmp .ge 4, .aload 0, .getfield 398, .iload 4, .aload 0, .iload 6, .iload 1, .iload 2, .iload 3, .invokevirtual 216, .iastore, .iinc 4 1, .goto 10]
def bk_218_4 : List Instr := [.iload 6, .sipush 42, .if_icmp .ne 7, .aload 0, .getfield 398, .iload 4, .sipush 1, .isub, .aload 0, .getfield 398, .iload 4, .sipush 1, .isub, .iaload, .ifCond .ne 5, .sipush 1, .goto 6]
def bk_218_5 : List Instr := [.sipush 0, .goto_w 6]
def bk_218_6 : List Instr := [.iastore, .goto 10]
def bk_218_7 : List Instr := [.iinc 4 (-1), .aload 0, .getfield 398, .iload 4, .sipush 1, .isub, .iload 6, .aload 0, .getfield 398, .iload 4, .sipush 1, .isub, .iaload, .aload 0, .getfield 398, .iload 4, .iaload, .invokestatic 217, .ifCond .eq 8, .sipush 1, .goto 9]
def bk_218_8 : List Instr := [.sipush 0, .goto_w 9]
def bk_218_9 : List Instr := [.iastore, .goto_w 10]
def bk_218_10 : List Instr := [.iinc 5 1, .goto 3]
def bk_218_11 : List Instr := [.aload 0, .getfield 398, .sipush 0, .iaload, .ifCond .eq 12, .sipush 1, .goto 13]
def bk_218_12 : List Instr := [.sipush 0, .goto_w 13]
def bk_218_13 : List Instr := [.ireturn]
def bk_219_0 : List Instr := [.aload 0, .iload 1, .invokevirtual 145, .ifCond .eq 1, .aload 0, .iload 2, .invokevirtual 144, .ifCond .eq 1, .iload 3, .invokestatic 146, .ifCond .ne 2, .goto_w 1]
def bk_219_1 : List Instr := [.aload 0, .sipush (-100001), .invokevirtual 142, .ireturn]
def bk_219_2 : List Instr := [.aload 0, .iload 1, .iload 2, .iload 3, .invokevirtual 218, .ifCond .eq 3, .sipush 1, .goto 4]
def bk_219_3 : List Instr := [.sipush 0, .goto_w 4]
def bk_219_4 : List Instr := [.ireturn]
def bk_220_0 : List Instr := [.aload 0, .iload 1, .invokevirtual 144, .ifCond .eq 1, .iload 2, .sipush 0, .sipush 200, .invokestatic 143, .ifCond .ne 2, .goto_w 1]
def bk_220_1 : List Instr := [.aload 0, .sipush (-100001), .invokevirtual 142, .ireturn]
def bk_220_2 : List Instr := [.aload 0, .invokevirtual 147, .aload 0, .getfield 384, .sipush 36, .iload 1, .iadd, .iaload, .istore 3, .aload 0, .getfield 384, .sipush 36, .iload 1, .iadd, .iload 2, .iastore, .iload 3, .ireturn]
def bk_221_0 : List Instr := [.iload 1, .sipush 1, .sipush 30, .invokestatic 143, .ifCond .ne 1, .aload 0, .sipush (-100001), .invokevirtual 142, .ireturn]
def bk_221_1 : List Instr := [.aload 0, .invokevirtual 147, .aload 0, .getfield 384, .sipush 5, .iaload, .istore 2, .aload 0, .getfield 384, .sipush 5, .iload 1, .iastore, .iload 2, .ireturn]
def bk_222_0 : List Instr := [.aload 0, .getfield 384, .sipush 36, .iload 1, .iadd, .iaload, .istore 2, .aload 0, .getfield 384, .sipush 11, .iload 1, .iadd, .iaload, .sipush 2, .if_icmp .ne 1, .sipush 0, .iload 2, .sipush 60, .isub, .invokestatic 236, .goto 2]
def bk_222_1 : List Instr := [.iload 2, .goto_w 2]
def bk_222_2 : List Instr := [.ireturn]
def bk_223_0 : List Instr := [.iload 2, .aload 0, .getfield 399, .if_icmp .gt 1, .iload 2, .aload 0, .getfield 399, .if_icmp .ne 3, .iload 1, .aload 0, .getfield 400, .if_icmp .ge 3, .goto_w 1]
def bk_223_1 : List Instr := [.aload 0, .iload 2, .putfield 399, .aload 0, .iload 1, .putfield 400, .sipush 0, .istore 3, .goto_w 2]
def bk_223_2 : List Instr := [.iload 3, .iload 1, .if_icmp .ge 3, .aload 0, .getfield 401, .iload 3, .aload 0, .getfield 402, .iload 3, .iaload, .iastore, .iinc 3 1, .goto 2]
def bk_223_3 : List Instr := [.sipush 0, .istore 3, .goto_w 4]
def bk_223_4 : List Instr := [.iload 3, .aload 0, .getfield 384, .sipush 0, .iaload, .if_icmp .ge 6, .aload 0, .getfield 384, .sipush 46, .iload 3, .iadd, .iaload, .aload 0, .getfield 403, .iload 3, .iaload, .isub, .istore 4, .iload 4, .ifCond .le 5, .aload 0, .getfield 384, .sipush 31, .iload 3, .iadd, .iaload, .ifCond .ne 5, .aload 0, .iload 3, .invokevirtual 222, .iload 1, .sipush 1, .iadd, .aload 0, .getfield 384, .sipush 5, .iaload, .imul, .if_icmp .lt 5, .aload 0, .getfield 402, .iload 1, .aload 0, .iload 3, .iload 4, .sipush 1, .isub, .invokevirtual 152, .iastore, .aload 0, .getfield 403, .iload 3, .dup2, .iaload, .sipush 1, .iadd, .iastore, .aload 0, .iload 1, .sipush 1, .iadd, .iload 2, .aload 0, .getfield 384, .sipush 131, .aload 0, .getfield 402, .iload 1, .iaload, .iadd, .iaload, .iadd, .invokevirtual 223, .aload 0, .getfield 403, .iload 3, .dup2, .iaload, .sipush 1, .isub, .iastore, .goto_w 5]
def bk_223_5 : List Instr := [.iinc 3 1, .goto 4]
def bk_223_6 : List Instr := [.return_]
def bk_224_0 : List Instr := [.aload 0, .sipush (-1), .putfield 399, .aload 0, .sipush 0, .putfield 400, .aload 0, .sipush 0, .sipush 0, .invokevirtual 223, .return_]
def bk_225_0 : List Instr := [.aload 0, .invokevirtual 224, .aload 0, .getfield 399, .ireturn]
def bk_226_0 : List Instr := [.iload 1, .ifCond .ge 1, .aload 0, .sipush (-100001), .invokevirtual 142, .ireturn]
def bk_226_1 : List Instr := [.aload 0, .invokevirtual 224, .iload 1, .aload 0, .getfield 400, .if_icmp .ge 2, .aload 0, .getfield 401, .iload 1, .iaload, .goto 3]
def bk_226_2 : List Instr := [.aload 0, .sipush (-100006), .invokevirtual 142, .goto_w 3]
def bk_226_3 : List Instr := [.ireturn]
def bk_227_0 : List Instr := [.aload 0, .iload 1, .invokevirtual 145, .ifCond .eq 1, .iload 2, .invokestatic 146, .ifCond .ne 2, .goto_w 1]
def bk_227_1 : List Instr := [.aload 0, .sipush (-100001), .invokevirtual 142, .ireturn]
def bk_227_2 : List Instr := [.aload 0, .getfield 384, .sipush 10, .iaload, .sipush 30, .if_icmp .ne 3, .aload 0, .sipush (-100005), .invokevirtual 142, .ireturn]
def bk_227_3 : List Instr := [.aload 0, .invokevirtual 147, .aload 0, .getfield 384, .sipush 247, .aload 0, .getfield 384, .sipush 10, .iaload, .iadd, .iload 1, .sipush 8, .iload 2, .imul, .iadd, .iload 3, .ifCond .eq 4, .sipush 256, .goto 5]
def bk_227_4 : List Instr := [.sipush 0, .goto_w 5]
def bk_227_5 : List Instr := [.iadd, .iastore, .aload 0, .getfield 384, .sipush 10, .dup2, .iaload, .sipush 1, .iadd, .iastore, .aload 0, .getfield 384, .sipush 10, .iaload, .ireturn]
def bk_228_0 : List Instr := [.sipush (-1), .istore 4, .sipush 0, .istore 5, .sipush 0, .istore 6, .goto_w 1]
def bk_228_1 : List Instr := [.iload 6, .iload 3, .if_icmp .ge 5, .aload 0, .getfield 384, .sipush 247, .iload 6, .iadd, .iaload, .istore 7, .iload 7, .sipush 8, .idiv, .sipush 32, .irem, .istore 8, .iload 7, .sipush 8, .irem, .iload 1, .if_icmp .ne 4, .iload 8, .iload 2, .if_icmp .gt 4, .iload 8, .iload 4, .if_icmp .lt 4, .iload 8, .istore 4, .iload 7, .sipush 256, .if_icmp .lt 2, .sipush 1, .goto 3]
def bk_228_2 : List Instr := [.sipush 0, .goto_w 3]
def bk_228_3 : List Instr := [.istore 5, .goto_w 4]
def bk_228_4 : List Instr := [.iinc 6 1, .goto 1]
def bk_228_5 : List Instr := [.iload 5, .ireturn]
def bk_229_0 : List Instr := [.aload 0, .iload 1, .invokevirtual 145, .ifCond .eq 1, .iload 2, .invokestatic 146, .ifCond .eq 1, .iload 3, .sipush 0, .aload 0, .getfield 384, .sipush 10, .iaload, .invokestatic 143, .ifCond .ne 2, .goto_w 1]
def bk_229_1 : List Instr := [.aload 0, .sipush (-100001), .invokevirtual 142, .ireturn]
def bk_229_2 : List Instr := [.aload 0, .iload 1, .iload 2, .iload 3, .invokevirtual 228, .ifCond .eq 3, .sipush 1, .goto 4]
def bk_229_3 : List Instr := [.sipush 0, .goto_w 4]
def bk_229_4 : List Instr := [.ireturn]
def bk_230_0 : List Instr := [.iload 0, .sipush 0, .sipush 3, .invokestatic 143, .ireturn]
def bk_231_0 : List Instr := [.iload 1, .invokestatic 230, .ifCond .eq 1, .iload 2, .ifCond .eq 2, .iload 2, .sipush 8, .if_icmp .eq 2, .iload 2, .sipush 16, .if_icmp .eq 2, .iload 2, .sipush 32, .if_icmp .eq 2, .goto_w 1]
def bk_231_1 : List Instr := [.aload 0, .sipush (-100001), .invokevirtual 142, .ireturn]
def bk_231_2 : List Instr := [.iload 3, .ifCond .ge 3, .aload 0, .sipush (-100003), .invokevirtual 142, .ireturn]
def bk_231_3 : List Instr := [.iload 3, .sipush 20, .if_icmp .le 4, .aload 0, .sipush (-100001), .invokevirtual 142, .ireturn]
def bk_231_4 : List Instr := [.aload 0, .getfield 388, .iload 1, .iload 2, .iastore, .aload 0, .getfield 389, .iload 1, .iload 2, .ifCond .ne 5, .sipush 0, .goto 6]
def bk_231_5 : List Instr := [.iload 3, .goto_w 6]
def bk_231_6 : List Instr := [.iastore, .sipush 0, .istore 4, .goto_w 7]
def bk_231_7 : List Instr := [.iload 4, .sipush 20, .if_icmp .ge 8, .aload 0, .getfield 390, .sipush 20, .iload 1, .imul, .iload 4, .iadd, .sipush 0, .iastore, .iinc 4 1, .goto 7]
def bk_231_8 : List Instr := [.aload 0, .getfield 389, .iload 1, .iaload, .ireturn]
def bk_232_0 : List Instr := [.iload 1, .invokestatic 230, .ifCond .ne 1, .aload 0, .sipush (-100001), .invokevirtual 142, .ireturn]
def bk_232_1 : List Instr := [.aload 0, .getfield 388, .iload 1, .iaload, .ifCond .ne 2, .aload 0, .sipush (-100002), .invokevirtual 142, .ireturn]
def bk_232_2 : List Instr := [.iload 2, .sipush 0, .aload 0, .getfield 389, .iload 1, .iaload, .sipush 1, .isub, .invokestatic 143, .ifCond .ne 3, .aload 0, .sipush (-100001), .invokevirtual 142, .ireturn]
def bk_232_3 : List Instr := [.sipush 32, .aload 0, .getfield 388, .iload 1, .iaload, .isub, .istore 4, .aload 0, .getfield 390, .sipush 20, .iload 1, .imul, .iload 2, .iadd, .iload 3, .iload 4, .ishl, .iload 4, .ishr, .iastore, .sipush 0, .ireturn]
def bk_233_0 : List Instr := [.iload 1, .invokestatic 230, .ifCond .eq 1, .iload 3, .invokestatic 230, .ifCond .ne 2, .goto_w 1]
def bk_233_1 : List Instr := [.aload 0, .sipush (-100001), .invokevirtual 142, .ireturn]
def bk_233_2 : List Instr := [.aload 0, .getfield 388, .iload 1, .iaload, .ifCond .eq 3, .aload 0, .getfield 388, .iload 3, .iaload, .ifCond .ne 4, .goto_w 3]
def bk_233_3 : List Instr := [.aload 0, .sipush (-100002), .invokevirtual 142, .ireturn]
def bk_233_4 : List Instr := [.aload 0, .getfield 388, .iload 1, .iaload, .aload 0, .getfield 388, .iload 3, .iaload, .if_icmp .eq 5, .aload 0, .sipush (-100004), .invokevirtual 142, .ireturn]
def bk_233_5 : List Instr := [.iload 2, .ifCond .lt 6, .iload 4, .ifCond .lt 6, .iload 5, .ifCond .lt 6, .iload 2, .i2l, .iload 5, .i2l, .ladd, .aload 0, .getfield 389, .iload 1, .iaload, .i2l, .lcmp, .ifCond .gt 6, .iload 4, .i2l, .iload 5, .i2l, .ladd, .aload 0, .getfield 389, .iload 3, .iaload, .i2l, .lcmp, .ifCond .le 7, .goto_w 6]
def bk_233_6 : List Instr := [.aload 0, .sipush (-100001), .invokevirtual 142, .ireturn]
def bk_233_7 : List Instr := [.sipush 0, .istore 6, .goto_w 8]
def bk_233_8 : List Instr := [.iload 6, .iload 5, .if_icmp .ge 9, .aload 0, .getfield 404, .iload 6, .aload 0, .getfield 390, .sipush 20, .iload 1, .imul, .iload 2, .iadd, .iload 6, .iadd, .iaload, .iastore, .iinc 6 1, .goto 8]
def bk_233_9 : List Instr := [.sipush 0, .istore 6, .goto_w 10]
def bk_233_10 : List Instr := [.iload 6, .iload 5, .if_icmp .ge 11, .aload 0, .getfield 390, .sipush 20, .iload 3, .imul, .iload 4, .iadd, .iload 6, .iadd, .aload 0, .getfield 404, .iload 6, .iaload, .iastore, .iinc 6 1, .goto 10]
def bk_233_11 : List Instr := [.iload 5, .ireturn]
def bk_234_0 : List Instr := [.iload 1, .sipush 0, .sipush 6, .invokestatic 143, .ifCond .ne 1, .aload 0, .sipush (-100001), .invokevirtual 142, .ireturn]
def bk_234_1 : List Instr := [.sipush 0, .istore 2, .sipush 0, .istore 3, .goto_w 2]
def bk_234_2 : List Instr := [.iload 3, .aload 0, .getfield 384, .sipush 0, .iaload, .if_icmp .ge 3, .iload 2, .aload 0, .getfield 384, .sipush 46, .iload 3, .iadd, .iaload, .iadd, .istore 2, .iinc 3 1, .goto 2]
def bk_234_3 : List Instr := [.iload 1, .tableswitch 10 0 5 #[4, 5, 6, 7, 8, 9]]
def bk_234_4 : List Instr := [.aload 0, .getfield 384, .sipush 0, .iaload, .ireturn]
def bk_234_5 : List Instr := [.aload 0, .getfield 384, .sipush 1, .iaload, .ireturn]
def bk_234_6 : List Instr := [.iload 2, .ireturn]
def bk_234_7 : List Instr := [.aload 0, .getfield 384, .sipush 6, .iaload, .ireturn]
def bk_234_8 : List Instr := [.aload 0, .getfield 384, .sipush 10, .iaload, .ireturn]
def bk_234_9 : List Instr := [.aload 0, .getfield 384, .sipush 8, .iaload, .ireturn]
def bk_234_10 : List Instr := [.aload 0, .getfield 387, .ireturn]
def bk_235_0 : List Instr := [.iload 0, .iload 0, .sipush 1, .iushr, .sipush 1431655765, .iand, .isub, .istore 0, .iload 0, .sipush 858993459, .iand, .iload 0, .sipush 2, .iushr, .sipush 858993459, .iand, .iadd, .istore 0, .iload 0, .iload 0, .sipush 4, .iushr, .iadd, .sipush 252645135, .iand, .istore 0, .iload 0, .iload 0, .sipush 8, .iushr, .iadd, .istore 0, .iload 0, .iload 0, .sipush 16, .iushr, .iadd, .istore 0, .iload 0, .sipush 63, .iand, .ireturn]
def bk_236_0 : List Instr := [.iload 0, .iload 1, .if_icmp .lt 1, .iload 0, .goto 2]
def bk_236_1 : List Instr := [.iload 1, .goto_w 2]
def bk_236_2 : List Instr := [.ireturn]
def bk_237_0 : List Instr := [.iload 0, .iload 1, .if_icmp .gt 1, .iload 0, .goto 2]
def bk_237_1 : List Instr := [.iload 1, .goto_w 2]
def bk_237_2 : List Instr := [.ireturn]
def bk_238_0 : List Instr := [.iload 1, .iload 2, .if_icmp .le 1]
def bk_238_1 : List Instr := [.iload 1, .ifCond .ge 2]
def bk_238_2 : List Instr := [.iload 2, .iload 0, .if_icmp .le 3]
def bk_238_3 : List Instr := [.return_]
def bk_239_0 : List Instr := [.sipush 0, .istore 2, .aload 0, .arraylength, .istore 3, .goto_w 1]
def bk_239_1 : List Instr := [.iload 2, .iload 3, .if_icmp .ge 2, .aload 0, .iload 2, .iload 1, .iastore, .iinc 2 1, .goto 1]
def bk_239_2 : List Instr := [.return_]
def bk_240_0 : List Instr := [.aload 0, .arraylength, .iload 1, .iload 2, .invokestatic 238, .iload 1, .istore 4, .goto_w 1]
def bk_240_1 : List Instr := [.iload 4, .iload 2, .if_icmp .ge 2, .aload 0, .iload 4, .iload 3, .iastore, .iinc 4 1, .goto 1]
def bk_240_2 : List Instr := [.return_]
def bk_241_0 : List Instr := [.new 11, .dup, .invokespecial 84, .astore 1, .new 12, .dup, .invokespecial 141, .astore 2, .sipush 0, .istore 3, .goto_w 1]
def bk_241_1 : List Instr := [.ret 0]
def bk_241_2 : List Instr := [.aload 1, .aload 0, .iload 3, .sipush 1, .iadd, .iaload, .aload 0, .iload 3, .sipush 2, .iadd, .iaload, .aload 0, .iload 3, .sipush 3, .iadd, .iaload, .aload 0, .iload 3, .sipush 4, .iadd, .iaload, .invokevirtual 85, .aload 2, .aload 0, .iload 3, .sipush 1, .iadd, .iaload, .aload 0, .iload 3, .sipush 2, .iadd, .iaload, .aload 0, .iload 3, .sipush 3, .iadd, .iaload, .aload 0, .iload 3, .sipush 4, .iadd, .iaload, .invokevirtual 149, .if_icmp .eq 61, .sipush 0, .ireturn]
def bk_241_3 : List Instr := [.aload 1, .aload 0, .iload 3, .sipush 1, .iadd, .iaload, .aload 0, .iload 3, .sipush 2, .iadd, .iaload, .invokevirtual 86, .aload 2, .aload 0, .iload 3, .sipush 1, .iadd, .iaload, .aload 0, .iload 3, .sipush 2, .iadd, .iaload, .invokevirtual 151, .if_icmp .eq 61, .sipush 0, .ireturn]
def bk_241_4 : List Instr := [.aload 1, .aload 0, .iload 3, .sipush 1, .iadd, .iaload, .aload 0, .iload 3, .sipush 2, .iadd, .iaload, .invokevirtual 87, .aload 2, .aload 0, .iload 3, .sipush 1, .iadd, .iaload, .aload 0, .iload 3, .sipush 2, .iadd, .iaload, .invokevirtual 154, .if_icmp .eq 61, .sipush 0, .ireturn]
def bk_241_5 : List Instr := [.aload 1, .aload 0, .iload 3, .sipush 1, .iadd, .iaload, .aload 0, .iload 3, .sipush 2, .iadd, .iaload, .ifCond .eq 6, .sipush 1, .goto 7]
def bk_241_6 : List Instr := [.sipush 0, .goto_w 7]
def bk_241_7 : List Instr := [.invokevirtual 88, .aload 2, .aload 0, .iload 3, .sipush 1, .iadd, .iaload, .aload 0, .iload 3, .sipush 2, .iadd, .iaload, .ifCond .eq 8, .sipush 1, .goto 9]
def bk_241_8 : List Instr := [.sipush 0, .goto_w 9]
def bk_241_9 : List Instr := [.invokevirtual 155, .if_icmp .eq 61, .sipush 0, .ireturn]
def bk_241_10 : List Instr := [.aload 1, .aload 0, .iload 3, .sipush 1, .iadd, .iaload, .aload 0, .iload 3, .sipush 2, .iadd, .iaload, .aload 0, .iload 3, .sipush 3, .iadd, .iaload, .aload 0, .iload 3, .sipush 4, .iadd, .iaload, .aload 0, .iload 3, .sipush 5, .iadd, .iaload, .aload 0, .iload 3, .sipush 6, .iadd, .iaload, .invokevirtual 89, .aload 2, .aload 0, .iload 3, .sipush 1, .iadd, .iaload, .aload 0, .iload 3, .sipush 2, .iadd, .iaload, .aload 0, .iload 3, .sipush 3, .iadd, .iaload, .aload 0, .iload 3, .sipush 4, .iadd, .iaload, .aload 0, .iload 3, .sipush 5, .iadd, .iaload, .aload 0, .iload 3, .sipush 6, .iadd, .iaload, .invokevirtual 156, .if_icmp .eq 61, .sipush 0, .ireturn]
def bk_241_11 : List Instr := [.aload 1, .aload 0, .iload 3, .sipush 1, .iadd, .iaload, .aload 0, .iload 3, .sipush 2, .iadd, .iaload, .invokevirtual 90, .aload 2, .aload 0, .iload 3, .sipush 1, .iadd, .iaload, .aload 0, .iload 3, .sipush 2, .iadd, .iaload, .invokevirtual 159, .if_icmp .eq 61, .sipush 0, .ireturn]
def bk_241_12 : List Instr := [.aload 1, .aload 0, .iload 3, .sipush 1, .iadd, .iaload, .aload 0, .iload 3, .sipush 2, .iadd, .iaload, .aload 0, .iload 3, .sipush 3, .iadd, .iaload, .invokevirtual 91, .aload 2, .aload 0, .iload 3, .sipush 1, .iadd, .iaload, .aload 0, .iload 3, .sipush 2, .iadd, .iaload, .aload 0, .iload 3, .sipush 3, .iadd, .iaload, .invokevirtual 160, .if_icmp .eq 61, .sipush 0, .ireturn]
def bk_241_13 : List Instr := [.aload 1, .aload 0, .iload 3, .sipush 1, .iadd, .iaload, .aload 0, .iload 3, .sipush 2, .iadd, .iaload, .invokevirtual 92, .aload 2, .aload 0, .iload 3, .sipush 1, .iadd, .iaload, .aload 0, .iload 3, .sipush 2, .iadd, .iaload, .invokevirtual 161, .if_icmp .eq 61, .sipush 0, .ireturn]
def bk_241_14 : List Instr := [.aload 1, .aload 0, .iload 3, .sipush 1, .iadd, .iaload, .aload 0, .iload 3, .sipush 2, .iadd, .iaload, .invokevirtual 93, .aload 2, .aload 0, .iload 3, .sipush 1, .iadd, .iaload, .aload 0, .iload 3, .sipush 2, .iadd, .iaload, .invokevirtual 163, .if_icmp .eq 61, .sipush 0, .ireturn]
def bk_241_15 : List Instr := [.aload 1, .aload 0, .iload 3, .sipush 1, .iadd, .iaload, .aload 0, .iload 3, .sipush 2, .iadd, .iaload, .invokevirtual 94, .aload 2, .aload 0, .iload 3, .sipush 1, .iadd, .iaload, .aload 0, .iload 3, .sipush 2, .iadd, .iaload, .invokevirtual 169, .if_icmp .eq 61, .sipush 0, .ireturn]
def bk_241_16 : List Instr := [.aload 1, .aload 0, .iload 3, .sipush 1, .iadd, .iaload, .aload 0, .iload 3, .sipush 2, .iadd, .iaload, .invokevirtual 95, .aload 2, .aload 0, .iload 3, .sipush 1, .iadd, .iaload, .aload 0, .iload 3, .sipush 2, .iadd, .iaload, .invokevirtual 173, .if_icmp .eq 61, .sipush 0, .ireturn]
def bk_241_17 : List Instr := [.aload 1, .aload 0, .iload 3, .sipush 1, .iadd, .iaload, .invokevirtual 96, .aload 2, .aload 0, .iload 3, .sipush 1, .iadd, .iaload, .invokevirtual 174, .if_icmp .eq 61, .sipush 0, .ireturn]
def bk_241_18 : List Instr := [.aload 1, .invokevirtual 97, .aload 2, .invokevirtual 175, .if_icmp .eq 61, .sipush 0, .ireturn]
def bk_241_19 : List Instr := [.aload 1, .aload 0, .iload 3, .sipush 1, .iadd, .iaload, .invokevirtual 98, .aload 2, .aload 0, .iload 3, .sipush 1, .iadd, .iaload, .invokevirtual 176, .if_icmp .eq 61, .sipush 0, .ireturn]
def bk_241_20 : List Instr := [.aload 1, .aload 0, .iload 3, .sipush 1, .iadd, .iaload, .invokevirtual 99, .aload 2, .aload 0, .iload 3, .sipush 1, .iadd, .iaload, .invokevirtual 177, .if_icmp .eq 61, .sipush 0, .ireturn]
def bk_241_21 : List Instr := [.aload 1, .aload 0, .iload 3, .sipush 1, .iadd, .iaload, .invokevirtual 100, .aload 2, .aload 0, .iload 3, .sipush 1, .iadd, .iaload, .invokevirtual 182, .if_icmp .eq 61, .sipush 0, .ireturn]
def bk_241_22 : List Instr := [.aload 1, .aload 0, .iload 3, .sipush 1, .iadd, .iaload, .aload 0, .iload 3, .sipush 2, .iadd, .iaload, .invokevirtual 101, .aload 2, .aload 0, .iload 3, .sipush 1, .iadd, .iaload, .aload 0, .iload 3, .sipush 2, .iadd, .iaload, .invokevirtual 183, .if_icmp .eq 61, .sipush 0, .ireturn]
def bk_241_23 : List Instr := [.aload 1, .aload 0, .iload 3, .sipush 1, .iadd, .iaload, .aload 0, .iload 3, .sipush 2, .iadd, .iaload, .invokevirtual 102, .aload 2, .aload 0, .iload 3, .sipush 1, .iadd, .iaload, .aload 0, .iload 3, .sipush 2, .iadd, .iaload, .invokevirtual 184, .if_icmp .eq 61, .sipush 0, .ireturn]
def bk_241_24 : List Instr := [.aload 1, .aload 0, .iload 3, .sipush 1, .iadd, .iaload, .invokevirtual 103, .aload 2, .aload 0, .iload 3, .sipush 1, .iadd, .iaload, .invokevirtual 186, .if_icmp .eq 61, .sipush 0, .ireturn]
def bk_241_25 : List Instr := [.aload 1, .aload 0, .iload 3, .sipush 1, .iadd, .iaload, .invokevirtual 104, .aload 2, .aload 0, .iload 3, .sipush 1, .iadd, .iaload, .invokevirtual 188, .if_icmp .eq 61, .sipush 0, .ireturn]
def bk_241_26 : List Instr := [.aload 1, .invokevirtual 105, .aload 2, .invokevirtual 189, .if_icmp .eq 61, .sipush 0, .ireturn]
def bk_241_27 : List Instr := [.aload 1, .invokevirtual 106, .aload 2, .invokevirtual 193, .if_icmp .eq 61, .sipush 0, .ireturn]
def bk_241_28 : List Instr := [.aload 1, .aload 0, .iload 3, .sipush 1, .iadd, .iaload, .invokevirtual 107, .aload 2, .aload 0, .iload 3, .sipush 1, .iadd, .iaload, .invokevirtual 194, .if_icmp .eq 61, .sipush 0, .ireturn]
def bk_241_29 : List Instr := [.aload 1, .aload 0, .iload 3, .sipush 1, .iadd, .iaload, .invokevirtual 108, .aload 2, .aload 0, .iload 3, .sipush 1, .iadd, .iaload, .invokevirtual 195, .if_icmp .eq 61, .sipush 0, .ireturn]
def bk_241_30 : List Instr := [.aload 1, .invokevirtual 109, .aload 2, .invokevirtual 201, .if_icmp .eq 61, .sipush 0, .ireturn]
def bk_241_31 : List Instr := [.aload 1, .aload 0, .iload 3, .sipush 1, .iadd, .iaload, .invokevirtual 110, .aload 2, .aload 0, .iload 3, .sipush 1, .iadd, .iaload, .invokevirtual 202, .if_icmp .eq 61, .sipush 0, .ireturn]
def bk_241_32 : List Instr := [.aload 1, .aload 0, .iload 3, .sipush 1, .iadd, .iaload, .aload 0, .iload 3, .sipush 2, .iadd, .iaload, .aload 0, .iload 3, .sipush 3, .iadd, .iaload, .invokevirtual 111, .aload 2, .aload 0, .iload 3, .sipush 1, .iadd, .iaload, .aload 0, .iload 3, .sipush 2, .iadd, .iaload, .aload 0, .iload 3, .sipush 3, .iadd, .iaload, .invokevirtual 203, .if_icmp .eq 61, .sipush 0, .ireturn]
def bk_241_33 : List Instr := [.aload 1, .aload 0, .iload 3, .sipush 1, .iadd, .iaload, .invokevirtual 112, .aload 2, .aload 0, .iload 3, .sipush 1, .iadd, .iaload, .invokevirtual 206, .if_icmp .eq 61, .sipush 0, .ireturn]
def bk_241_34 : List Instr := [.aload 1, .aload 0, .iload 3, .sipush 1, .iadd, .iaload, .invokevirtual 113, .aload 2, .aload 0, .iload 3, .sipush 1, .iadd, .iaload, .invokevirtual 207, .if_icmp .eq 61, .sipush 0, .ireturn]
def bk_241_35 : List Instr := [.aload 1, .invokevirtual 114, .aload 2, .invokevirtual 208, .if_icmp .eq 61, .sipush 0, .ireturn]
def bk_241_36 : List Instr := [.aload 1, .aload 0, .iload 3, .sipush 1, .iadd, .iaload, .invokevirtual 115, .aload 2, .aload 0, .iload 3, .sipush 1, .iadd, .iaload, .invokevirtual 209, .if_icmp .eq 61, .sipush 0, .ireturn]
def bk_241_37 : List Instr := [.aload 1, .aload 0, .iload 3, .sipush 1, .iadd, .iaload, .aload 0, .iload 3, .sipush 2, .iadd, .iaload, .ifCond .eq 38, .sipush 1, .goto 39]
def bk_241_38 : List Instr := [.sipush 0, .goto_w 39]
def bk_241_39 : List Instr := [.invokevirtual 116, .aload 2, .aload 0, .iload 3, .sipush 1, .iadd, .iaload, .aload 0, .iload 3, .sipush 2, .iadd, .iaload, .ifCond .eq 40, .sipush 1, .goto 41]
def bk_241_40 : List Instr := [.sipush 0, .goto_w 41]
def bk_241_41 : List Instr := [.invokevirtual 210, .if_icmp .eq 61, .sipush 0, .ireturn]
def bk_241_42 : List Instr := [.aload 1, .aload 0, .iload 3, .sipush 1, .iadd, .iaload, .aload 0, .iload 3, .sipush 2, .iadd, .iaload, .aload 0, .iload 3, .sipush 3, .iadd, .iaload, .invokevirtual 117, .aload 2, .aload 0, .iload 3, .sipush 1, .iadd, .iaload, .aload 0, .iload 3, .sipush 2, .iadd, .iaload, .aload 0, .iload 3, .sipush 3, .iadd, .iaload, .invokevirtual 211, .if_icmp .eq 61, .sipush 0, .ireturn]
def bk_241_43 : List Instr := [.aload 1, .aload 0, .iload 3, .sipush 1, .iadd, .iaload, .invokevirtual 118, .aload 2, .aload 0, .iload 3, .sipush 1, .iadd, .iaload, .invokevirtual 213, .if_icmp .eq 61, .sipush 0, .ireturn]
def bk_241_44 : List Instr := [.aload 1, .invokevirtual 119, .aload 2, .invokevirtual 215, .if_icmp .eq 61, .sipush 0, .ireturn]
def bk_241_45 : List Instr := [.aload 1, .aload 0, .iload 3, .sipush 1, .iadd, .iaload, .aload 0, .iload 3, .sipush 2, .iadd, .iaload, .aload 0, .iload 3, .sipush 3, .iadd, .iaload, .invokevirtual 120, .aload 2, .aload 0, .iload 3, .sipush 1, .iadd, .iaload, .aload 0, .iload 3, .sipush 2, .iadd, .iaload, .aload 0, .iload 3, .sipush 3, .iadd, .iaload, .invokevirtual 219, .if_icmp .eq 61, .sipush 0, .ireturn]
def bk_241_46 : List Instr := [.aload 1, .aload 0, .iload 3, .sipush 1, .iadd, .iaload, .aload 0, .iload 3, .sipush 2, .iadd, .iaload, .invokevirtual 121, .aload 2, .aload 0, .iload 3, .sipush 1, .iadd, .iaload, .aload 0, .iload 3, .sipush 2, .iadd, .iaload, .invokevirtual 220, .if_icmp .eq 61, .sipush 0, .ireturn]
def bk_241_47 : List Instr := [.aload 1, .aload 0, .iload 3, .sipush 1, .iadd, .iaload, .invokevirtual 122, .aload 2, .aload 0, .iload 3, .sipush 1, .iadd, .iaload, .invokevirtual 221, .if_icmp .eq 61, .sipush 0, .ireturn]
def bk_241_48 : List Instr := [.aload 1, .invokevirtual 123, .aload 2, .invokevirtual 225, .if_icmp .eq 61, .sipush 0, .ireturn]
def bk_241_49 : List Instr := [.aload 1, .aload 0, .iload 3, .sipush 1, .iadd, .iaload, .invokevirtual 124, .aload 2, .aload 0, .iload 3, .sipush 1, .iadd, .iaload, .invokevirtual 226, .if_icmp .eq 61, .sipush 0, .ireturn]
def bk_241_50 : List Instr := [.aload 1, .aload 0, .iload 3, .sipush 1, .iadd, .iaload, .aload 0, .iload 3, .sipush 2, .iadd, .iaload, .aload 0, .iload 3, .sipush 3, .iadd, .iaload, .ifCond .eq 51, .sipush 1, .goto 52]
def bk_241_51 : List Instr := [.sipush 0, .goto_w 52]
def bk_241_52 : List Instr := [.invokevirtual 125, .aload 2, .aload 0, .iload 3, .sipush 1, .iadd, .iaload, .aload 0, .iload 3, .sipush 2, .iadd, .iaload, .aload 0, .iload 3, .sipush 3, .iadd, .iaload, .ifCond .eq 53, .sipush 1, .goto 54]
def bk_241_53 : List Instr := [.sipush 0, .goto_w 54]
def bk_241_54 : List Instr := [.invokevirtual 227, .if_icmp .eq 61, .sipush 0, .ireturn]
def bk_241_55 : List Instr := [.aload 1, .aload 0, .iload 3, .sipush 1, .iadd, .iaload, .aload 0, .iload 3, .sipush 2, .iadd, .iaload, .aload 0, .iload 3, .sipush 3, .iadd, .iaload, .invokevirtual 126, .aload 2, .aload 0, .iload 3, .sipush 1, .iadd, .iaload, .aload 0, .iload 3, .sipush 2, .iadd, .iaload, .aload 0, .iload 3, .sipush 3, .iadd, .iaload, .invokevirtual 229, .if_icmp .eq 61, .sipush 0, .ireturn]
def bk_241_56 : List Instr := [.aload 1, .aload 0, .iload 3, .sipush 1, .iadd, .iaload, .aload 0, .iload 3, .sipush 2, .iadd, .iaload, .aload 0, .iload 3, .sipush 3, .iadd, .iaload, .invokevirtual 127, .aload 2, .aload 0, .iload 3, .sipush 1, .iadd, .iaload, .aload 0, .iload 3, .sipush 2, .iadd, .iaload, .aload 0, .iload 3, .sipush 3, .iadd, .iaload, .invokevirtual 231, .if_icmp .eq 61, .sipush 0, .ireturn]
def bk_241_57 : List Instr := [.aload 1, .aload 0, .iload 3, .sipush 1, .iadd, .iaload, .aload 0, .iload 3, .sipush 2, .iadd, .iaload, .aload 0, .iload 3, .sipush 3, .iadd, .iaload, .invokevirtual 128, .aload 2, .aload 0, .iload 3, .sipush 1, .iadd, .iaload, .aload 0, .iload 3, .sipush 2, .iadd, .iaload, .aload 0, .iload 3, .sipush 3, .iadd, .iaload, .invokevirtual 232, .if_icmp .eq 61, .sipush 0, .ireturn]
def bk_241_58 : List Instr := [.aload 1, .aload 0, .iload 3, .sipush 1, .iadd, .iaload, .aload 0, .iload 3, .sipush 2, .iadd, .iaload, .aload 0, .iload 3, .sipush 3, .iadd, .iaload, .aload 0, .iload 3, .sipush 4, .iadd, .iaload, .aload 0, .iload 3, .sipush 5, .iadd, .iaload, .invokevirtual 129, .aload 2, .aload 0, .iload 3, .sipush 1, .iadd, .iaload, .aload 0, .iload 3, .sipush 2, .iadd, .iaload, .aload 0, .iload 3, .sipush 3, .iadd, .iaload, .aload 0, .iload 3, .sipush 4, .iadd, .iaload, .aload 0, .iload 3, .sipush 5, .iadd, .iaload, .invokevirtual 233, .if_icmp .eq 61, .sipush 0, .ireturn]
def bk_241_59 : List Instr := [.aload 1, .invokevirtual 130, .aload 2, .invokevirtual 148, .if_icmp .eq 61, .sipush 0, .ireturn]
def bk_241_60 : List Instr := [.aload 1, .aload 0, .iload 3, .sipush 1, .iadd, .iaload, .invokevirtual 131, .aload 2, .aload 0, .iload 3, .sipush 1, .iadd, .iaload, .invokevirtual 234, .if_icmp .eq 61, .sipush 0, .ireturn]
def bk_241_61 : List Instr := [.iinc 3 7, .goto 1]
def bk_241_62 : List Instr := [.sipush 1, .ireturn]
def bk_241_63 : List Instr := [.iload 3, .aload 0, .arraylength, .sipush 7, .isub, .if_icmp .gt 62, .aload 0, .iload 3, .iaload, .sipush 63, .iand, .tableswitch 61 0 46 #[2, 3, 4, 5, 10, 11, 12, 13, 14, 15, 16, 17, 18, 19, 20, 21, 22, 23, 24, 25, 26, 27, 28, 29, 30, 31, 32, 33, 34, 35, 36, 37, 42, 43, 44, 45, 46, 47, 48, 49, 50, 55, 56, 57, 58, 59, 60]]
def bk_0 : List (List Instr) := [bk_0_0]
def bk_1 : List (List Instr) := [bk_1_0, bk_1_1, bk_1_2, bk_1_3]
def bk_2 : List (List Instr) := [bk_2_0, bk_2_1, bk_2_2, bk_2_3, bk_2_4, bk_2_5, bk_2_6]
def bk_3 : List (List Instr) := [bk_3_0, bk_3_1, bk_3_2, bk_3_3, bk_3_4, bk_3_5, bk_3_6, bk_3_7, bk_3_8, bk_3_9, bk_3_10, bk_3_11]
def bk_4 : List (List Instr) := [bk_4_0, bk_4_1, bk_4_2, bk_4_3]
def bk_5 : List (List Instr) := [bk_5_0, bk_5_1, bk_5_2]
def bk_6 : List (List Instr) := [bk_6_0]
def bk_7 : List (List Instr) := [bk_7_0]
def bk_8 : List (List Instr) := [bk_8_0, bk_8_1, bk_8_2, bk_8_3]
def bk_9 : List (List Instr) := [bk_9_0]
def bk_10 : List (List Instr) := [bk_10_0]
def bk_11 : List (List Instr) := [bk_11_0, bk_11_1, bk_11_2]
def bk_12 : List (List Instr) := [bk_12_0, bk_12_1, bk_12_2]
def bk_13 : List (List Instr) := [bk_13_0, bk_13_1, bk_13_2]
def bk_14 : List (List Instr) := [bk_14_0, bk_14_1, bk_14_2]
def bk_15 : List (List Instr) := [bk_15_0]
def bk_16 : List (List Instr) := [bk_16_0]
def bk_17 : List (List Instr) := [bk_17_0]
def bk_18 : List (List Instr) := [bk_18_0]
def bk_19 : List (List Instr) := [bk_19_0, bk_19_1, bk_19_2, bk_19_3]
def bk_20 : List (List Instr) := [bk_20_0, bk_20_1, bk_20_2, bk_20_3]
def bk_21 : List (List Instr) := [bk_21_0, bk_21_1, bk_21_2]
def bk_22 : List (List Instr) := [bk_22_0, bk_22_1, bk_22_2]
def bk_23 : List (List Instr) := [bk_23_0]
def bk_24 : List (List Instr) := [bk_24_0, bk_24_1, bk_24_2]
def bk_25 : List (List Instr) := [bk_25_0, bk_25_1, bk_25_2, bk_25_3]
def bk_26 : List (List Instr) := [bk_26_0, bk_26_1, bk_26_2, bk_26_3, bk_26_4]
def bk_27 : List (List Instr) := [bk_27_0, bk_27_1, bk_27_2, bk_27_3, bk_27_4, bk_27_5]
def bk_28 : List (List Instr) := [bk_28_0, bk_28_1, bk_28_2, bk_28_3, bk_28_4, bk_28_5, bk_28_6, bk_28_7]
def bk_29 : List (List Instr) := [bk_29_0, bk_29_1]
def bk_30 : List (List Instr) := [bk_30_0]
def bk_31 : List (List Instr) := [bk_31_0]
def bk_32 : List (List Instr) := [bk_32_0]
def bk_33 : List (List Instr) := [bk_33_0, bk_33_1, bk_33_2]
def bk_34 : List (List Instr) := [bk_34_0, bk_34_1, bk_34_2, bk_34_3]
def bk_35 : List (List Instr) := [bk_35_0, bk_35_1, bk_35_2]
def bk_36 : List (List Instr) := [bk_36_0, bk_36_1, bk_36_2, bk_36_3, bk_36_4, bk_36_5, bk_36_6]
def bk_37 : List (List Instr) := [bk_37_0, bk_37_1, bk_37_2]
def bk_38 : List (List Instr) := [bk_38_0]
def bk_39 : List (List Instr) := [bk_39_0]
def bk_40 : List (List Instr) := [bk_40_0, bk_40_1, bk_40_2]
def bk_41 : List (List Instr) := [bk_41_0, bk_41_1, bk_41_2, bk_41_3, bk_41_4, bk_41_5]
def bk_42 : List (List Instr) := [bk_42_0, bk_42_1, bk_42_2, bk_42_3, bk_42_4]
def bk_43 : List (List Instr) := [bk_43_0]
def bk_44 : List (List Instr) := [bk_44_0]
def bk_45 : List (List Instr) := [bk_45_0, bk_45_1]
def bk_46 : List (List Instr) := [bk_46_0, bk_46_1, bk_46_2, bk_46_3, bk_46_4, bk_46_5, bk_46_6, bk_46_7, bk_46_8, bk_46_9, bk_46_10, bk_46_11, bk_46_12]
def bk_47 : List (List Instr) := [bk_47_0, bk_47_1, bk_47_2, bk_47_3]
def bk_48 : List (List Instr) := [bk_48_0, bk_48_1, bk_48_2, bk_48_3]
def bk_49 : List (List Instr) := [bk_49_0, bk_49_1, bk_49_2, bk_49_3, bk_49_4]
def bk_50 : List (List Instr) := [bk_50_0]
def bk_51 : List (List Instr) := [bk_51_0]
def bk_52 : List (List Instr) := [bk_52_0, bk_52_1, bk_52_2, bk_52_3, bk_52_4, bk_52_5, bk_52_6]
def bk_53 : List (List Instr) := [bk_53_0, bk_53_1, bk_53_2, bk_53_3, bk_53_4, bk_53_5, bk_53_6]
def bk_54 : List (List Instr) := [bk_54_0]
def bk_55 : List (List Instr) := [bk_55_0]
def bk_56 : List (List Instr) := [bk_56_0, bk_56_1, bk_56_2, bk_56_3, bk_56_4, bk_56_5, bk_56_6]
def bk_57 : List (List Instr) := [bk_57_0]
def bk_58 : List (List Instr) := [bk_58_0]
def bk_59 : List (List Instr) := [bk_59_0, bk_59_1, bk_59_2, bk_59_3, bk_59_4]
def bk_60 : List (List Instr) := [bk_60_0, bk_60_1, bk_60_2, bk_60_3, bk_60_4, bk_60_5, bk_60_6, bk_60_7]
def bk_61 : List (List Instr) := [bk_61_0]
def bk_62 : List (List Instr) := [bk_62_0, bk_62_1, bk_62_2, bk_62_3, bk_62_4, bk_62_5]
def bk_63 : List (List Instr) := [bk_63_0]
def bk_64 : List (List Instr) := [bk_64_0, bk_64_1, bk_64_2, bk_64_3]
def bk_65 : List (List Instr) := [bk_65_0, bk_65_1, bk_65_2, bk_65_3, bk_65_4, bk_65_5, bk_65_6, bk_65_7]
def bk_66 : List (List Instr) := [bk_66_0, bk_66_1, bk_66_2, bk_66_3]
def bk_67 : List (List Instr) := [bk_67_0, bk_67_1, bk_67_2, bk_67_3, bk_67_4, bk_67_5, bk_67_6, bk_67_7, bk_67_8, bk_67_9, bk_67_10]
def bk_68 : List (List Instr) := [bk_68_0, bk_68_1, bk_68_2]
def bk_69 : List (List Instr) := [bk_69_0, bk_69_1, bk_69_2, bk_69_3, bk_69_4, bk_69_5, bk_69_6, bk_69_7, bk_69_8, bk_69_9, bk_69_10, bk_69_11, bk_69_12, bk_69_13]
def bk_70 : List (List Instr) := [bk_70_0]
def bk_71 : List (List Instr) := [bk_71_0, bk_71_1, bk_71_2]
def bk_72 : List (List Instr) := [bk_72_0, bk_72_1, bk_72_2]
def bk_73 : List (List Instr) := [bk_73_0]
def bk_74 : List (List Instr) := [bk_74_0]
def bk_75 : List (List Instr) := [bk_75_0, bk_75_1, bk_75_2]
def bk_76 : List (List Instr) := [bk_76_0, bk_76_1, bk_76_2]
def bk_77 : List (List Instr) := [bk_77_0]
def bk_78 : List (List Instr) := [bk_78_0]
def bk_79 : List (List Instr) := [bk_79_0]
def bk_80 : List (List Instr) := [bk_80_0]
def bk_81 : List (List Instr) := [bk_81_0, bk_81_1, bk_81_2, bk_81_3]
def bk_82 : List (List Instr) := [bk_82_0, bk_82_1, bk_82_2, bk_82_3, bk_82_4, bk_82_5, bk_82_6, bk_82_7, bk_82_8]
def bk_83 : List (List Instr) := [bk_83_0, bk_83_1, bk_83_2, bk_83_3]
def bk_84 : List (List Instr) := [bk_84_0, bk_84_1, bk_84_2]
def bk_85 : List (List Instr) := [bk_85_0, bk_85_1, bk_85_2, bk_85_3]
def bk_86 : List (List Instr) := [bk_86_0, bk_86_1, bk_86_2, bk_86_3, bk_86_4]
def bk_87 : List (List Instr) := [bk_87_0, bk_87_1, bk_87_2, bk_87_3, bk_87_4, bk_87_5, bk_87_6, bk_87_7, bk_87_8, bk_87_9, bk_87_10]
def bk_88 : List (List Instr) := [bk_88_0, bk_88_1, bk_88_2, bk_88_3, bk_88_4, bk_88_5, bk_88_6]
def bk_89 : List (List Instr) := [bk_89_0, bk_89_1, bk_89_2, bk_89_3]
def bk_90 : List (List Instr) := [bk_90_0, bk_90_1, bk_90_2, bk_90_3, bk_90_4, bk_90_5]
def bk_91 : List (List Instr) := [bk_91_0, bk_91_1, bk_91_2]
def bk_92 : List (List Instr) := [bk_92_0, bk_92_1, bk_92_2, bk_92_3]
def bk_93 : List (List Instr) := [bk_93_0, bk_93_1, bk_93_2, bk_93_3, bk_93_4]
def bk_94 : List (List Instr) := [bk_94_0, bk_94_1, bk_94_2, bk_94_3]
def bk_95 : List (List Instr) := [bk_95_0, bk_95_1, bk_95_2, bk_95_3, bk_95_4, bk_95_5]
def bk_96 : List (List Instr) := [bk_96_0, bk_96_1, bk_96_2]
def bk_97 : List (List Instr) := [bk_97_0]
def bk_98 : List (List Instr) := [bk_98_0, bk_98_1]
def bk_99 : List (List Instr) := [bk_99_0, bk_99_1, bk_99_2]
def bk_100 : List (List Instr) := [bk_100_0, bk_100_1, bk_100_2, bk_100_3]
def bk_101 : List (List Instr) := [bk_101_0, bk_101_1, bk_101_2, bk_101_3, bk_101_4, bk_101_5]
def bk_102 : List (List Instr) := [bk_102_0, bk_102_1, bk_102_2, bk_102_3, bk_102_4, bk_102_5, bk_102_6, bk_102_7, bk_102_8, bk_102_9]
def bk_103 : List (List Instr) := [bk_103_0, bk_103_1, bk_103_2, bk_103_3, bk_103_4, bk_103_5]
def bk_104 : List (List Instr) := [bk_104_0, bk_104_1, bk_104_2, bk_104_3]
def bk_105 : List (List Instr) := [bk_105_0]
def bk_106 : List (List Instr) := [bk_106_0, bk_106_1, bk_106_2]
def bk_107 : List (List Instr) := [bk_107_0, bk_107_1, bk_107_2, bk_107_3]
def bk_108 : List (List Instr) := [bk_108_0, bk_108_1]
def bk_109 : List (List Instr) := [bk_109_0]
def bk_110 : List (List Instr) := [bk_110_0, bk_110_1]
def bk_111 : List (List Instr) := [bk_111_0, bk_111_1, bk_111_2]
def bk_112 : List (List Instr) := [bk_112_0, bk_112_1]
def bk_113 : List (List Instr) := [bk_113_0, bk_113_1, bk_113_2]
def bk_114 : List (List Instr) := [bk_114_0]
def bk_115 : List (List Instr) := [bk_115_0, bk_115_1]
def bk_116 : List (List Instr) := [bk_116_0, bk_116_1, bk_116_2, bk_116_3]
def bk_117 : List (List Instr) := [bk_117_0, bk_117_1, bk_117_2, bk_117_3, bk_117_4]
def bk_118 : List (List Instr) := [bk_118_0, bk_118_1, bk_118_2, bk_118_3, bk_118_4, bk_118_5, bk_118_6, bk_118_7, bk_118_8]
def bk_119 : List (List Instr) := [bk_119_0]
def bk_120 : List (List Instr) := [bk_120_0, bk_120_1, bk_120_2, bk_120_3, bk_120_4]
def bk_121 : List (List Instr) := [bk_121_0, bk_121_1, bk_121_2]
def bk_122 : List (List Instr) := [bk_122_0, bk_122_1]
def bk_123 : List (List Instr) := [bk_123_0]
def bk_124 : List (List Instr) := [bk_124_0, bk_124_1, bk_124_2, bk_124_3]
def bk_125 : List (List Instr) := [bk_125_0, bk_125_1, bk_125_2, bk_125_3]
def bk_126 : List (List Instr) := [bk_126_0, bk_126_1, bk_126_2, bk_126_3, bk_126_4]
def bk_127 : List (List Instr) := [bk_127_0, bk_127_1, bk_127_2, bk_127_3, bk_127_4, bk_127_5, bk_127_6]
def bk_128 : List (List Instr) := [bk_128_0, bk_128_1, bk_128_2, bk_128_3, bk_128_4]
def bk_129 : List (List Instr) := [bk_129_0, bk_129_1, bk_129_2, bk_129_3, bk_129_4, bk_129_5, bk_129_6, bk_129_7]
def bk_130 : List (List Instr) := [bk_130_0, bk_130_1, bk_130_2]
def bk_131 : List (List Instr) := [bk_131_0, bk_131_1, bk_131_2, bk_131_3, bk_131_4, bk_131_5, bk_131_6, bk_131_7, bk_131_8]
def bk_132 : List (List Instr) := [bk_132_0]
def bk_133 : List (List Instr) := [bk_133_0, bk_133_1]
def bk_134 : List (List Instr) := [bk_134_0, bk_134_1, bk_134_2, bk_134_3]
def bk_135 : List (List Instr) := [bk_135_0]
def bk_136 : List (List Instr) := [bk_136_0]
def bk_137 : List (List Instr) := [bk_137_0, bk_137_1, bk_137_2]
def bk_138 : List (List Instr) := [bk_138_0]
def bk_139 : List (List Instr) := [bk_139_0]
def bk_140 : List (List Instr) := [bk_140_0]
def bk_141 : List (List Instr) := [bk_141_0, bk_141_1, bk_141_2]
def bk_142 : List (List Instr) := [bk_142_0]
def bk_143 : List (List Instr) := [bk_143_0, bk_143_1, bk_143_2]
def bk_144 : List (List Instr) := [bk_144_0]
def bk_145 : List (List Instr) := [bk_145_0]
def bk_146 : List (List Instr) := [bk_146_0]
def bk_147 : List (List Instr) := [bk_147_0, bk_147_1, bk_147_2, bk_147_3, bk_147_4, bk_147_5]
def bk_148 : List (List Instr) := [bk_148_0, bk_148_1, bk_148_2, bk_148_3]
def bk_149 : List (List Instr) := [bk_149_0, bk_149_1, bk_149_2, bk_149_3, bk_149_4, bk_149_5]
def bk_150 : List (List Instr) := [bk_150_0, bk_150_1, bk_150_2, bk_150_3]
def bk_151 : List (List Instr) := [bk_151_0, bk_151_1, bk_151_2, bk_151_3, bk_151_4, bk_151_5]
def bk_152 : List (List Instr) := [bk_152_0]
def bk_153 : List (List Instr) := [bk_153_0, bk_153_1, bk_153_2]
def bk_154 : List (List Instr) := [bk_154_0, bk_154_1, bk_154_2, bk_154_3, bk_154_4, bk_154_5, bk_154_6, bk_154_7]
def bk_155 : List (List Instr) := [bk_155_0, bk_155_1, bk_155_2, bk_155_3, bk_155_4, bk_155_5, bk_155_6]
def bk_156 : List (List Instr) := [bk_156_0, bk_156_1, bk_156_2, bk_156_3, bk_156_4, bk_156_5]
def bk_157 : List (List Instr) := [bk_157_0, bk_157_1, bk_157_2, bk_157_3, bk_157_4, bk_157_5]
def bk_158 : List (List Instr) := [bk_158_0]
def bk_159 : List (List Instr) := [bk_159_0, bk_159_1, bk_159_2, bk_159_3, bk_159_4, bk_159_5, bk_159_6, bk_159_7, bk_159_8, bk_159_9]
def bk_160 : List (List Instr) := [bk_160_0, bk_160_1, bk_160_2, bk_160_3, bk_160_4, bk_160_5]
def bk_161 : List (List Instr) := [bk_161_0, bk_161_1, bk_161_2, bk_161_3]
def bk_162 : List (List Instr) := [bk_162_0, bk_162_1, bk_162_2]
def bk_163 : List (List Instr) := [bk_163_0, bk_163_1, bk_163_2, bk_163_3, bk_163_4]
def bk_164 : List (List Instr) := [bk_164_0, bk_164_1, bk_164_2, bk_164_3]
def bk_165 : List (List Instr) := [bk_165_0, bk_165_1, bk_165_2]
def bk_166 : List (List Instr) := [bk_166_0, bk_166_1, bk_166_2]
def bk_167 : List (List Instr) := [bk_167_0]
def bk_168 : List (List Instr) := [bk_168_0]
def bk_169 : List (List Instr) := [bk_169_0, bk_169_1, bk_169_2, bk_169_3, bk_169_4, bk_169_5, bk_169_6]
def bk_170 : List (List Instr) := [bk_170_0, bk_170_1, bk_170_2, bk_170_3, bk_170_4, bk_170_5, bk_170_6, bk_170_7, bk_170_8]
def bk_171 : List (List Instr) := [bk_171_0]
def bk_172 : List (List Instr) := [bk_172_0, bk_172_1, bk_172_2, bk_172_3]
def bk_173 : List (List Instr) := [bk_173_0, bk_173_1, bk_173_2, bk_173_3, bk_173_4]
def bk_174 : List (List Instr) := [bk_174_0, bk_174_1, bk_174_2, bk_174_3]
def bk_175 : List (List Instr) := [bk_175_0, bk_175_1, bk_175_2]
def bk_176 : List (List Instr) := [bk_176_0, bk_176_1]
def bk_177 : List (List Instr) := [bk_177_0, bk_177_1, bk_177_2, bk_177_3, bk_177_4]
def bk_178 : List (List Instr) := [bk_178_0, bk_178_1, bk_178_2]
def bk_179 : List (List Instr) := [bk_179_0, bk_179_1, bk_179_2]
def bk_180 : List (List Instr) := [bk_180_0, bk_180_1, bk_180_2, bk_180_3, bk_180_4, bk_180_5]
def bk_181 : List (List Instr) := [bk_181_0, bk_181_1, bk_181_2, bk_181_3, bk_181_4]
def bk_182 : List (List Instr) := [bk_182_0, bk_182_1, bk_182_2, bk_182_3, bk_182_4, bk_182_5]
def bk_183 : List (List Instr) := [bk_183_0, bk_183_1, bk_183_2, bk_183_3, bk_183_4, bk_183_5, bk_183_6]
def bk_184 : List (List Instr) := [bk_184_0, bk_184_1, bk_184_2, bk_184_3, bk_184_4, bk_184_5, bk_184_6, bk_184_7, bk_184_8, bk_184_9, bk_184_10, bk_184_11]
def bk_185 : List (List Instr) := [bk_185_0, bk_185_1, bk_185_2, bk_185_3, bk_185_4, bk_185_5, bk_185_6]
def bk_186 : List (List Instr) := [bk_186_0, bk_186_1, bk_186_2, bk_186_3, bk_186_4, bk_186_5, bk_186_6]
def bk_187 : List (List Instr) := [bk_187_0, bk_187_1, bk_187_2, bk_187_3]
def bk_188 : List (List Instr) := [bk_188_0, bk_188_1, bk_188_2, bk_188_3]
def bk_189 : List (List Instr) := [bk_189_0]
def bk_190 : List (List Instr) := [bk_190_0, bk_190_1, bk_190_2, bk_190_3, bk_190_4, bk_190_5, bk_190_6, bk_190_7]
def bk_191 : List (List Instr) := [bk_191_0, bk_191_1, bk_191_2, bk_191_3, bk_191_4, bk_191_5, bk_191_6, bk_191_7]
def bk_192 : List (List Instr) := [bk_192_0]
def bk_193 : List (List Instr) := [bk_193_0, bk_193_1, bk_193_2]
def bk_194 : List (List Instr) := [bk_194_0, bk_194_1, bk_194_2, bk_194_3, bk_194_4]
def bk_195 : List (List Instr) := [bk_195_0, bk_195_1]
def bk_196 : List (List Instr) := [bk_196_0, bk_196_1, bk_196_2, bk_196_3, bk_196_4]
def bk_197 : List (List Instr) := [bk_197_0, bk_197_1, bk_197_2, bk_197_3, bk_197_4, bk_197_5, bk_197_6, bk_197_7, bk_197_8, bk_197_9, bk_197_10, bk_197_11, bk_197_12, bk_197_13, bk_197_14, bk_197_15]
def bk_198 : List (List Instr) := [bk_198_0, bk_198_1, bk_198_2, bk_198_3, bk_198_4, bk_198_5, bk_198_6]
def bk_199 : List (List Instr) := [bk_199_0, bk_199_1, bk_199_2]
def bk_200 : List (List Instr) := [bk_200_0, bk_200_1, bk_200_2, bk_200_3, bk_200_4, bk_200_5, bk_200_6, bk_200_7]
def bk_201 : List (List Instr) := [bk_201_0]
def bk_202 : List (List Instr) := [bk_202_0, bk_202_1, bk_202_2, bk_202_3]
def bk_203 : List (List Instr) := [bk_203_0, bk_203_1, bk_203_2]
def bk_204 : List (List Instr) := [bk_204_0, bk_204_1, bk_204_2, bk_204_3, bk_204_4, bk_204_5]
def bk_205 : List (List Instr) := [bk_205_0, bk_205_1, bk_205_2, bk_205_3, bk_205_4, bk_205_5]
def bk_206 : List (List Instr) := [bk_206_0, bk_206_1]
def bk_207 : List (List Instr) := [bk_207_0, bk_207_1]
def bk_208 : List (List Instr) := [bk_208_0]
def bk_209 : List (List Instr) := [bk_209_0, bk_209_1]
def bk_210 : List (List Instr) := [bk_210_0, bk_210_1, bk_210_2, bk_210_3]
def bk_211 : List (List Instr) := [bk_211_0, bk_211_1, bk_211_2, bk_211_3, bk_211_4, bk_211_5, bk_211_6, bk_211_7, bk_211_8, bk_211_9, bk_211_10, bk_211_11, bk_211_12, bk_211_13, bk_211_14, bk_211_15, bk_211_16, bk_211_17, bk_211_18, bk_211_19, bk_211_20]
def bk_212 : List (List Instr) := [bk_212_0, bk_212_1, bk_212_2, bk_212_3]
def bk_213 : List (List Instr) := [bk_213_0, bk_213_1, bk_213_2, bk_213_3, bk_213_4, bk_213_5, bk_213_6, bk_213_7, bk_213_8]
def bk_214 : List (List Instr) := [bk_214_0, bk_214_1, bk_214_2, bk_214_3, bk_214_4, bk_214_5, bk_214_6, bk_214_7, bk_214_8, bk_214_9, bk_214_10]
def bk_215 : List (List Instr) := [bk_215_0]
def bk_216 : List (List Instr) := [bk_216_0, bk_216_1, bk_216_2, bk_216_3, bk_216_4, bk_216_5, bk_216_6, bk_216_7]
def bk_217 : List (List Instr) := [bk_217_0, bk_217_1, bk_217_2, bk_217_3, bk_217_4, bk_217_5, bk_217_6, bk_217_7, bk_217_8, bk_217_9]
def bk_218 : List (List Instr) := [bk_218_0, bk_218_1, bk_218_2, bk_218_3, bk_218_4, bk_218_5, bk_218_6, bk_218_7, bk_218_8, bk_218_9, bk_218_10, bk_218_11, bk_218_12, bk_218_13]
def bk_219 : List (List Instr) := [bk_219_0, bk_219_1, bk_219_2, bk_219_3, bk_219_4]
def bk_220 : List (List Instr) := [bk_220_0, bk_220_1, bk_220_2]
def bk_221 : List (List Instr) := [bk_221_0, bk_221_1]
def bk_222 : List (List Instr) := [bk_222_0, bk_222_1, bk_222_2]
def bk_223 : List (List Instr) := [bk_223_0, bk_223_1, bk_223_2, bk_223_3, bk_223_4, bk_223_5, bk_223_6]
def bk_224 : List (List Instr) := [bk_224_0]
def bk_225 : List (List Instr) := [bk_225_0]
def bk_226 : List (List Instr) := [bk_226_0, bk_226_1, bk_226_2, bk_226_3]
def bk_227 : List (List Instr) := [bk_227_0, bk_227_1, bk_227_2, bk_227_3, bk_227_4, bk_227_5]
def bk_228 : List (List Instr) := [bk_228_0, bk_228_1, bk_228_2, bk_228_3, bk_228_4, bk_228_5]
def bk_229 : List (List Instr) := [bk_229_0, bk_229_1, bk_229_2, bk_229_3, bk_229_4]
def bk_230 : List (List Instr) := [bk_230_0]
def bk_231 : List (List Instr) := [bk_231_0, bk_231_1, bk_231_2, bk_231_3, bk_231_4, bk_231_5, bk_231_6, bk_231_7, bk_231_8]
def bk_232 : List (List Instr) := [bk_232_0, bk_232_1, bk_232_2, bk_232_3]
def bk_233 : List (List Instr) := [bk_233_0, bk_233_1, bk_233_2, bk_233_3, bk_233_4, bk_233_5, bk_233_6, bk_233_7, bk_233_8, bk_233_9, bk_233_10, bk_233_11]
def bk_234 : List (List Instr) := [bk_234_0, bk_234_1, bk_234_2, bk_234_3, bk_234_4, bk_234_5, bk_234_6, bk_234_7, bk_234_8, bk_234_9, bk_234_10]
def bk_235 : List (List Instr) := [bk_235_0]
def bk_236 : List (List Instr) := [bk_236_0, bk_236_1, bk_236_2]
def bk_237 : List (List Instr) := [bk_237_0, bk_237_1, bk_237_2]
def bk_238 : List (List Instr) := [bk_238_0, bk_238_1, bk_238_2, bk_238_3]
def bk_239 : List (List Instr) := [bk_239_0, bk_239_1, bk_239_2]
def bk_240 : List (List Instr) := [bk_240_0, bk_240_1, bk_240_2]
def bk_241 : List (List Instr) := [bk_241_0, bk_241_1, bk_241_2, bk_241_3, bk_241_4, bk_241_5, bk_241_6, bk_241_7, bk_241_8, bk_241_9, bk_241_10, bk_241_11, bk_241_12, bk_241_13, bk_241_14, bk_241_15, bk_241_16, bk_241_17, bk_241_18, bk_241_19, bk_241_20, bk_241_21, bk_241_22, bk_241_23, bk_241_24, bk_241_25, bk_241_26, bk_241_27, bk_241_28, bk_241_29, bk_241_30, bk_241_31, bk_241_32, bk_241_33, bk_241_34, bk_241_35, bk_241_36, bk_241_37, bk_241_38, bk_241_39, bk_241_40, bk_241_41, bk_241_42, bk_241_43, bk_241_44, bk_241_45, bk_241_46, bk_241_47, bk_241_48, bk_241_49, bk_241_50, bk_241_51, bk_241_52, bk_241_53, bk_241_54, bk_241_55, bk_241_56, bk_241_57, bk_241_58, bk_241_59, bk_241_60, bk_241_61, bk_241_62, bk_241_63]
def ex_bs : List (List (List Instr)) := [bk_0, bk_1, bk_2, bk_3, bk_4, bk_5, bk_6, bk_7, bk_8, bk_9, bk_10, bk_11, bk_12, bk_13, bk_14, bk_15, bk_16, bk_17, bk_18, bk_19, bk_20, bk_21, bk_22, bk_23, bk_24, bk_25, bk_26, bk_27, bk_28, bk_29, bk_30, bk_31, bk_32, bk_33, bk_34, bk_35, bk_36, bk_37, bk_38, bk_39, bk_40, bk_41, bk_42, bk_43, bk_44, bk_45, bk_46, bk_47, bk_48, bk_49, bk_50, bk_51, bk_52, bk_53, bk_54, bk_55, bk_56, bk_57, bk_58, bk_59, bk_60, bk_61, bk_62, bk_63, bk_64, bk_65, bk_66, bk_67, bk_68, bk_69, bk_70, bk_71, bk_72, bk_73, bk_74, bk_75, bk_76, bk_77, bk_78, bk_79, bk_80, bk_81, bk_82, bk_83, bk_84, bk_85, bk_86, bk_87, bk_88, bk_89, bk_90, bk_91, bk_92, bk_93, bk_94, bk_95, bk_96, bk_97, bk_98, bk_99, bk_100, bk_101, bk_102, bk_103, bk_104, bk_105, bk_106, bk_107, bk_108, bk_109, bk_110, bk_111, bk_112, bk_113, bk_114, bk_115, bk_116, bk_117, bk_118, bk_119, bk_120, bk_121, bk_122, bk_123, bk_124, bk_125, bk_126, bk_127, bk_128, bk_129, bk_130, bk_131, bk_132, bk_133, bk_134, bk_135, bk_136, bk_137, bk_138, bk_139, bk_140, bk_141, bk_142, bk_143, bk_144, bk_145, bk_146, bk_147, bk_148, bk_149, bk_150, bk_151, bk_152, bk_153, bk_154, bk_155, bk_156, bk_157, bk_158, bk_159, bk_160, bk_161, bk_162, bk_163, bk_164, bk_165, bk_166, bk_167, bk_168, bk_169, bk_170, bk_171, bk_172, bk_173, bk_174, bk_175, bk_176, bk_177, bk_178, bk_179, bk_180, bk_181, bk_182, bk_183, bk_184, bk_185, bk_186, bk_187, bk_188, bk_189, bk_190, bk_191, bk_192, bk_193, bk_194, bk_195, bk_196, bk_197, bk_198, bk_199, bk_200, bk_201, bk_202, bk_203, bk_204, bk_205, bk_206, bk_207, bk_208, bk_209, bk_210, bk_211, bk_212, bk_213, bk_214, bk_215, bk_216, bk_217, bk_218, bk_219, bk_220, bk_221, bk_222, bk_223, bk_224, bk_225, bk_226, bk_227, bk_228, bk_229, bk_230, bk_231, bk_232, bk_233, bk_234, bk_235, bk_236, bk_237, bk_238, bk_239, bk_240, bk_241]
def ex_bk (m b : Nat) : List Instr := ((ex_bs.getD m []).getD b [])
def ex_pc : List (List Nat) := [[0],
  [0, 12, 55, 61],
  [0, 4, 35, 36, 50, 51, 59],
  [0, 6, 34, 41, 60, 64, 80, 115, 121, 144, 153, 154],
  [0, 8, 66, 72],
  [0, 2, 30],
  [0],
  [0],
  [0, 2, 22, 28],
  [0],
  [0],
  [0, 16, 17],
  [0, 32, 33],
  [0, 16, 17],
  [0, 16, 17],
  [0],
  [0],
  [0],
  [0],
  [0, 10, 31, 43],
  [0, 20, 24, 25],
  [0, 21, 27],
  [0, 33, 34],
  [0],
  [0, 9, 39],
  [0, 20, 24, 25],
  [0, 21, 23, 52, 53],
  [0, 13, 25, 36, 55, 56],
  [0, 13, 26, 42, 45, 57, 76, 77],
  [0, 12],
  [0],
  [0],
  [0],
  [0, 4, 34],
  [0, 16, 26, 60],
  [0, 4, 27],
  [0, 4, 30, 58, 59, 67, 73],
  [0, 26, 32],
  [0],
  [0],
  [0, 36, 37],
  [0, 9, 81, 82, 84, 90],
  [0, 5, 33, 34, 42],
  [0],
  [0],
  [0, 49],
  [0, 17, 24, 34, 40, 68, 75, 84, 124, 126, 134, 165, 167],
  [0, 7, 33, 39],
  [0, 4, 34, 40],
  [0, 8, 43, 44, 53],
  [0],
  [0],
  [0, 17, 49, 76, 122, 170, 176],
  [0, 21, 66, 67, 80, 81, 90],
  [0],
  [0],
  [0, 38, 39, 58, 61, 112, 118],
  [0],
  [0],
  [0, 7, 33, 39, 46],
  [0, 26, 55, 62, 72, 105, 169, 175],
  [0],
  [0, 11, 23, 35, 39, 40],
  [0],
  [0, 23, 27, 28],
  [0, 5, 37, 40, 68, 77, 81, 82],
  [0, 8, 18, 19],
  [0, 19, 24, 25, 46, 47, 48, 66, 67, 83, 84],
  [0, 20, 21],
  [0, 32, 41, 42, 43, 52, 53, 54, 66, 67, 68, 76, 80, 81],
  [0],
  [0, 13, 14],
  [0, 13, 14],
  [0],
  [0],
  [0, 25, 37],
  [0, 34, 35],
  [0],
  [0],
  [0],
  [0],
  [0, 9, 29, 35],
  [0, 11, 30, 33, 60, 95, 132, 138, 144],
  [0, 6, 69, 71],
  [0, 118, 143],
  [0, 38, 45, 66],
  [0, 21, 28, 47, 53],
  [0, 23, 72, 79, 86, 93, 99, 106, 112, 119, 126],
  [0, 23, 39, 64, 65, 81, 82],
  [0, 51, 58, 80],
  [0, 26, 33, 46, 61, 69],
  [0, 33, 40],
  [0, 23, 37, 44],
  [0, 28, 35, 54, 55],
  [0, 24, 31, 51],
  [0, 24, 31, 51, 89, 112],
  [0, 24, 39],
  [0],
  [0, 14],
  [0, 24, 29],
  [0, 16, 50, 51],
  [0, 9, 14, 25, 64, 70],
  [0, 25, 32, 50, 73, 93, 128, 134, 149, 158],
  [0, 33, 39, 40, 44, 78],
  [0, 21, 41, 60],
  [0],
  [0, 26, 27],
  [0, 21, 50, 57],
  [0, 16],
  [0],
  [0, 14],
  [0, 25, 32],
  [0, 14],
  [0, 25, 31],
  [0],
  [0, 14],
  [0, 21, 41, 42],
  [0, 32, 39, 69, 71],
  [0, 18, 36, 60, 62, 89, 95, 101, 130],
  [0],
  [0, 35, 42, 56, 57],
  [0, 25, 32],
  [0, 17],
  [0],
  [0, 11, 56, 62],
  [0, 21, 28, 50],
  [0, 39, 46, 66, 67],
  [0, 33, 40, 52, 65, 79, 80],
  [0, 18, 36, 53, 60],
  [0, 22, 29, 51, 58, 86, 115, 122],
  [0, 14, 62],
  [0, 44, 55, 66, 77, 85, 96, 107, 112],
  [0],
  [0, 22],
  [0, 17, 38, 39],
  [0],
  [0],
  [0, 14, 15],
  [0],
  [0],
  [0],
  [0, 146, 168],
  [0],
  [0, 14, 15],
  [0],
  [0],
  [0],
  [0, 11, 40, 50, 52, 86],
  [0, 14, 26, 60],
  [0, 40, 47, 68, 126, 128],
  [0, 26, 30, 31],
  [0, 17, 24, 53, 57, 63],
  [0],
  [0, 12, 48],
  [0, 18, 25, 56, 66, 72, 82, 92],
  [0, 15, 30, 60, 61, 79, 80],
  [0, 34, 35, 72, 79, 101],
  [0, 2, 14, 44, 50, 56],
  [0],
  [0, 18, 25, 60, 68, 72, 73, 81, 86, 87],
  [0, 28, 38, 40, 46, 53],
  [0, 15, 43, 49],
  [0, 46, 47],
  [0, 16, 25, 38, 39],
  [0, 27, 31, 32],
  [0, 33, 34],
  [0, 22, 23],
  [0],
  [0],
  [0, 16, 23, 38, 54, 69, 93],
  [0, 13, 24, 40, 43, 55, 75, 100, 102],
  [0],
  [0, 14, 48, 59],
  [0, 16, 23, 40, 62],
  [0, 15, 32, 47],
  [0, 8, 41],
  [0, 14],
  [0, 15, 32, 42, 80],
  [0, 2, 34],
  [0, 2, 34],
  [0, 11, 19, 74, 119, 125],
  [0, 2, 23, 32, 33],
  [0, 15, 27, 32, 46, 47],
  [0, 12, 19, 31, 36, 51, 57],
  [0, 15, 22, 38, 53, 63, 150, 151, 175, 178, 195, 196],
  [0, 4, 22, 73, 74, 82, 88],
  [0, 20, 24, 45, 53, 54, 62],
  [0, 2, 29, 35],
  [0, 15, 30, 49],
  [0],
  [0, 38, 111, 112, 115, 121, 140, 141],
  [0, 18, 41, 42, 44, 85, 103, 109],
  [0],
  [0, 20, 24],
  [0, 15, 36, 45, 51],
  [0, 16],
  [0, 2, 34, 35, 42],
  [0, 4, 20, 64, 65, 94, 99, 101, 109, 122, 123, 128, 154, 155, 163, 169],
  [0, 8, 24, 28, 49, 57, 58],
  [0, 4, 24],
  [0, 4, 41, 42, 50, 54, 88, 94],
  [0],
  [0, 14, 27, 44],
  [0, 29, 36],
  [0, 7, 22, 28, 83, 89],
  [0, 16, 25, 72, 78, 121],
  [0, 16],
  [0, 16],
  [0],
  [0, 16],
  [0, 15, 33, 34],
  [0, 28, 35, 41, 76, 78, 86, 92, 133, 150, 157, 169, 220, 226, 238, 247, 280, 282, 290, 312, 313],
  [0, 32, 36, 37],
  [0, 14, 30, 48, 50, 84, 90, 109, 146],
  [0, 4, 36, 46, 47, 66, 68, 81, 96, 100, 107],
  [0],
  [0, 40, 43, 53, 63, 65, 75, 82],
  [0, 15, 19, 34, 38, 56, 60, 68, 72, 73],
  [0, 12, 21, 27, 81, 112, 113, 117, 156, 157, 158, 164, 177, 178],
  [0, 23, 30, 44, 45],
  [0, 19, 26],
  [0, 17],
  [0, 34, 35],
  [0, 24, 36, 59, 61, 183, 189],
  [0],
  [0],
  [0, 11, 32, 38],
  [0, 15, 22, 41, 76, 77],
  [0, 9, 76, 77, 79, 85],
  [0, 30, 37, 51, 52],
  [0],
  [0, 29, 36, 47, 60, 80, 81, 85, 111],
  [0, 14, 30, 53],
  [0, 14, 21, 39, 46, 68, 117, 124, 127, 161, 164, 199],
  [0, 17, 21, 49, 88, 95, 102, 104, 112, 120, 128],
  [0],
  [0, 9, 10],
  [0, 9, 10],
  [0, 46, 59, 73],
  [0, 5, 20],
  [0, 10, 27],
  [0, 18, 236, 289, 322, 355, 373, 374, 395, 396, 404, 479, 512, 555, 588, 621, 654, 687, 710, 723, 746, 769, 792, 825, 858, 881, 904, 917, 930, 953, 976, 989, 1012, 1055, 1078, 1101, 1114, 1137, 1155, 1156, 1177, 1178, 1186, 1229, 1252, 1265, 1308, 1341, 1364, 1377, 1400, 1423, 1424, 1450, 1451, 1459, 1502, 1545, 1588, 1651, 1664, 1687, 1693, 18]]
abbrev m_X0_init : Nat := 0
abbrev m_X0_mostCars : Nat := 1
abbrev m_X0_waitingCars : Nat := 2
abbrev m_X0_shareHours : Nat := 3
abbrev m_X0_neediest : Nat := 4
abbrev m_X0_chargeThose : Nat := 5
abbrev m_X1_init : Nat := 6
abbrev m_X1_become : Nat := 7
abbrev m_X1_placeInEvening : Nat := 8
abbrev m_X2_init : Nat := 9
abbrev m_X2_become : Nat := 10
abbrev m_X2_isKind : Nat := 11
abbrev m_X2_isFact : Nat := 12
abbrev m_X2_hasLane : Nat := 13
abbrev m_X2_hasCar : Nat := 14
abbrev m_X2_addLane : Nat := 15
abbrev m_X2_addCar : Nat := 16
abbrev m_X2_fact : Nat := 17
abbrev m_X2_changeFact : Nat := 18
abbrev m_X2_isOfKind : Nat := 19
abbrev m_X2_cycleOf : Nat := 20
abbrev m_X2_bears : Nat := 21
abbrev m_X2_suits : Nat := 22
abbrev m_X2_carAt : Nat := 23
abbrev m_X2_lengthLeft : Nat := 24
abbrev m_X2_isShut : Nat := 25
abbrev m_X2_isFree : Nat := 26
abbrev m_X2_parkFinding : Nat := 27
abbrev m_X2_shuntFinding : Nat := 28
abbrev m_X2_bring : Nat := 29
abbrev m_X2_take : Nat := 30
abbrev m_X2_move : Nat := 31
abbrev m_X2_moveBack : Nat := 32
abbrev m_X2_forgetCycles : Nat := 33
abbrev m_X2_carsAhead : Nat := 34
abbrev m_X2_carsInLanes : Nat := 35
abbrev m_X2_morningOf : Nat := 36
abbrev m_X2_floodMinute : Nat := 37
abbrev m_X3_init : Nat := 38
abbrev m_X3_become : Nat := 39
abbrev m_X3_add : Nat := 40
abbrev m_X3_isThere : Nat := 41
abbrev m_X3_carsWithKey : Nat := 42
abbrev m_X4_init : Nat := 43
abbrev m_X4_become : Nat := 44
abbrev m_X4_add : Nat := 45
abbrev m_X4_shareOf : Nat := 46
abbrev m_X4_latestUnharmed : Nat := 47
abbrev m_X4_firstHarmed : Nat := 48
abbrev m_X4_shuntsBy : Nat := 49
abbrev m_X5_init : Nat := 50
abbrev m_X5_leastMornings : Nat := 51
abbrev m_X5_assign : Nat := 52
abbrev m_X5_added : Nat := 53
abbrev m_X6_init : Nat := 54
abbrev m_X6_mostBids : Nat := 55
abbrev m_X6_give : Nat := 56
abbrev m_X6_rentOf : Nat := 57
abbrev m_X7_init : Nat := 58
abbrev m_X7_mostWorth : Nat := 59
abbrev m_X7_takeMore : Nat := 60
abbrev m_X8_init : Nat := 61
abbrev m_X8_isSign : Nat := 62
abbrev m_X8_suppose : Nat := 63
abbrev m_X8_let : Nat := 64
abbrev m_X8_firstFault : Nat := 65
abbrev m_X8_asked : Nat := 66
abbrev m_X8_worked : Nat := 67
abbrev m_X8_knownBy : Nat := 68
abbrev m_X8_joins : Nat := 69
abbrev m_X9_init : Nat := 70
abbrev m_X9_isSheet : Nat := 71
abbrev m_X9_isMissing : Nat := 72
abbrev m_X9_begin : Nat := 73
abbrev m_X9_number : Nat := 74
abbrev m_X9_write : Nat := 75
abbrev m_X9_hasSpan : Nat := 76
abbrev m_X9_carryOver : Nat := 77
abbrev m_X10_init : Nat := 78
abbrev m_X10_begin : Nat := 79
abbrev m_X10_frees : Nat := 80
abbrev m_X10_shortest : Nat := 81
abbrev m_X10_search : Nat := 82
abbrev m_X10_carryOut : Nat := 83
abbrev m_X11_init : Nat := 84
abbrev m_X11_lane : Nat := 85
abbrev m_X11_as : Nat := 86
abbrev m_X11_laneIs : Nat := 87
abbrev m_X11_breaks : Nat := 88
abbrev m_X11_car : Nat := 89
abbrev m_X11_carIs : Nat := 90
abbrev m_X11_tell : Nat := 91
abbrev m_X11_at : Nat := 92
abbrev m_X11_fits : Nat := 93
abbrev m_X11_park : Nat := 94
abbrev m_X11_shunt : Nat := 95
abbrev m_X11_leave : Nat := 96
abbrev m_X11_night : Nat := 97
abbrev m_X11_hour : Nat := 98
abbrev m_X11_ahead : Nat := 99
abbrev m_X11_fewest : Nat := 100
abbrev m_X11_step : Nat := 101
abbrev m_X11_proves : Nat := 102
abbrev m_X11_morning : Nat := 103
abbrev m_X11_arrive : Nat := 104
abbrev m_X11_clear : Nat := 105
abbrev m_X11_plan : Nat := 106
abbrev m_X11_planned : Nat := 107
abbrev m_X11_chargers : Nat := 108
abbrev m_X11_charged : Nat := 109
abbrev m_X11_charging : Nat := 110
abbrev m_X11_bid : Nat := 111
abbrev m_X11_given : Nat := 112
abbrev m_X11_rent : Nat := 113
abbrev m_X11_giving : Nat := 114
abbrev m_X11_porter : Nat := 115
abbrev m_X11_look : Nat := 116
abbrev m_X11_harm : Nat := 117
abbrev m_X11_text : Nat := 118
abbrev m_X11_wrong : Nat := 119
abbrev m_X11_lets : Nat := 120
abbrev m_X11_flood : Nat := 121
abbrev m_X11_pace : Nat := 122
abbrev m_X11_rescue : Nat := 123
abbrev m_X11_rescued : Nat := 124
abbrev m_X11_note : Nat := 125
abbrev m_X11_key : Nat := 126
abbrev m_X11_sheet : Nat := 127
abbrev m_X11_put : Nat := 128
abbrev m_X11_copy : Nat := 129
abbrev m_X11_undo : Nat := 130
abbrev m_X11_all : Nat := 131
abbrev m_X11_refuse : Nat := 132
abbrev m_X11_keepForUndo : Nat := 133
abbrev m_X11_inLaneFinding : Nat := 134
abbrev m_X11_keysNow : Nat := 135
abbrev m_X11_isLet : Nat := 136
abbrev m_X11_isWithin : Nat := 137
abbrev m_X11_isHour : Nat := 138
abbrev m_X11_isTenant : Nat := 139
abbrev m_X11_isPorter : Nat := 140
abbrev m_X12_init : Nat := 141
abbrev m_X12_finding : Nat := 142
abbrev m_X12_within : Nat := 143
abbrev m_X12_isLane : Nat := 144
abbrev m_X12_isCar : Nat := 145
abbrev m_X12_isHour : Nat := 146
abbrev m_X12_keep : Nat := 147
abbrev m_X12_undo : Nat := 148
abbrev m_X12_lane : Nat := 149
abbrev m_X12_isLift : Nat := 150
abbrev m_X12_as : Nat := 151
abbrev m_X12_carAt : Nat := 152
abbrev m_X12_leftOf : Nat := 153
abbrev m_X12_laneIs : Nat := 154
abbrev m_X12_breaks : Nat := 155
abbrev m_X12_car : Nat := 156
abbrev m_X12_standOf : Nat := 157
abbrev m_X12_manyAhead : Nat := 158
abbrev m_X12_carIs : Nat := 159
abbrev m_X12_tell : Nat := 160
abbrev m_X12_at : Nat := 161
abbrev m_X12_canFit : Nat := 162
abbrev m_X12_fits : Nat := 163
abbrev m_X12_isStuck : Nat := 164
abbrev m_X12_isFree : Nat := 165
abbrev m_X12_turns : Nat := 166
abbrev m_X12_comes : Nat := 167
abbrev m_X12_goes : Nat := 168
abbrev m_X12_park : Nat := 169
abbrev m_X12_hinders : Nat := 170
abbrev m_X12_does : Nat := 171
abbrev m_X12_led : Nat := 172
abbrev m_X12_shunt : Nat := 173
abbrev m_X12_leave : Nat := 174
abbrev m_X12_night : Nat := 175
abbrev m_X12_hour : Nat := 176
abbrev m_X12_ahead : Nat := 177
abbrev m_X12_lay : Nat := 178
abbrev m_X12_bring : Nat := 179
abbrev m_X12_frees : Nat := 180
abbrev m_X12_findFewest : Nat := 181
abbrev m_X12_fewest : Nat := 182
abbrev m_X12_step : Nat := 183
abbrev m_X12_proves : Nat := 184
abbrev m_X12_morningOf : Nat := 185
abbrev m_X12_morning : Nat := 186
abbrev m_X12_arrivalOf : Nat := 187
abbrev m_X12_arrive : Nat := 188
abbrev m_X12_clear : Nat := 189
abbrev m_X12_moreBy : Nat := 190
abbrev m_X12_plans : Nat := 191
abbrev m_X12_findPlan : Nat := 192
abbrev m_X12_plan : Nat := 193
abbrev m_X12_planned : Nat := 194
abbrev m_X12_chargers : Nat := 195
abbrev m_X12_begin : Nat := 196
abbrev m_X12_charge : Nat := 197
abbrev m_X12_canAll : Nat := 198
abbrev m_X12_many : Nat := 199
abbrev m_X12_findCharged : Nat := 200
abbrev m_X12_charged : Nat := 201
abbrev m_X12_charging : Nat := 202
abbrev m_X12_bid : Nat := 203
abbrev m_X12_mostFrom : Nat := 204
abbrev m_X12_findGiving : Nat := 205
abbrev m_X12_given : Nat := 206
abbrev m_X12_rent : Nat := 207
abbrev m_X12_giving : Nat := 208
abbrev m_X12_porter : Nat := 209
abbrev m_X12_look : Nat := 210
abbrev m_X12_harm : Nat := 211
abbrev m_X12_isSign : Nat := 212
abbrev m_X12_text : Nat := 213
abbrev m_X12_wrongAt : Nat := 214
abbrev m_X12_wrong : Nat := 215
abbrev m_X12_readBy : Nat := 216
abbrev m_X12_joined : Nat := 217
abbrev m_X12_isLet : Nat := 218
abbrev m_X12_lets : Nat := 219
abbrev m_X12_flood : Nat := 220
abbrev m_X12_pace : Nat := 221
abbrev m_X12_minuteOf : Nat := 222
abbrev m_X12_rescues : Nat := 223
abbrev m_X12_findRescue : Nat := 224
abbrev m_X12_rescue : Nat := 225
abbrev m_X12_rescued : Nat := 226
abbrev m_X12_note : Nat := 227
abbrev m_X12_hasKey : Nat := 228
abbrev m_X12_key : Nat := 229
abbrev m_X12_isSheet : Nat := 230
abbrev m_X12_sheet : Nat := 231
abbrev m_X12_put : Nat := 232
abbrev m_X12_copy : Nat := 233
abbrev m_X12_all : Nat := 234
abbrev m_J6_bitCount_0f7a4 : Nat := 235
abbrev m_J9_max_7cf53 : Nat := 236
abbrev m_J9_min_7cf53 : Nat := 237
abbrev m_J7_rangeCheck_23922 : Nat := 238
abbrev m_J7_fill_53178 : Nat := 239
abbrev m_J7_fill_fda19 : Nat := 240
abbrev m_L_law : Nat := 241
end
section
/-! an abstract machine over the tables: whole numbers for ints, places in a list of cells for references -/
abbrev ex_V : Type := Int ⊕ (Nat ⊕ Int)
abbrev ex_C : Type := Nat ⊕ (List (Option Nat) ⊕ (Nat × List (Option (Option Nat))))
abbrev ex_S : Type := Nat → Int → Int
abbrev ex_H : Type := List ex_C × ex_S
abbrev ex_R : Type := List ex_V × ex_H
abbrev ex_O : Type := Option ((List ex_V × List ex_V × ex_H) ⊕ ((Nat × List ex_V × List ex_V × ex_H) ⊕ ((Nat × List ex_V × List ex_V × ex_H) ⊕ ex_R)))
abbrev vI (z : Int) : ex_V := .inl z
abbrev vR (a : Nat) : ex_V := .inr (.inl a)
abbrev vL (z : Int) : ex_V := .inr (.inr z)
abbrev cA (n : Nat) : ex_C := .inl n
abbrev cQ (r : List (Option Nat)) : ex_C := .inr (.inl r)
abbrev cO (c : Nat) (f : List (Option (Option Nat))) : ex_C := .inr (.inr (c, f))
abbrev oN (ls st : List ex_V) (h : ex_H) : ex_O := some (.inl (ls, st, h))
abbrev oJ (b : Nat) (ls st : List ex_V) (h : ex_H) : ex_O := some (.inr (.inl (b, ls, st, h)))
abbrev oC (m : Nat) (as rest : List ex_V) (h : ex_H) : ex_O := some (.inr (.inr (.inl (m, as, rest, h))))
abbrev oR (vs : List ex_V) (h : ex_H) : ex_O := some (.inr (.inr (.inr (vs, h))))
def ex_wr (z : Int) : Int := (Int32.ofInt z).toInt
def ex_w64 (z : Int) : Int := (Int64.ofInt z).toInt
def ex_u (f : Int → Int) (i z : Int) : Int → Int := fun j => if j = i then z else f j
def ex_ar (σ : ex_S) (a : Nat) (f : Int → Int) : ex_S := fun b => if b = a then f else σ b
def ex_and (a b : Int) : Int := (Int32.ofInt a &&& Int32.ofInt b).toInt
def ex_or (a b : Int) : Int := (Int32.ofInt a ||| Int32.ofInt b).toInt
def ex_xor (a b : Int) : Int := (Int32.ofInt a ^^^ Int32.ofInt b).toInt
def ex_shl (a b : Int) : Int := (Int32.ofInt a <<< (Int32.ofInt b &&& 31)).toInt
def ex_shr (a b : Int) : Int := (Int32.ofInt a >>> (Int32.ofInt b &&& 31)).toInt
def ex_ushr (a b : Int) : Int := ((Int32.ofInt a).toUInt32 >>> ((Int32.ofInt b).toUInt32 &&& Int32.toUInt32 31)).toInt32.toInt
def ex_div (a b : Int) : Int := (Int32.ofInt a / Int32.ofInt b).toInt
def ex_rem (a b : Int) : Int := (Int32.ofInt a - Int32.ofInt a / Int32.ofInt b * Int32.ofInt b).toInt
def ex_cpy (f g : Int → Int) (sp dp n : Int) : Int → Int := fun j => if dp ≤ j ∧ j < dp + n then f (sp + (j - dp)) else g j
def ex_sh : ex_V → Bool
  | .inr (.inr _) => false
  | _ => true
/-- a call: its arguments off the stack; the receiver is an object of the method's class -/
def ex_ca (kd m : Nat) (st : List ex_V) (h : ex_H) : ex_O := match ex_mt[m]? with
  | some (k, own, n, _, _) => if k = kd ∧ n ≤ st.length ∧ st.length ≤ n + 8 ∧ st.all ex_sh = true then
      (if kd = 0 then oC m (st.take n).reverse (st.drop n) h else match (st.take n).reverse with
        | .inr (.inl a) :: _ => (match h.1[a]? with
          | some (.inr (.inr (c, _))) => if c = own then oC m (st.take n).reverse (st.drop n) h else none
          | _ => none)
        | _ => none) else none
  | none => none
def ex_bin (f : Int → Int → Int) (ls st : List ex_V) (h : ex_H) : ex_O := match st with
  | .inl b :: .inl a :: st' => oN ls (.inl (f a b) :: st') h
  | _ => none
def ex_br (p : Prop) [Decidable p] (t : Nat) (ls st : List ex_V) (h : ex_H) : ex_O := if p then oJ t ls st h else oN ls st h
def ex_if (c : Jvm.ClassFile.Cond) (a b : Int) (t : Nat) (ls st : List ex_V) (h : ex_H) : ex_O := match c with
  | .eq => ex_br (a = b) t ls st h
  | .ne => ex_br (a ≠ b) t ls st h
  | .lt => ex_br (a < b) t ls st h
  | .ge => ex_br (b ≤ a) t ls st h
  | .gt => ex_br (b < a) t ls st h
  | .le => ex_br (a ≤ b) t ls st h
def ex_st (rt : Nat) (ls st : List ex_V) (h : ex_H) : Instr → ex_O
  | .iload k => match ls[k]? with
    | some (.inl z) => oN ls (.inl z :: st) h
    | _ => none
  | .aload k => match ls[k]? with
    | some (.inr (.inl a)) => oN ls (.inr (.inl a) :: st) h
    | _ => none
  | .istore k => match st with
    | .inl z :: st' => if k < ls.length then oN (ls.set k (.inl z)) st' h else none
    | _ => none
  | .astore k => match st with
    | .inr (.inl a) :: st' => if k < ls.length then oN (ls.set k (.inr (.inl a))) st' h else none
    | _ => none
  | .iinc k c => match ls[k]? with
    | some (.inl z) => oN (ls.set k (.inl (ex_wr (z + c)))) st h
    | _ => none
  | .sipush v => oN ls (.inl v :: st) h
  | .iadd => ex_bin (fun a b => ex_wr (a + b)) ls st h
  | .isub => ex_bin (fun a b => ex_wr (a - b)) ls st h
  | .imul => ex_bin (fun a b => ex_wr (a * b)) ls st h
  | .iand => ex_bin ex_and ls st h
  | .ior => ex_bin ex_or ls st h
  | .ixor => ex_bin ex_xor ls st h
  | .ishl => ex_bin ex_shl ls st h
  | .ishr => ex_bin ex_shr ls st h
  | .iushr => ex_bin ex_ushr ls st h
  | .idiv => match st with
    | .inl b :: .inl a :: st' => if b = 0 then none else oN ls (.inl (ex_div a b) :: st') h
    | _ => none
  | .irem => match st with
    | .inl b :: .inl a :: st' => if b = 0 then none else oN ls (.inl (ex_rem a b) :: st') h
    | _ => none
  | .i2l => match st with
    | .inl a :: st' => oN ls (.inr (.inr a) :: st') h
    | _ => none
  | .ladd => match st with
    | .inr (.inr b) :: .inr (.inr a) :: st' => oN ls (.inr (.inr (ex_w64 (a + b))) :: st') h
    | _ => none
  | .lcmp => match st with
    | .inr (.inr b) :: .inr (.inr a) :: st' => oN ls (.inl (if b < a then 1 else if a = b then 0 else -1) :: st') h
    | _ => none
  | .dup => match st with
    | v :: st' => if ex_sh v = true then oN ls (v :: v :: st') h else none
    | _ => none
  | .dup2 => match st with
    | v :: w :: st' => if ex_sh v = true ∧ ex_sh w = true then oN ls (v :: w :: v :: w :: st') h else none
    | _ => none
  | .pop => match st with
    | v :: st' => if ex_sh v = true then oN ls st' h else none
    | _ => none
  | .arraylength => match st with
    | .inr (.inl a) :: st' => (match h.1[a]? with
      | some (.inl n) => oN ls (.inl (ex_wr n) :: st') h
      | _ => none)
    | _ => none
  | .iaload => match st with
    | .inl i :: .inr (.inl a) :: st' => (match h.1[a]? with
      | some (.inl n) => if 0 ≤ i ∧ i < (n : Int) then oN ls (.inl (h.2 a i) :: st') h else none
      | _ => none)
    | _ => none
  | .iastore => match st with
    | .inl z :: .inl i :: .inr (.inl a) :: st' => (match h.1[a]? with
      | some (.inl n) => if 4 ≤ a ∧ 0 ≤ i ∧ i < (n : Int) then oN ls st' (h.1, ex_ar h.2 a (ex_u (h.2 a) i z)) else none
      | _ => none)
    | _ => none
  | .aaload => match st with
    | .inl i :: .inr (.inl a) :: st' => (match h.1[a]? with
      | some (.inr (.inl r)) => if 4 ≤ a ∧ 0 ≤ i ∧ i < (r.length : Int) then (match r[i.toNat]? with
        | some (some x) => oN ls (.inr (.inl x) :: st') h
        | _ => none) else none
      | _ => none)
    | _ => none
  | .aastore => match st with
    | .inr (.inl v) :: .inl i :: .inr (.inl a) :: st' => (match h.1[a]? with
      | some (.inr (.inl r)) => if 4 ≤ a ∧ 0 ≤ i ∧ i < (r.length : Int) then (match h.1[v]? with
        | some (.inr (.inr (1, _))) => if 4 ≤ v then oN ls st' (h.1.set a (.inr (.inl (r.set i.toNat (some v)))), h.2) else none
        | _ => none) else none
      | _ => none)
    | _ => none
  | .newarray .int => match st with
    | .inl n :: st' => if 0 ≤ n ∧ n ≤ 65536 ∧ 4 ≤ h.1.length then oN ls (.inr (.inl h.1.length) :: st') (h.1 ++ [.inl n.toNat], ex_ar h.2 h.1.length (fun _ => 0)) else none
    | _ => none
  | .anewarray c => match st with
    | .inl n :: st' => if c = 1 ∧ 0 ≤ n ∧ n ≤ 65536 ∧ 4 ≤ h.1.length then oN ls (.inr (.inl h.1.length) :: st') (h.1 ++ [.inr (.inl (List.replicate n.toNat none))], h.2) else none
    | _ => none
  | .new c => match ex_cf[c]? with
    | some f => if 4 ≤ h.1.length then oN ls (.inr (.inl h.1.length) :: st) (h.1 ++ [.inr (.inr (c, f))], ex_ar h.2 h.1.length (fun _ => 0)) else none
    | none => none
  | .getfield q => match st with
    | .inr (.inl a) :: st' => (match h.1[a]? with
      | some (.inr (.inr (c, f))) => if 4 ≤ a ∧ c = q / 32 then (match f[q % 32]? with
        | some none => oN ls (.inl (h.2 a ((q % 32 : Nat) : Int)) :: st') h
        | some (some (some x)) => oN ls (.inr (.inl x) :: st') h
        | _ => none) else none
      | _ => none)
    | _ => none
  | .putfield q => match st with
    | v :: .inr (.inl a) :: st' => (match h.1[a]? with
      | some (.inr (.inr (c, f))) => if 4 ≤ a ∧ c = q / 32 then (match f[q % 32]?, v with
        | some none, .inl z => oN ls st' (h.1, ex_ar h.2 a (ex_u (h.2 a) ((q % 32 : Nat) : Int) z))
        | some (some _), .inr (.inl x) => oN ls st' (h.1.set a (.inr (.inr (c, f.set (q % 32) (some (some x))))), h.2)
        | _, _ => none) else none
      | _ => none)
    | _ => none
  | .getstatic k => if k < 3 then oN ls (.inr (.inl (k + 1)) :: st) h else none
  | .if_icmp c t => match st with
    | .inl b :: .inl a :: st' => ex_if c a b t.toNat ls st' h
    | _ => none
  | .ifCond c t => match st with
    | .inl a :: st' => ex_if c a 0 t.toNat ls st' h
    | _ => none
  | .ifnull _ => match st with
    | .inr (.inl _) :: st' => oN ls st' h
    | _ => none
  | .goto t => oJ t.toNat ls st h
  | .goto_w t => oJ t.toNat ls st h
  | .tableswitch df lo hi of => match st with
    | .inl a :: st' => if a < lo ∨ hi < a then oJ df.toNat ls st' h else (match of[(a - lo).toNat]? with
      | some t => oJ t.toNat ls st' h
      | none => none)
    | _ => none
  | .lookupswitch df ps => match st with
    | .inl a :: st' => oJ (Op.lookupswitch.offset ps.toList df a).toNat ls st' h
    | _ => none
  | .invokestatic m => ex_ca 0 m st h
  | .invokevirtual m => ex_ca 1 m st h
  | .invokespecial m => ex_ca 2 m st h
  | .invokedynamic k => if k = 1 then (match st with
      | .inr (.inl _) :: st' => if st'.length ≤ 8 ∧ st'.all ex_sh = true then oN ls st' h else none
      | _ => none) else (match st with
      | .inl n :: .inl dp :: .inr (.inl b) :: .inl sp :: .inr (.inl a) :: st' => (match h.1[a]?, h.1[b]? with
        | some (.inl n0), some (.inl n1) => if 4 ≤ a ∧ 4 ≤ b ∧ 0 ≤ sp ∧ 0 ≤ dp ∧ 0 ≤ n ∧ sp + n ≤ (n0 : Int) ∧ dp + n ≤ (n1 : Int) ∧ st'.length ≤ 8 ∧ st'.all ex_sh = true then
            oN ls st' (h.1, ex_ar h.2 b (ex_cpy (h.2 a) (h.2 b) sp dp n)) else none
        | _, _ => none)
      | _ => none)
  | .ireturn => match st with
    | [.inl z] => if rt = 1 ∨ (rt = 2 ∧ (z = 0 ∨ z = 1)) then oR [.inl z] h else none
    | _ => none
  | .return_ => match st with
    | [] => if rt = 0 then oR [] h else none
    | _ => none
  | .ret _ => match st with
    | [] => oR ls h
    | _ => none
  | _ => none
/-- a stretch of code: what it does up to its next jump, or its end -/
def ex_xs (rt : Nat) (J : Nat → List ex_V → List ex_V → ex_H → Option ex_R) (C : Nat → List ex_V → ex_H → Option ex_R) : List Instr → List ex_V → List ex_V → ex_H → Option ex_R
  | [], _, _, _ => none
  | i :: is, ls, st, h => match ex_st rt ls st h i with
    | none => none
    | some (.inl (ls', st', h')) => ex_xs rt J C is ls' st' h'
    | some (.inr (.inl (b, ls', st', h'))) => J b ls' st' h'
    | some (.inr (.inr (.inl (m, as, rest, h')))) => (match C m as h' with
      | some (vs, h'') => ex_xs rt J C is ls (vs ++ rest) h''
      | none => none)
    | some (.inr (.inr (.inr r))) => some r
def ex_rt (m : Nat) : Nat := match ex_mt[m]? with
  | some (_, _, _, _, r) => r
  | none => 0
def ex_fr (m : Nat) (as : List ex_V) : List ex_V := match ex_mt[m]? with
  | some (_, _, n, mL, _) => as ++ List.replicate (mL - n) (.inr (.inr 0))
  | none => as
def ex_k (f : Nat → Option ex_R) (d : Nat) : Option ex_R := match d with
  | 0 => none
  | d' + 1 => f d'
/-- the machine: d calls deep at most, n jumps at most -/
def ex_run : Nat → Nat → Nat → Nat → List ex_V → List ex_V → ex_H → Option ex_R
  | 0, _, _, _, _, _, _ => none
  | n + 1, d, m, b, ls, st, h => ex_xs (ex_rt m) (fun b' ls' st' h' => ex_run n d m b' ls' st' h')
      (fun m' as h' => ex_k (fun d' => ex_run n d' m' 0 (ex_fr m' as) [] h') d) (ex_bk m b) ls st h
/-! more fuel, more depth: the same answer -/
theorem ex_xs_mono {rt : Nat} {J J' : Nat → List ex_V → List ex_V → ex_H → Option ex_R} {C C' : Nat → List ex_V → ex_H → Option ex_R} (hJ : ∀ b ls st h r, J b ls st h = some r → J' b ls st h = some r) (hC : ∀ m as h r, C m as h = some r → C' m as h = some r) :
    ∀ (is : List Instr) (ls st : List ex_V) (h : ex_H) (r : ex_R), ex_xs rt J C is ls st h = some r → ex_xs rt J' C' is ls st h = some r := by
  intro is
  induction is with
  | nil => intro ls st h r e; simp [ex_xs] at e
  | cons i is ih =>
    intro ls st h r e
    unfold ex_xs at e ⊢
    split at e
    · cases e
    · exact ih _ _ _ _ e
    · exact hJ _ _ _ _ _ e
    · split at e
      · next hc => rw [hC _ _ _ _ hc]; exact ih _ _ _ _ e
      · cases e
    · exact e
theorem ex_run_mono : ∀ (n d m b : Nat) (ls st : List ex_V) (h : ex_H) (r : ex_R), ex_run n d m b ls st h = some r → ∀ n' d' : Nat, n ≤ n' → d ≤ d' → ex_run n' d' m b ls st h = some r := by
  intro n
  induction n with
  | zero => intro d m b ls st h r e; simp [ex_run] at e
  | succ n ih =>
    intro d m b ls st h r e n' d' hn hd
    obtain ⟨n'', rfl⟩ : ∃ k, n' = k + 1 := ⟨n' - 1, by omega⟩
    unfold ex_run at e ⊢
    refine ex_xs_mono (fun b ls st h r e => ih _ _ _ _ _ _ _ e _ _ (by omega) hd) (fun m as h r e => ?_) _ _ _ _ _ e
    cases d with
    | zero => cases e
    | succ d =>
      obtain ⟨d'', rfl⟩ : ∃ k, d' = k + 1 := ⟨d' - 1, by omega⟩
      exact ih _ _ _ _ _ _ _ e _ _ (by omega) (by omega)
/-- what a run comes to, however long it is -/
noncomputable def ex_ev (d m b : Nat) (ls st : List ex_V) (h : ex_H) : Option ex_R := by
  classical exact if e : ∃ r n, ex_run n d m b ls st h = some r then some e.choose else none
noncomputable def ex_cl (d m : Nat) (as : List ex_V) (h : ex_H) : Option ex_R := ex_ev d m 0 (ex_fr m as) [] h
/-- a call that stands d deep -/
noncomputable def ex_cd (d m : Nat) (as : List ex_V) (h : ex_H) : Option ex_R := ex_k (fun d' => ex_cl d' m as h) d
theorem ex_ev_some {d m b : Nat} {ls st : List ex_V} {h : ex_H} {r : ex_R} : ex_ev d m b ls st h = some r ↔ ∃ n, ex_run n d m b ls st h = some r := by
  classical
  unfold ex_ev
  constructor
  · intro e
    split at e
    · next hx =>
      cases e
      exact hx.choose_spec
    · cases e
  · rintro ⟨n, e⟩
    have hx : ∃ r n, ex_run n d m b ls st h = some r := ⟨r, n, e⟩
    rw [dif_pos hx]
    obtain ⟨n2, e2⟩ := hx.choose_spec
    have a1 := ex_run_mono _ _ _ _ _ _ _ _ e (n + n2) d (by omega) (Nat.le_refl _)
    have a2 := ex_run_mono _ _ _ _ _ _ _ _ e2 (n + n2) d (by omega) (Nat.le_refl _)
    rw [a1] at a2
    exact congrArg some (Option.some.inj a2).symm
theorem ex_ev_mono {d d' m b : Nat} {ls st : List ex_V} {h : ex_H} {r : ex_R} (e : ex_ev d m b ls st h = some r) (hd : d ≤ d') : ex_ev d' m b ls st h = some r := by
  obtain ⟨n, e⟩ := ex_ev_some.mp e
  exact ex_ev_some.mpr ⟨n, ex_run_mono _ _ _ _ _ _ _ _ e _ _ (Nat.le_refl _) hd⟩
theorem ex_cl_mono {d d' m : Nat} {as : List ex_V} {h : ex_H} {r : ex_R} (e : ex_cl d m as h = some r) (hd : d ≤ d') : ex_cl d' m as h = some r := ex_ev_mono e hd
theorem ex_xs_cont {rt : Nat} {J : Nat → List ex_V → List ex_V → ex_H → Option ex_R} {C : Nat → List ex_V → ex_H → Option ex_R} {Jn : Nat → Nat → List ex_V → List ex_V → ex_H → Option ex_R} {Cn : Nat → Nat → List ex_V → ex_H → Option ex_R}
    (mJ : ∀ n n' b ls st h r, n ≤ n' → Jn n b ls st h = some r → Jn n' b ls st h = some r) (mC : ∀ n n' m as h r, n ≤ n' → Cn n m as h = some r → Cn n' m as h = some r)
    (hJ : ∀ b ls st h r, J b ls st h = some r → ∃ n, Jn n b ls st h = some r) (hC : ∀ m as h r, C m as h = some r → ∃ n, Cn n m as h = some r) :
    ∀ (is : List Instr) (ls st : List ex_V) (h : ex_H) (r : ex_R), ex_xs rt J C is ls st h = some r → ∃ n, ex_xs rt (Jn n) (Cn n) is ls st h = some r := by
  intro is
  induction is with
  | nil => intro ls st h r e; simp [ex_xs] at e
  | cons i is ih =>
    intro ls st h r e
    unfold ex_xs at e ⊢
    split at e
    · cases e
    · exact ih _ _ _ _ e
    · exact hJ _ _ _ _ _ e
    · split at e
      · next hc =>
        obtain ⟨n1, e1⟩ := hC _ _ _ _ hc
        obtain ⟨n2, e2⟩ := ih _ _ _ _ e
        refine ⟨n1 + n2, ?_⟩
        simp only [mC _ (n1 + n2) _ _ _ _ (by omega) e1]
        exact ex_xs_mono (fun b ls st h r e => mJ _ _ _ _ _ _ _ (by omega) e) (fun m as h r e => mC _ _ _ _ _ _ (by omega) e) _ _ _ _ _ e2
      · cases e
    · exact ⟨0, e⟩
theorem ex_ev_eq (d m b : Nat) (ls st : List ex_V) (h : ex_H) : ex_ev d m b ls st h = ex_xs (ex_rt m) (ex_ev d m) (ex_cd d) (ex_bk m b) ls st h := by
  have key : ∀ r, ex_ev d m b ls st h = some r ↔ ex_xs (ex_rt m) (ex_ev d m) (ex_cd d) (ex_bk m b) ls st h = some r := by
    intro r
    rw [ex_ev_some]
    constructor
    · rintro ⟨n, e⟩
      cases n with
      | zero => simp [ex_run] at e
      | succ n =>
        unfold ex_run at e
        refine ex_xs_mono (fun b ls st h r e => ex_ev_some.mpr ⟨n, e⟩) (fun m as h r e => ?_) _ _ _ _ _ e
        cases d with
        | zero => cases e
        | succ d => exact ex_ev_some.mpr ⟨n, e⟩
    · intro e
      obtain ⟨n, e⟩ := ex_xs_cont (Jn := fun n b' ls' st' h' => ex_run n d m b' ls' st' h') (Cn := fun n m' as h' => ex_k (fun d' => ex_run n d' m' 0 (ex_fr m' as) [] h') d) (fun n n' b ls st h r hn e => ex_run_mono _ _ _ _ _ _ _ _ e _ _ hn (Nat.le_refl _)) (fun n n' m as h r hn e => by
          cases d with
          | zero => cases e
          | succ d => exact ex_run_mono _ _ _ _ _ _ _ _ e _ _ hn (Nat.le_refl _)) (fun b ls st h r e => ex_ev_some.mp e) (fun m as h r e => by
          cases d with
          | zero => cases e
          | succ d => exact ex_ev_some.mp e) _ _ _ _ _ e
      exact ⟨n + 1, e⟩
  cases ha : ex_ev d m b ls st h with
  | some r => exact ((key r).mp ha).symm
  | none =>
    cases hb : ex_xs (ex_rt m) (ex_ev d m) (ex_cd d) (ex_bk m b) ls st h with
    | none => rfl
    | some r => rw [(key r).mpr hb] at ha; cases ha
theorem ex_cd_of {d d' m : Nat} {as : List ex_V} {h : ex_H} {r : ex_R} (e : ex_cl d m as h = some r) (hd : d < d') : ex_cd d' m as h = some r := by
  obtain ⟨k, rfl⟩ : ∃ k, d' = k + 1 := ⟨d' - 1, by omega⟩
  exact ex_cl_mono e (by omega)
end
